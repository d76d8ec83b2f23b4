section OM
variable {l : Launch} {A : Nat → Prop} {L : List Nat} {τ : Nat → Nat} {cy : Nat → ClassId} {D : va_G} {K : (Nat → Nat) × (Nat → Nat)} {σ : oSt}
abbrev fs_X10_gate : List Nat := [129, 130, 327, 328, 329, 330, 331]
abbrev ts_X10_gate : List Nat := [32, 33, 34]
set_option maxHeartbeats 4000000 in
set_option maxRecDepth 100000 in
theorem c_X10_gate (a0 : Nat) (ha0 : oA L τ a0 9) (a1 : Int32) (a2 : Int32) : oMet l A L τ cy D K yX10_gate cX10_gate 3 (some .int) 4 123 [.ref a0, .int a1, .int a2] σ (va_Qi (fun r σ1 => oFr τ fs_X10_gate ts_X10_gate σ σ1) (oPo A L τ cy D) A) := by
  refine oMk (by decide) (Nat.le_of_ble_eq_true rfl) rfl ?_
  intro p e s m args below meth c ls cx rx hA hw hl
  generalize hQ : MQ below _ args s 0 0 A = Q
  have hx := cx.1.1
  have hb := cx.1.2.1
  have hml := cx.1.2.2.1
  have hown := cx.1.2.2.2.1
  have hts := cx.1.2.2.2.2
  have hl : lv_has ls 3 [(0, .ref a0), (1, .int a1), (2, .int a2)] := hl
  have fr : oFr τ fs_X10_gate ts_X10_gate σ σ := oFr_rf
  refine lv_aload_n hx hb dX10_gate_0 rfl (lv_at hl 0 rfl) ?_
  refine g_582 cx hw ha0 k_f_X10_53 dX10_gate_1 (fun v1 e1 h1 => ?_)
  refine lv_aload_n hx hb dX10_gate_4 rfl (lv_at hl 0 rfl) ?_
  refine g_581 cx hw ha0 k_f_X10_49 dX10_gate_5 (fun v2 e2 h2 => ?_)
  refine o_cv hw (oRunV cx hA hw q_X6_copyFrom k_m_X10_131 rfl h1 (by decide) (As := [.ref v2]) (c_X6_copyFrom v1 h1 v2 h2) (by decide) rfl hl.1 rfl (Nat.le_of_ble_eq_true rfl) dX10_gate_8 (by decide)) (fun σ3 H locs hp hw => ?_)
  have p4_0 := hp
  have fr := oFr_tr fr p4_0 (by decide)
  refine lv_aload_n hx hb dX10_gate_11 rfl (lv_at hl 0 rfl) ?_
  refine lv_aload_n hx hb dX10_gate_12 rfl (lv_at hl 0 rfl) ?_
  refine lv_iload_n hx hb dX10_gate_13 rfl (lv_at hl 1 rfl) ?_
  refine lv_iload_n hx hb dX10_gate_14 rfl (lv_at hl 2 rfl) ?_
  refine o_ci hw (oRunV cx hA hw q_X10_turn k_m_X10_263 rfl ha0 (by decide) (As := [.int a1, .int a2]) (c_X10_turn a0 ha0 a1 a2) (by decide) rfl hl.1 rfl (Nat.le_of_ble_eq_true rfl) dX10_gate_15 (by decide)) (fun v6 σ5 H locs hp hw => ?_)
  obtain ⟨p6_0, p6_1⟩ := hp
  have fr := oFr_tr fr p6_0 (by decide)
  refine o_ci hw (oRunV cx hA hw q_X10_remembered k_m_X10_260 rfl ha0 (by decide) (As := [.int v6]) (c_X10_remembered a0 ha0 v6) (by decide) rfl hl.1 rfl (Nat.le_of_ble_eq_true rfl) dX10_gate_18 (by decide)) (fun v8 σ7 H locs hp hw => ?_)
  have p8_0 := hp
  have fr := oFr_tr fr p8_0 (by decide)
  rw [← hQ]
  exact o_ri cx rx hw dX10_gate_21 fr
set_option maxHeartbeats 4000000 in
set_option maxRecDepth 100000 in
theorem c_X0_beside (a0 : Int64) : oMet l A L τ cy D K yX0_beside cX0_beside 2 (some .long) 0 0 [.long a0] σ (va_Ql (fun r σ1 => σ1 = σ) (oPo A L τ cy D) A) := by
  refine oMk (by decide) (Nat.le_of_ble_eq_true rfl) rfl ?_
  intro p e s m args below meth c ls cx rx hA hw hl
  generalize hQ : MQ below _ args s 0 0 A = Q
  have hx := cx.1.1
  have hb := cx.1.2.1
  have hml := cx.1.2.2.1
  have hown := cx.1.2.2.2.1
  have hts := cx.1.2.2.2.2
  have hl : lv_has ls 2 [(0, .long a0)] := hl
  refine lv_lload_n hx hb dX0_beside_0 rfl (lv_at hl 0 rfl) ?_
  refine lv_bipush (v := 8) hx hb dX0_beside_1 (by decide) ?_
  refine lv_lushr hx hb dX0_beside_3 rfl ?_
  refine lv_topl (fun v1 e1 => ?_)
  refine lv_lload_n hx hb dX0_beside_4 rfl (lv_at hl 0 rfl) ?_
  refine lv_bipush (v := 8) hx hb dX0_beside_5 (by decide) ?_
  refine lv_lshl hx hb dX0_beside_7 rfl ?_
  refine lv_topl (fun v2 e2 => ?_)
  refine lv_lor hx hb dX0_beside_8 ?_
  refine lv_topl (fun v3 e3 => ?_)
  refine lv_lload_n hx hb dX0_beside_9 rfl (lv_at hl 0 rfl) ?_
  refine lv_ldc2 (v := 9187201950435737471) hx hb hown (hts _ k_k_X0_17) dX0_beside_10 ?_
  refine lv_land hx hb dX0_beside_13 ?_
  refine lv_topl (fun v4 e4 => ?_)
  refine lv_iconst (v := 1) hx hb dX0_beside_14 (by decide) ?_
  refine lv_lshl hx hb dX0_beside_15 rfl ?_
  refine lv_topl (fun v5 e5 => ?_)
  refine lv_lor hx hb dX0_beside_16 ?_
  refine lv_topl (fun v6 e6 => ?_)
  refine lv_lload_n hx hb dX0_beside_17 rfl (lv_at hl 0 rfl) ?_
  refine lv_ldc2 (v := (-72340172838076674)) hx hb hown (hts _ k_k_X0_19) dX0_beside_18 ?_
  refine lv_land hx hb dX0_beside_21 ?_
  refine lv_topl (fun v7 e7 => ?_)
  refine lv_iconst (v := 1) hx hb dX0_beside_22 (by decide) ?_
  refine lv_lushr hx hb dX0_beside_23 rfl ?_
  refine lv_topl (fun v8 e8 => ?_)
  refine lv_lor hx hb dX0_beside_24 ?_
  refine lv_topl (fun v9 e9 => ?_)
  rw [← hQ]
  exact o_rl cx rx hw dX0_beside_25 rfl
abbrev fs_X10_chase : List Nat := [329]
abbrev ts_X10_chase : List Nat := [32, 33]
set_option maxHeartbeats 4000000 in
set_option maxRecDepth 100000 in
theorem c_X10_chase (a0 : Nat) (ha0 : oA L τ a0 9) (a1 : Int32) (a2 : Int32) : oMet l A L τ cy D K yX10_chase cX10_chase 6 (some .int) 2 44 [.ref a0, .int a1, .int a2] σ (va_Qi (fun r σ1 => oFr τ fs_X10_chase ts_X10_chase σ σ1 ∧ Iv r (-2) 63) (oPo A L τ cy D) A) := by
  refine oMk (by decide) (Nat.le_of_ble_eq_true rfl) rfl ?_
  intro p e s m args below meth c ls cx rx hA hw hl
  generalize hQ : MQ below _ args s 0 0 A = Q
  have hx := cx.1.1
  have hb := cx.1.2.1
  have hml := cx.1.2.2.1
  have hown := cx.1.2.2.2.1
  have hts := cx.1.2.2.2.2
  have hl : lv_has ls 6 [(0, .ref a0), (1, .int a1), (2, .int a2)] := hl
  have fr : oFr τ fs_X10_chase ts_X10_chase σ σ := oFr_rf
  refine lv_aload_n hx hb dX10_chase_0 rfl (lv_at hl 0 rfl) ?_
  refine g_581 cx hw ha0 k_f_X10_49 dX10_chase_1 (fun v1 e1 h1 => ?_)
  refine lv_iload_n hx hb dX10_chase_4 rfl (lv_at hl 1 rfl) ?_
  refine o_ci hw (oRunV cx hA hw q_X6_hasHerd k_m_X10_178 rfl h1 (by decide) (As := [.int a1]) (c_X6_hasHerd v1 h1 a1) (by decide) rfl hl.1 rfl (Nat.le_of_ble_eq_true rfl) dX10_chase_5 (by decide)) (fun v3 σ2 H locs hp hw => ?_)
  obtain ⟨p3_0, p3_1, p3_2⟩ := hp
  rw [p3_0] at hw
  refine lv_if_eq (tgt := 22) hx hb dX10_chase_8 (by decide) (fun c4 => ?_) (fun c4 => ?_)
  · --
    have i5 : Iv v3 0 0 := iv_eq1 c4 p3_1 (⟨by decide, by decide⟩ : Iv 0 0 0) (by decide)
    refine lv_iconst (v := (-1)) hx hb dX10_chase_22 (by decide) ?_
    rw [← hQ]
    exact o_ri cx rx hw dX10_chase_23 ⟨fr, (iv_w (⟨by decide, by decide⟩ : Iv (-1) (-1) (-1)) (by decide))⟩
  · --
    have i6 : Iv v3 1 1 := iv_ne1 c4 p3_1 (⟨by decide, by decide⟩ : Iv 0 0 0) (by decide)
    have i7 : Iv a1 0 5 := p3_2 c4
    refine lv_aload_n hx hb dX10_chase_11 rfl (lv_at hl 0 rfl) ?_
    refine g_578 cx hw ha0 k_f_X10_26 dX10_chase_12 (fun v8 e8 h8 => ?_)
    refine lv_iload_n hx hb dX10_chase_15 rfl (lv_at hl 2 rfl) ?_
    refine o_ci hw (oRunV cx hA hw q_X2_isThere k_m_X10_135 rfl h8 (by decide) (As := [.int a2]) (c_X2_isThere v8 h8 a2) (by decide) rfl hl.1 rfl (Nat.le_of_ble_eq_true rfl) dX10_chase_16 (by decide)) (fun v10 σ9 H locs hp hw => ?_)
    obtain ⟨p10_0, p10_1, p10_2⟩ := hp
    rw [p10_0] at hw
    refine lv_if_ne (tgt := 24) hx hb dX10_chase_19 (by decide) (fun c11 => ?_) (fun c11 => ?_)
    · --
      have i12 : Iv v10 1 1 := iv_ne1 c11 p10_1 (⟨by decide, by decide⟩ : Iv 0 0 0) (by decide)
      have i13 : Iv a2 0 63 := p10_2 c11
      refine lv_aload_n hx hb dX10_chase_24 rfl (lv_at hl 0 rfl) ?_
      refine g_581 cx hw ha0 k_f_X10_49 dX10_chase_25 (fun v14 e14 h14 => ?_)
      rw [show v14 = v1 from Option.some.inj (e14.symm.trans (e1))]
      refine g_325 cx hw h1 k_f_X10_183 dX10_chase_28 (fun v15 e15 h15 => ?_)
      refine lv_iload_n hx hb dX10_chase_31 rfl (lv_at hl 1 rfl) ?_
      refine o_iald cx hw h15 (by decide) rfl (iv_in i7 (by decide)) dX10_chase_32 (fun v16 e16 b16 => ?_)
      have i16 : Iv v16 0 63 := b16
      refine lv_istore_n (lv' := [(3, .int v16), (0, .ref a0), (1, .int a1), (2, .int a2)]) hx hb dX10_chase_33 rfl hl (by decide) rfl (fun ls hl => ?_)
      refine lv_iload_n hx hb dX10_chase_34 rfl (lv_at hl 0 rfl) ?_
      refine o_cl hw (oRunS cx hA hw q_X0_bit k_m_X10_312 (As := [.int v16]) (c_X0_bit v16) (by decide) rfl hl.1 rfl (Nat.le_of_ble_eq_true rfl) dX10_chase_35 (by decide)) (fun v18 σ17 H locs hp hw => ?_)
      have p18_0 := hp
      rw [p18_0] at hw
      refine o_cl hw (oRunS cx hA hw q_X0_beside k_m_X10_317 (As := [.long v18]) (c_X0_beside v18) (by decide) rfl hl.1 rfl (Nat.le_of_ble_eq_true rfl) dX10_chase_38 (by decide)) (fun v20 σ19 H locs hp hw => ?_)
      have p20_0 := hp
      rw [p20_0] at hw
      refine lv_aload_n hx hb dX10_chase_41 rfl (lv_at hl 1 rfl) ?_
      refine g_578 cx hw ha0 k_f_X10_26 dX10_chase_42 (fun v21 e21 h21 => ?_)
      rw [show v21 = v8 from Option.some.inj (e21.symm.trans (e8))]
      refine lv_aload_n hx hb dX10_chase_45 rfl (lv_at hl 1 rfl) ?_
      refine g_581 cx hw ha0 k_f_X10_49 dX10_chase_46 (fun v22 e22 h22 => ?_)
      rw [show v22 = v1 from Option.some.inj (e22.symm.trans (e1))]
      refine g_330 cx hw h1 k_f_X10_154 dX10_chase_49 (fun v23 e23 => ?_)
      refine o_cl hw (oRunV cx hA hw q_X2_openTo k_m_X10_195 rfl h8 (by decide) (As := [.int v23]) (c_X2_openTo v8 h8 v23) (by decide) rfl hl.1 rfl (Nat.le_of_ble_eq_true rfl) dX10_chase_52 (by decide)) (fun v25 σ24 H locs hp hw => ?_)
      have p25_0 := hp
      rw [p25_0] at hw
      refine lv_land hx hb dX10_chase_55 ?_
      refine lv_topl (fun v26 e26 => ?_)
      refine lv_lstore (lv' := [(4, .long v26), (3, .int v16), (0, .ref a0), (1, .int a1), (2, .int a2)]) hx hb dX10_chase_56 hl (by decide) rfl (fun ls hl => ?_)
      refine lv_lload hx hb dX10_chase_58 (lv_at hl 0 rfl) ?_
      refine lv_iload_n hx hb dX10_chase_60 rfl (lv_at hl 4 rfl) ?_
      refine o_ci hw (oRunS cx hA hw q_X0_has k_m_X10_321 (As := [.long v26, .int a2]) (c_X0_has v26 a2) (by decide) rfl hl.1 rfl (Nat.le_of_ble_eq_true rfl) dX10_chase_61 (by decide)) (fun v28 σ27 H locs hp hw => ?_)
      obtain ⟨p28_0, p28_1, p28_2⟩ := hp
      rw [p28_0] at hw
      refine lv_if_ne (tgt := 70) hx hb dX10_chase_64 (by decide) (fun c29 => ?_) (fun c29 => ?_)
      · --
        have i30 : Iv v28 1 1 := iv_ne1 c29 p28_1 (⟨by decide, by decide⟩ : Iv 0 0 0) (by decide)
        have i31 : Iv a2 0 63 := p28_2 c29
        refine lv_aload_n hx hb dX10_chase_70 rfl (lv_at hl 2 rfl) ?_
        refine g_581 cx hw ha0 k_f_X10_49 dX10_chase_71 (fun v32 e32 h32 => ?_)
        rw [show v32 = v1 from Option.some.inj (e32.symm.trans (e1))]
        refine lv_iload_n hx hb dX10_chase_74 rfl (lv_at hl 3 rfl) ?_
        refine lv_iload_n hx hb dX10_chase_75 rfl (lv_at hl 4 rfl) ?_
        refine o_cv hw (oRunV cx hA hw q_X6_tread k_m_X10_325 rfl h1 (by decide) (As := [.int a1, .int a2]) (c_X6_tread v1 h1 a1 (iv_w i7 (by decide)) a2 (iv_w i31 (by decide))) (by decide) rfl hl.1 rfl (Nat.le_of_ble_eq_true rfl) dX10_chase_76 (by decide)) (fun σ33 H locs hp hw => ?_)
        have p34_0 := hp
        have fr := oFr_tr fr p34_0 (by decide)
        refine lv_iload_n hx hb dX10_chase_79 rfl (lv_at hl 1 rfl) ?_
        rw [← hQ]
        exact o_ri cx rx hw dX10_chase_80 ⟨fr, (iv_w i16 (by decide))⟩
      · --
        have i35 : Iv v28 0 0 := iv_eq1 c29 p28_1 (⟨by decide, by decide⟩ : Iv 0 0 0) (by decide)
        refine lv_bipush (v := (-2)) hx hb dX10_chase_67 (by decide) ?_
        rw [← hQ]
        exact o_ri cx rx hw dX10_chase_69 ⟨fr, (iv_w (⟨by decide, by decide⟩ : Iv (-2) (-2) (-2)) (by decide))⟩
    · --
      have i36 : Iv v10 0 0 := iv_eq1 c11 p10_1 (⟨by decide, by decide⟩ : Iv 0 0 0) (by decide)
      refine lv_iconst (v := (-1)) hx hb dX10_chase_22 (by decide) ?_
      rw [← hQ]
      exact o_ri cx rx hw dX10_chase_23 ⟨fr, (iv_w (⟨by decide, by decide⟩ : Iv (-1) (-1) (-1)) (by decide))⟩
abbrev fs_X10_drive : List Nat := [129, 130, 327, 328, 329, 330, 331]
abbrev ts_X10_drive : List Nat := [32, 33, 34]
set_option maxHeartbeats 4000000 in
set_option maxRecDepth 100000 in
theorem c_X10_drive (a0 : Nat) (ha0 : oA L τ a0 9) (a1 : Int32) (a2 : Int32) : oMet l A L τ cy D K yX10_drive cX10_drive 3 (some .int) 4 123 [.ref a0, .int a1, .int a2] σ (va_Qi (fun r σ1 => oFr τ fs_X10_drive ts_X10_drive σ σ1) (oPo A L τ cy D) A) := by
  refine oMk (by decide) (Nat.le_of_ble_eq_true rfl) rfl ?_
  intro p e s m args below meth c ls cx rx hA hw hl
  generalize hQ : MQ below _ args s 0 0 A = Q
  have hx := cx.1.1
  have hb := cx.1.2.1
  have hml := cx.1.2.2.1
  have hown := cx.1.2.2.2.1
  have hts := cx.1.2.2.2.2
  have hl : lv_has ls 3 [(0, .ref a0), (1, .int a1), (2, .int a2)] := hl
  have fr : oFr τ fs_X10_drive ts_X10_drive σ σ := oFr_rf
  refine lv_aload_n hx hb dX10_drive_0 rfl (lv_at hl 0 rfl) ?_
  refine g_582 cx hw ha0 k_f_X10_53 dX10_drive_1 (fun v1 e1 h1 => ?_)
  refine lv_aload_n hx hb dX10_drive_4 rfl (lv_at hl 0 rfl) ?_
  refine g_581 cx hw ha0 k_f_X10_49 dX10_drive_5 (fun v2 e2 h2 => ?_)
  refine o_cv hw (oRunV cx hA hw q_X6_copyFrom k_m_X10_131 rfl h1 (by decide) (As := [.ref v2]) (c_X6_copyFrom v1 h1 v2 h2) (by decide) rfl hl.1 rfl (Nat.le_of_ble_eq_true rfl) dX10_drive_8 (by decide)) (fun σ3 H locs hp hw => ?_)
  have p4_0 := hp
  have fr := oFr_tr fr p4_0 (by decide)
  refine lv_aload_n hx hb dX10_drive_11 rfl (lv_at hl 0 rfl) ?_
  refine lv_aload_n hx hb dX10_drive_12 rfl (lv_at hl 0 rfl) ?_
  refine lv_iload_n hx hb dX10_drive_13 rfl (lv_at hl 1 rfl) ?_
  refine lv_iload_n hx hb dX10_drive_14 rfl (lv_at hl 2 rfl) ?_
  refine o_ci hw (oRunV cx hA hw q_X10_chase k_m_X10_266 rfl ha0 (by decide) (As := [.int a1, .int a2]) (c_X10_chase a0 ha0 a1 a2) (by decide) rfl hl.1 rfl (Nat.le_of_ble_eq_true rfl) dX10_drive_15 (by decide)) (fun v6 σ5 H locs hp hw => ?_)
  obtain ⟨p6_0, p6_1⟩ := hp
  have fr := oFr_tr fr p6_0 (by decide)
  refine o_ci hw (oRunV cx hA hw q_X10_remembered k_m_X10_260 rfl ha0 (by decide) (As := [.int v6]) (c_X10_remembered a0 ha0 v6) (by decide) rfl hl.1 rfl (Nat.le_of_ble_eq_true rfl) dX10_drive_18 (by decide)) (fun v8 σ7 H locs hp hw => ?_)
  have p8_0 := hp
  have fr := oFr_tr fr p8_0 (by decide)
  rw [← hQ]
  exact o_ri cx rx hw dX10_drive_21 fr
abbrev fs_X6_graze : List Nat := []
abbrev ts_X6_graze : List Nat := [32]
set_option maxHeartbeats 4000000 in
set_option maxRecDepth 100000 in
theorem c_X6_graze (a0 : Nat) (ha0 : oA L τ a0 5) (a1 : Int32) (ia1 : Iv a1 0 63) : oMet l A L τ cy D K yX6_graze cX6_graze 2 none 0 0 [.ref a0, .int a1] σ (va_Qv (fun σ1 => oFr τ fs_X6_graze ts_X6_graze σ σ1) (oPo A L τ cy D) A) := by
  refine oMk (by decide) (Nat.le_of_ble_eq_true rfl) rfl ?_
  intro p e s m args below meth c ls cx rx hA hw hl
  generalize hQ : MQ below _ args s 0 0 A = Q
  have hx := cx.1.1
  have hb := cx.1.2.1
  have hml := cx.1.2.2.1
  have hown := cx.1.2.2.2.1
  have hts := cx.1.2.2.2.2
  have hl : lv_has ls 2 [(0, .ref a0), (1, .int a1)] := hl
  have fr : oFr τ fs_X6_graze ts_X6_graze σ σ := oFr_rf
  refine lv_aload_n hx hb dX6_graze_0 rfl (lv_at hl 0 rfl) ?_
  refine g_320 cx hw ha0 k_f_X6_9 dX6_graze_1 (fun v1 e1 h1 => ?_)
  refine lv_iload_n hx hb dX6_graze_4 rfl (lv_at hl 1 rfl) ?_
  refine o_iald cx hw h1 (by decide) rfl (iv_in ia1 (by decide)) dX6_graze_5 (fun v2 e2 b2 => ?_)
  refine lv_if_le (tgt := 22) hx hb dX6_graze_6 (by decide) (fun c3 => ?_) (fun c3 => ?_)
  · --
    have i4 : Iv v2 (-2147483648) 0 := iv_le1 c3 (iv_top v2) (⟨by decide, by decide⟩ : Iv 0 0 0) (by decide)
    refine lv_aload_n hx hb dX6_graze_22 rfl (lv_at hl 0 rfl) ?_
    refine g_321 cx hw ha0 k_f_X6_15 dX6_graze_23 (fun v5 e5 h5 => ?_)
    refine lv_iload_n hx hb dX6_graze_26 rfl (lv_at hl 1 rfl) ?_
    refine o_iald cx hw h5 (by decide) rfl (iv_in ia1 (by decide)) dX6_graze_27 (fun v6 e6 b6 => ?_)
    refine lv_if_le (tgt := 41) hx hb dX6_graze_28 (by decide) (fun c7 => ?_) (fun c7 => ?_)
    · --
      have i8 : Iv v6 (-2147483648) 0 := iv_le1 c7 (iv_top v6) (⟨by decide, by decide⟩ : Iv 0 0 0) (by decide)
      rw [← hQ]
      exact o_rv cx rx hw dX6_graze_41 fr
    · --
      have i9 : Iv v6 1 2147483647 := iv_lt2 (iv_nle c7) (⟨by decide, by decide⟩ : Iv 0 0 0) (iv_top v6) (by decide)
      refine lv_aload_n hx hb dX6_graze_31 rfl (lv_at hl 0 rfl) ?_
      refine g_321 cx hw ha0 k_f_X6_15 dX6_graze_32 (fun v10 e10 h10 => ?_)
      rw [show v10 = v5 from Option.some.inj (e10.symm.trans (e5))]
      refine lv_iload_n hx hb dX6_graze_35 rfl (lv_at hl 1 rfl) ?_
      refine lv_dup2_11 hx hb dX6_graze_36 rfl rfl ?_
      refine o_iald cx hw h5 (by decide) rfl (iv_in ia1 (by decide)) dX6_graze_37 (fun v11 e11 b11 => ?_)
      refine lv_iconst (v := 1) hx hb dX6_graze_38 (by decide) ?_
      refine lv_isub hx hb dX6_graze_39 ?_
      refine lv_topi (fun v12 e12 => ?_)
      refine o_iast cx hw h5 (by decide) rfl (iv_in ia1 (by decide)) trivial dX6_graze_40 (fun σ13 H locs eσ13 hw => ?_)
      have fr := oFr_p fr eσ13 h5 (by decide)
      rw [← hQ]
      exact o_rv cx rx hw dX6_graze_41 fr
  · --
    have i14 : Iv v2 1 2147483647 := iv_lt2 (iv_nle c3) (⟨by decide, by decide⟩ : Iv 0 0 0) (iv_top v2) (by decide)
    refine lv_aload_n hx hb dX6_graze_9 rfl (lv_at hl 0 rfl) ?_
    refine g_320 cx hw ha0 k_f_X6_9 dX6_graze_10 (fun v15 e15 h15 => ?_)
    rw [show v15 = v1 from Option.some.inj (e15.symm.trans (e1))]
    refine lv_iload_n hx hb dX6_graze_13 rfl (lv_at hl 1 rfl) ?_
    refine lv_dup2_11 hx hb dX6_graze_14 rfl rfl ?_
    refine o_iald cx hw h1 (by decide) rfl (iv_in ia1 (by decide)) dX6_graze_15 (fun v16 e16 b16 => ?_)
    refine lv_iconst (v := 1) hx hb dX6_graze_16 (by decide) ?_
    refine lv_isub hx hb dX6_graze_17 ?_
    refine lv_topi (fun v17 e17 => ?_)
    refine o_iast cx hw h1 (by decide) rfl (iv_in ia1 (by decide)) trivial dX6_graze_18 (fun σ18 H locs eσ18 hw => ?_)
    have fr := oFr_p fr eσ18 h1 (by decide)
    refine lv_goto (tgt := 41) hx hb dX6_graze_19 (by decide) ?_
    rw [← hQ]
    exact o_rv cx rx hw dX6_graze_41 fr
set_option maxHeartbeats 4000000 in
set_option maxRecDepth 100000 in
theorem c_X6_herdCells (a0 : Nat) (ha0 : oA L τ a0 5) : oMet l A L τ cy D K yX6_herdCells cX6_herdCells 4 (some .long) 1 20 [.ref a0] σ (va_Ql (fun r σ1 => σ1 = σ) (oPo A L τ cy D) A) := by
  refine oMk (by decide) (Nat.le_of_ble_eq_true rfl) rfl ?_
  intro p e s m args below meth c ls cx rx hA hw hl
  generalize hQ : MQ below _ args s 0 0 A = Q
  have hx := cx.1.1
  have hb := cx.1.2.1
  have hml := cx.1.2.2.1
  have hown := cx.1.2.2.2.1
  have hts := cx.1.2.2.2.2
  have hl : lv_has ls 4 [(0, .ref a0)] := hl
  refine lv_lconst (v := 0) hx hb dX6_herdCells_0 (by decide) ?_
  refine lv_lstore_n (lv' := [(1, .long 0), (0, .ref a0)]) hx hb dX6_herdCells_1 rfl hl (by decide) rfl (fun ls hl => ?_)
  refine lv_iconst (v := 0) hx hb dX6_herdCells_2 (by decide) ?_
  refine lv_istore_n (lv' := [(3, .int 0), (1, .long 0), (0, .ref a0)]) hx hb dX6_herdCells_3 rfl hl (by decide) rfl (fun ls hl => ?_)
  have J_4 : ∀ n : Nat, ∀ (j4_1 : Int64) (j4_3 : Int32) (ij4_3 : Iv j4_3 0 6), (6 - j4_3.toInt).toNat < n → ∀ (H : Heap) (locs : List Loc), oI A L τ cy D s.heap σ H locs → ∀ (ls : Array Slot), lv_has ls 4 [(0, .ref a0), (1, .long j4_1), (3, .int j4_3)] → W p l e ({ frames := 1, cells := 0, slots := 0, locals := 20 } : Room) s m args below meth c H locs 0 0 Q (F0 m 4 ls []) := by
    intro n
    induction n with
    | zero => intro j4_1 j4_3 ij4_3 hn_4  H locs hw  ls hl; exact absurd hn_4 (Nat.not_lt_zero _)
    | succ n ih_4 =>
      intro j4_1 j4_3 ij4_3 hn_4  H locs hw  ls hl
      refine lv_iload_n hx hb dX6_herdCells_4 rfl (lv_at hl 2 rfl) ?_
      refine lv_aload_n hx hb dX6_herdCells_5 rfl (lv_at hl 0 rfl) ?_
      refine g_327 cx hw ha0 k_f_X6_39 dX6_herdCells_6 (fun v1 e1 i1 => ?_)
      refine lv_icmp_ge (tgt := 30) hx hb dX6_herdCells_9 (by decide) (fun c2 => ?_) (fun c2 => ?_)
      · --
        refine lv_lload_n hx hb dX6_herdCells_30 rfl (lv_at hl 1 rfl) ?_
        rw [← hQ]
        exact o_rl cx rx hw dX6_herdCells_31 rfl
      · --
        have i3 : Iv j4_3 0 5 := iv_lt1 (iv_nle c2) ij4_3 i1 (by decide)
        have i4 : Iv v1 1 6 := iv_lt2 (iv_nle c2) ij4_3 i1 (by decide)
        refine lv_lload_n hx hb dX6_herdCells_12 rfl (lv_at hl 1 rfl) ?_
        refine lv_aload_n hx hb dX6_herdCells_13 rfl (lv_at hl 0 rfl) ?_
        refine g_325 cx hw ha0 k_f_X6_27 dX6_herdCells_14 (fun v5 e5 h5 => ?_)
        refine lv_iload_n hx hb dX6_herdCells_17 rfl (lv_at hl 2 rfl) ?_
        refine o_iald cx hw h5 (by decide) rfl (iv_in i3 (by decide)) dX6_herdCells_18 (fun v6 e6 b6 => ?_)
        have i6 : Iv v6 0 63 := b6
        refine o_cl hw (oRunS cx hA hw q_X0_bit k_m_X6_69 (As := [.int v6]) (c_X0_bit v6) (by decide) rfl hl.1 rfl (Nat.le_of_ble_eq_true rfl) dX6_herdCells_19 (by decide)) (fun v8 σ7 H locs hp hw => ?_)
        have p8_0 := hp
        rw [p8_0] at hw
        refine lv_lor hx hb dX6_herdCells_22 ?_
        refine lv_topl (fun v9 e9 => ?_)
        refine lv_lstore_n (lv' := [(1, .long v9), (0, .ref a0), (3, .int j4_3)]) hx hb dX6_herdCells_23 rfl hl (by decide) rfl (fun ls hl => ?_)
        obtain ⟨v10, e10⟩ : ∃ y : Int32, y = j4_3 + 1 := ⟨_, rfl⟩
        have i10 : Iv v10 1 6 := iv_add e10 i3 (⟨by decide, by decide⟩ : Iv 1 1 1) (by decide)
        have x10 : v10.toInt = j4_3.toInt + 1 := ex_add e10 i3 (⟨by decide, by decide⟩ : Iv 1 1 1) (by decide)
        refine lv_iinc (v := v10) (lv' := [(3, .int v10), (1, .long v9), (0, .ref a0)]) hx hb dX6_herdCells_24 hl (k := 2) rfl (by rw [e10]; rfl) (by decide) rfl (fun ls hl => ?_)
        refine lv_goto (tgt := 4) hx hb dX6_herdCells_27 (by decide) ?_
        exact ih_4 v9 v10 (iv_w i10 (by decide)) (ms_up x10 (by decide) (iv_w (a' := 0) (b' := 6) i10 (by decide)).2 hn_4) _ _ hw _ (lv_sub hl [2, 1, 0] rfl)
  exact J_4 _ 0 0 (iv_w (⟨by decide, by decide⟩ : Iv 0 0 0) (by decide)) (Nat.lt_succ_self _) _ _ hw _ (lv_sub hl [2, 1, 0] rfl)
abbrev fs_X9_grow : List Nat := []
abbrev ts_X9_grow : List Nat := [32]
set_option maxHeartbeats 4000000 in
set_option maxRecDepth 100000 in
theorem c_X9_grow (a0 : Nat) (ha0 : oA L τ a0 8) (a1 : Nat) (ha1 : oA L τ a1 5) : oMet l A L τ cy D K yX9_grow cX9_grow 5 none 2 43 [.ref a0, .ref a1] σ (va_Qv (fun σ1 => oFr τ fs_X9_grow ts_X9_grow σ σ1) (oPo A L τ cy D) A) := by
  refine oMk (by decide) (Nat.le_of_ble_eq_true rfl) rfl ?_
  intro p e s m args below meth c ls cx rx hA hw hl
  generalize hQ : MQ below _ args s 0 0 A = Q
  have hx := cx.1.1
  have hb := cx.1.2.1
  have hml := cx.1.2.2.1
  have hown := cx.1.2.2.2.1
  have hts := cx.1.2.2.2.2
  have hl : lv_has ls 5 [(0, .ref a0), (1, .ref a1)] := hl
  have fr : oFr τ fs_X9_grow ts_X9_grow σ σ := oFr_rf
  refine lv_aload_n hx hb dX9_grow_0 rfl (lv_at hl 1 rfl) ?_
  refine o_cl hw (oRunV cx hA hw q_X6_herdCells k_m_X9_132 rfl ha1 (by decide) (As := []) (c_X6_herdCells a1 ha1) (by decide) rfl hl.1 rfl (Nat.le_of_ble_eq_true rfl) dX9_grow_1 (by decide)) (fun v2 σ1 H locs hp hw => ?_)
  have p2_0 := hp
  rw [p2_0] at hw
  refine lv_lstore_n (lv' := [(2, .long v2), (0, .ref a0), (1, .ref a1)]) hx hb dX9_grow_4 rfl hl (by decide) rfl (fun ls hl => ?_)
  refine lv_iconst (v := 0) hx hb dX9_grow_5 (by decide) ?_
  refine lv_istore (lv' := [(4, .int 0), (2, .long v2), (0, .ref a0), (1, .ref a1)]) hx hb dX9_grow_6 hl (by decide) rfl (fun ls hl => ?_)
  have J_8 : ∀ n : Nat, ∀ (j8_4 : Int32) (ij8_4 : Iv j8_4 0 64), (64 - j8_4.toInt).toNat < n → ∀ (σ_8 : oSt) (H : Heap) (locs : List Loc), oI A L τ cy D s.heap σ_8 H locs → oFr τ fs_X9_grow ts_X9_grow σ σ_8 → ∀ (ls : Array Slot), lv_has ls 5 [(0, .ref a0), (1, .ref a1), (2, .long v2), (4, .int j8_4)] → W p l e ({ frames := 2, cells := 0, slots := 0, locals := 43 } : Room) s m args below meth c H locs 0 0 Q (F0 m 8 ls []) := by
    intro n
    induction n with
    | zero => intro j8_4 ij8_4 hn_8  σ_8 H locs hw fr   ls hl; exact absurd hn_8 (Nat.not_lt_zero _)
    | succ n ih_8 =>
      intro j8_4 ij8_4 hn_8  σ_8 H locs hw fr   ls hl
      refine lv_iload hx hb dX9_grow_8 (lv_at hl 3 rfl) ?_
      refine lv_bipush (v := 64) hx hb dX9_grow_10 (by decide) ?_
      refine lv_icmp_ge (tgt := 63) hx hb dX9_grow_12 (by decide) (fun c3 => ?_) (fun c3 => ?_)
      · --
        have i4 : Iv j8_4 64 64 := iv_le2 c3 (⟨by decide, by decide⟩ : Iv 64 64 64) ij8_4 (by decide)
        rw [← hQ]
        exact o_rv cx rx hw dX9_grow_63 fr
      · --
        have i5 : Iv j8_4 0 63 := iv_lt1 (iv_nle c3) ij8_4 (⟨by decide, by decide⟩ : Iv 64 64 64) (by decide)
        refine lv_aload_n hx hb dX9_grow_15 rfl (lv_at hl 0 rfl) ?_
        refine g_512 cx hw ha0 k_f_X9_24 dX9_grow_16 (fun v6 e6 h6 => ?_)
        refine lv_iload hx hb dX9_grow_19 (lv_at hl 3 rfl) ?_
        refine o_ci hw (oRunV cx hA hw q_X2_isPlain k_m_X9_136 rfl h6 (by decide) (As := [.int j8_4]) (c_X2_isPlain v6 h6 j8_4) (by decide) rfl hl.1 rfl (Nat.le_of_ble_eq_true rfl) dX9_grow_21 (by decide)) (fun v8 σ7 H locs hp hw => ?_)
        obtain ⟨p8_0, p8_1, p8_2⟩ := hp
        rw [p8_0] at hw
        have J_57 : ∀ (σ_57 : oSt) (H : Heap) (locs : List Loc), oI A L τ cy D s.heap σ_57 H locs → oFr τ fs_X9_grow ts_X9_grow σ σ_57 → ∀ (ls : Array Slot), lv_has ls 5 [(0, .ref a0), (1, .ref a1), (2, .long v2), (4, .int j8_4)] → W p l e ({ frames := 2, cells := 0, slots := 0, locals := 43 } : Room) s m args below meth c H locs 0 0 Q (F0 m 57 ls []) := by
          intro    σ_57 H locs hw fr   ls hl
          obtain ⟨v9, e9⟩ : ∃ y : Int32, y = j8_4 + 1 := ⟨_, rfl⟩
          have i9 : Iv v9 1 64 := iv_add e9 i5 (⟨by decide, by decide⟩ : Iv 1 1 1) (by decide)
          have x9 : v9.toInt = j8_4.toInt + 1 := ex_add e9 i5 (⟨by decide, by decide⟩ : Iv 1 1 1) (by decide)
          refine lv_iinc (v := v9) (lv' := [(4, .int v9), (0, .ref a0), (1, .ref a1), (2, .long v2)]) hx hb dX9_grow_57 hl (k := 3) rfl (by rw [e9]; rfl) (by decide) rfl (fun ls hl => ?_)
          refine lv_goto (tgt := 8) hx hb dX9_grow_60 (by decide) ?_
          exact ih_8 v9 (iv_w i9 (by decide)) (ms_up x9 (by decide) (iv_w (a' := 0) (b' := 64) i9 (by decide)).2 hn_8) σ_57 _ _ hw fr _ (lv_sub hl [1, 2, 3, 0] rfl)
        refine lv_if_eq (tgt := 57) hx hb dX9_grow_24 (by decide) (fun c10 => ?_) (fun c10 => ?_)
        · --
          have i11 : Iv v8 0 0 := iv_eq1 c10 p8_1 (⟨by decide, by decide⟩ : Iv 0 0 0) (by decide)
          exact J_57 σ_8 _ _ hw fr _ (lv_sub hl [0, 1, 2, 3] rfl)
        · --
          have i12 : Iv v8 1 1 := iv_ne1 c10 p8_1 (⟨by decide, by decide⟩ : Iv 0 0 0) (by decide)
          have i13 : Iv j8_4 0 63 := p8_2 c10
          refine lv_lload_n hx hb dX9_grow_27 rfl (lv_at hl 2 rfl) ?_
          refine lv_iload hx hb dX9_grow_28 (lv_at hl 3 rfl) ?_
          refine o_ci hw (oRunS cx hA hw q_X0_has k_m_X9_96 (As := [.long v2, .int j8_4]) (c_X0_has v2 j8_4) (by decide) rfl hl.1 rfl (Nat.le_of_ble_eq_true rfl) dX9_grow_30 (by decide)) (fun v15 σ14 H locs hp hw => ?_)
          obtain ⟨p15_0, p15_1, p15_2⟩ := hp
          rw [p15_0] at hw
          refine lv_if_ne (tgt := 57) hx hb dX9_grow_33 (by decide) (fun c16 => ?_) (fun c16 => ?_)
          · --
            have i17 : Iv v15 1 1 := iv_ne1 c16 p15_1 (⟨by decide, by decide⟩ : Iv 0 0 0) (by decide)
            have i18 : Iv j8_4 0 63 := p15_2 c16
            exact J_57 σ_8 _ _ hw fr _ (lv_sub hl [0, 1, 2, 3] rfl)
          · --
            have i19 : Iv v15 0 0 := iv_eq1 c16 p15_1 (⟨by decide, by decide⟩ : Iv 0 0 0) (by decide)
            refine lv_aload_n hx hb dX9_grow_36 rfl (lv_at hl 1 rfl) ?_
            refine g_320 cx hw ha1 k_f_X9_103 dX9_grow_37 (fun v20 e20 h20 => ?_)
            refine lv_iload hx hb dX9_grow_40 (lv_at hl 3 rfl) ?_
            refine lv_bipush (v := 9) hx hb dX9_grow_42 (by decide) ?_
            refine lv_aload_n hx hb dX9_grow_44 rfl (lv_at hl 1 rfl) ?_
            refine g_320 cx hw ha1 k_f_X9_103 dX9_grow_45 (fun v21 e21 h21 => ?_)
            rw [show v21 = v20 from Option.some.inj (e21.symm.trans (e20))]
            refine lv_iload hx hb dX9_grow_48 (lv_at hl 3 rfl) ?_
            refine o_iald cx hw h20 (by decide) rfl (iv_in i13 (by decide)) dX9_grow_50 (fun v22 e22 b22 => ?_)
            refine lv_iconst (v := 1) hx hb dX9_grow_51 (by decide) ?_
            refine lv_iadd hx hb dX9_grow_52 ?_
            refine lv_topi (fun v23 e23 => ?_)
            refine va_mmin hx hb (hml.trans hl.1.symm) hown (hts _ k_m_X9_140) (hts _ k_s_J9_min_7cf53) (hts _ k_i_J9) (hts _ k_code_J9_min_7cf53) (by decide) (Nat.le_of_ble_eq_true rfl) (by decide) (by decide) dX9_grow_53 ?_
            refine lv_topi (fun v24 e24 => ?_)
            have i24 : Iv v24 (-2147483648) 9 := iv_min e24 (⟨by decide, by decide⟩ : Iv 9 9 9) (iv_top v23) (by decide)
            refine o_iast cx hw h20 (by decide) rfl (iv_in i13 (by decide)) trivial dX9_grow_56 (fun σ25 H locs eσ25 hw => ?_)
            have fr := oFr_p fr eσ25 h20 (by decide)
            exact J_57 σ25 _ _ hw fr _ (lv_sub hl [0, 1, 2, 3] rfl)
  exact J_8 _ 0 (iv_w (⟨by decide, by decide⟩ : Iv 0 0 0) (by decide)) (Nat.lt_succ_self _) σ _ _ hw fr _ (lv_sub hl [2, 3, 1, 0] rfl)
abbrev fs_X9_pass : List Nat := [329, 331, 517]
abbrev ts_X9_pass : List Nat := [32, 33, 37, 38]
set_option maxHeartbeats 4000000 in
set_option maxRecDepth 100000 in
theorem c_X9_pass (a0 : Nat) (ha0 : oA L τ a0 8) (a1 : Nat) (ha1 : oA L τ a1 5) : oMet l A L τ cy D K yX9_pass cX9_pass 8 (some .int) 3 79 [.ref a0, .ref a1] σ (va_Qi (fun r σ1 => oFr τ fs_X9_pass ts_X9_pass σ σ1) (oPo A L τ cy D) A) := by
  refine oMk (by decide) (Nat.le_of_ble_eq_true rfl) rfl ?_
  intro p e s m args below meth c ls cx rx hA hw hl
  generalize hQ : MQ below _ args s 0 0 A = Q
  have hx := cx.1.1
  have hb := cx.1.2.1
  have hml := cx.1.2.2.1
  have hown := cx.1.2.2.2.1
  have hts := cx.1.2.2.2.2
  have hl : lv_has ls 8 [(0, .ref a0), (1, .ref a1)] := hl
  have fr : oFr τ fs_X9_pass ts_X9_pass σ σ := oFr_rf
  refine lv_aload_n hx hb dX9_pass_0 rfl (lv_at hl 0 rfl) ?_
  refine g_512 cx hw ha0 k_f_X9_24 dX9_pass_1 (fun v1 e1 h1 => ?_)
  refine lv_aload_n hx hb dX9_pass_4 rfl (lv_at hl 1 rfl) ?_
  refine g_330 cx hw ha1 k_f_X9_40 dX9_pass_5 (fun v2 e2 => ?_)
  refine o_cl hw (oRunV cx hA hw q_X2_openTo k_m_X9_45 rfl h1 (by decide) (As := [.int v2]) (c_X2_openTo v1 h1 v2) (by decide) rfl hl.1 rfl (Nat.le_of_ble_eq_true rfl) dX9_pass_8 (by decide)) (fun v4 σ3 H locs hp hw => ?_)
  have p4_0 := hp
  rw [p4_0] at hw
  refine lv_lstore_n (lv' := [(2, .long v4), (0, .ref a0), (1, .ref a1)]) hx hb dX9_pass_11 rfl hl (by decide) rfl (fun ls hl => ?_)
  refine lv_iconst (v := 0) hx hb dX9_pass_12 (by decide) ?_
  refine lv_istore (lv' := [(4, .int 0), (2, .long v4), (0, .ref a0), (1, .ref a1)]) hx hb dX9_pass_13 hl (by decide) rfl (fun ls hl => ?_)
  refine lv_aload_n hx hb dX9_pass_15 rfl (lv_at hl 3 rfl) ?_
  refine lv_dup hx hb dX9_pass_16 rfl ?_
  refine g_331 cx hw ha1 k_f_X9_51 dX9_pass_17 (fun v5 e5 => ?_)
  refine lv_iconst (v := 1) hx hb dX9_pass_20 (by decide) ?_
  refine lv_iadd hx hb dX9_pass_21 ?_
  refine lv_topi (fun v6 e6 => ?_)
  refine p_331 cx hw ha1 k_f_X9_51 dX9_pass_22 (fun σ7 H locs eσ7 hw => ?_)
  have fr := oFr_i fr eσ7 (by decide)
  refine lv_iconst (v := 0) hx hb dX9_pass_25 (by decide) ?_
  refine lv_istore (lv' := [(5, .int 0), (4, .int 0), (2, .long v4), (0, .ref a0), (1, .ref a1)]) hx hb dX9_pass_26 hl (by decide) rfl (fun ls hl => ?_)
  have J_28 : ∀ n : Nat, ∀ (j28_4 : Int32) (j28_5 : Int32) (ij28_5 : Iv j28_5 0 6), (6 - j28_5.toInt).toNat < n → ∀ (σ_28 : oSt) (H : Heap) (locs : List Loc), oI A L τ cy D s.heap σ_28 H locs → oFr τ fs_X9_pass ts_X9_pass σ σ_28 → ∀ (ls : Array Slot), lv_has ls 8 [(0, .ref a0), (1, .ref a1), (2, .long v4), (4, .int j28_4), (5, .int j28_5)] → W p l e ({ frames := 3, cells := 0, slots := 0, locals := 79 } : Room) s m args below meth c H locs 0 0 Q (F0 m 28 ls []) := by
    intro n
    induction n with
    | zero => intro j28_4 j28_5 ij28_5 hn_28  σ_28 H locs hw fr   ls hl; exact absurd hn_28 (Nat.not_lt_zero _)
    | succ n ih_28 =>
      intro j28_4 j28_5 ij28_5 hn_28  σ_28 H locs hw fr   ls hl
      refine lv_iload hx hb dX9_pass_28 (lv_at hl 4 rfl) ?_
      refine lv_aload_n hx hb dX9_pass_30 rfl (lv_at hl 1 rfl) ?_
      refine g_327 cx hw ha1 k_f_X9_54 dX9_pass_31 (fun v8 e8 i8 => ?_)
      refine lv_icmp_ge (tgt := 102) hx hb dX9_pass_34 (by decide) (fun c9 => ?_) (fun c9 => ?_)
      · --
        refine lv_aload_n hx hb dX9_pass_102 rfl (lv_at hl 0 rfl) ?_
        refine g_515 cx hw ha0 k_f_X9_15 dX9_pass_103 (fun v10 e10 => ?_)
        refine lv_if_le (tgt := 126) hx hb dX9_pass_106 (by decide) (fun c11 => ?_) (fun c11 => ?_)
        · --
          have i12 : Iv v10 (-2147483648) 0 := iv_le1 c11 (iv_top v10) (⟨by decide, by decide⟩ : Iv 0 0 0) (by decide)
          refine lv_iload hx hb dX9_pass_126 (lv_at hl 3 rfl) ?_
          rw [← hQ]
          exact o_ri cx rx hw dX9_pass_128 fr
        · --
          have i13 : Iv v10 1 2147483647 := iv_lt2 (iv_nle c11) (⟨by decide, by decide⟩ : Iv 0 0 0) (iv_top v10) (by decide)
          refine lv_aload_n hx hb dX9_pass_109 rfl (lv_at hl 1 rfl) ?_
          refine g_331 cx hw ha1 k_f_X9_51 dX9_pass_110 (fun v14 e14 => ?_)
          refine lv_aload_n hx hb dX9_pass_113 rfl (lv_at hl 0 rfl) ?_
          refine g_515 cx hw ha0 k_f_X9_15 dX9_pass_114 (fun v15 e15 => ?_)
          rw [show v15 = v10 from e15.trans e10.symm]
          refine lv_irem hx hb dX9_pass_117 (iv_nz i13 (by decide)) ?_
          refine lv_topi (fun v16 e16 => ?_)
          have i16 : Iv v16 (-2147483646) 2147483646 := iv_remA e16 i13 (by decide)
          refine lv_if_ne (tgt := 126) hx hb dX9_pass_118 (by decide) (fun c17 => ?_) (fun c17 => ?_)
          · --
            refine lv_iload hx hb dX9_pass_126 (lv_at hl 3 rfl) ?_
            rw [← hQ]
            exact o_ri cx rx hw dX9_pass_128 fr
          · --
            have i18 : Iv v16 0 0 := iv_eq1 c17 i16 (⟨by decide, by decide⟩ : Iv 0 0 0) (by decide)
            refine lv_aload_n hx hb dX9_pass_121 rfl (lv_at hl 0 rfl) ?_
            refine lv_aload_n hx hb dX9_pass_122 rfl (lv_at hl 1 rfl) ?_
            refine o_cv hw (oRunV cx hA hw q_X9_grow k_m_X9_75 rfl ha0 (by decide) (As := [.ref a1]) (c_X9_grow a0 ha0 a1 ha1) (by decide) rfl hl.1 rfl (Nat.le_of_ble_eq_true rfl) dX9_pass_123 (by decide)) (fun σ19 H locs hp hw => ?_)
            have p20_0 := hp
            have fr := oFr_tr fr p20_0 (by decide)
            refine lv_iload hx hb dX9_pass_126 (lv_at hl 3 rfl) ?_
            rw [← hQ]
            exact o_ri cx rx hw dX9_pass_128 fr
      · --
        have i21 : Iv j28_5 0 5 := iv_lt1 (iv_nle c9) ij28_5 i8 (by decide)
        have i22 : Iv v8 1 6 := iv_lt2 (iv_nle c9) ij28_5 i8 (by decide)
        refine lv_aload_n hx hb dX9_pass_37 rfl (lv_at hl 1 rfl) ?_
        refine g_325 cx hw ha1 k_f_X9_57 dX9_pass_38 (fun v23 e23 h23 => ?_)
        refine lv_iload hx hb dX9_pass_41 (lv_at hl 4 rfl) ?_
        refine o_iald cx hw h23 (by decide) rfl (iv_in i21 (by decide)) dX9_pass_43 (fun v24 e24 b24 => ?_)
        have i24 : Iv v24 0 63 := b24
        refine lv_istore (lv' := [(6, .int v24), (0, .ref a0), (1, .ref a1), (2, .long v4), (4, .int j28_4), (5, .int j28_5)]) hx hb dX9_pass_44 hl (by decide) rfl (fun ls hl => ?_)
        refine lv_aload_n hx hb dX9_pass_46 rfl (lv_at hl 1 rfl) ?_
        refine lv_aload_n hx hb dX9_pass_47 rfl (lv_at hl 2 rfl) ?_
        refine lv_iload hx hb dX9_pass_48 (lv_at hl 5 rfl) ?_
        refine lv_lload_n hx hb dX9_pass_50 rfl (lv_at hl 3 rfl) ?_
        refine o_ci hw (oRunV cx hA hw q_X9_choose k_m_X9_60 rfl ha0 (by decide) (As := [.ref a1, .int j28_5, .long v4]) (c_X9_choose a0 ha0 a1 ha1 j28_5 (iv_w i21 (by decide)) v4) (by decide) rfl hl.1 rfl (Nat.le_of_ble_eq_true rfl) dX9_pass_51 (by decide)) (fun v26 σ25 H locs hp hw => ?_)
        obtain ⟨p26_0, p26_1⟩ := hp
        have fr := oFr_tr fr p26_0 (by decide)
        refine lv_istore (lv' := [(7, .int v26), (6, .int v24), (0, .ref a0), (1, .ref a1), (2, .long v4), (4, .int j28_4), (5, .int j28_5)]) hx hb dX9_pass_54 hl (by decide) rfl (fun ls hl => ?_)
        refine lv_aload_n hx hb dX9_pass_56 rfl (lv_at hl 3 rfl) ?_
        refine lv_iload hx hb dX9_pass_57 (lv_at hl 6 rfl) ?_
        refine lv_iload hx hb dX9_pass_59 (lv_at hl 0 rfl) ?_
        refine o_cv hw (oRunV cx hA hw q_X6_tread k_m_X9_64 rfl ha1 (by decide) (As := [.int j28_5, .int v26]) (c_X6_tread a1 ha1 j28_5 (iv_w i21 (by decide)) v26 (iv_w p26_1 (by decide))) (by decide) rfl hl.1 rfl (Nat.le_of_ble_eq_true rfl) dX9_pass_61 (by decide)) (fun σ27 H locs hp hw => ?_)
        have p28_0 := hp
        have fr := oFr_tr fr p28_0 (by decide)
        refine lv_aload_n hx hb dX9_pass_64 rfl (lv_at hl 3 rfl) ?_
        refine lv_iload hx hb dX9_pass_65 (lv_at hl 0 rfl) ?_
        refine o_cv hw (oRunV cx hA hw q_X6_graze k_m_X9_68 rfl ha1 (by decide) (As := [.int v26]) (c_X6_graze a1 ha1 v26 (iv_w p26_1 (by decide))) (by decide) rfl hl.1 rfl (Nat.le_of_ble_eq_true rfl) dX9_pass_67 (by decide)) (fun σ29 H locs hp hw => ?_)
        have p30_0 := hp
        have fr := oFr_tr fr p30_0 (by decide)
        refine lv_iload hx hb dX9_pass_70 (lv_at hl 0 rfl) ?_
        refine lv_iload hx hb dX9_pass_72 (lv_at hl 1 rfl) ?_
        have J_96 : ∀ (j96_4 : Int32), ∀ (σ_96 : oSt) (H : Heap) (locs : List Loc), oI A L τ cy D s.heap σ_96 H locs → oFr τ fs_X9_pass ts_X9_pass σ σ_96 → ∀ (ls : Array Slot), lv_has ls 8 [(0, .ref a0), (1, .ref a1), (2, .long v4), (4, .int j96_4), (5, .int j28_5), (6, .int v24), (7, .int v26)] → W p l e ({ frames := 3, cells := 0, slots := 0, locals := 79 } : Room) s m args below meth c H locs 0 0 Q (F0 m 96 ls []) := by
          intro j96_4   σ_96 H locs hw fr   ls hl
          obtain ⟨v31, e31⟩ : ∃ y : Int32, y = j28_5 + 1 := ⟨_, rfl⟩
          have i31 : Iv v31 1 6 := iv_add e31 i21 (⟨by decide, by decide⟩ : Iv 1 1 1) (by decide)
          have x31 : v31.toInt = j28_5.toInt + 1 := ex_add e31 i21 (⟨by decide, by decide⟩ : Iv 1 1 1) (by decide)
          refine lv_iinc (v := v31) (lv' := [(5, .int v31), (0, .ref a0), (1, .ref a1), (2, .long v4), (4, .int j96_4), (6, .int v24), (7, .int v26)]) hx hb dX9_pass_96 hl (k := 4) rfl (by rw [e31]; rfl) (by decide) rfl (fun ls hl => ?_)
          refine lv_goto (tgt := 28) hx hb dX9_pass_99 (by decide) ?_
          exact ih_28 j96_4 v31 (iv_w i31 (by decide)) (ms_up x31 (by decide) (iv_w (a' := 0) (b' := 6) i31 (by decide)).2 hn_28) σ_96 _ _ hw fr _ (lv_sub hl [1, 2, 3, 4, 0] rfl)
        refine lv_icmp_ne (tgt := 93) hx hb dX9_pass_74 (by decide) (fun c32 => ?_) (fun c32 => ?_)
        · --
          obtain ⟨v33, e33⟩ : ∃ y : Int32, y = j28_4 + 1 := ⟨_, rfl⟩
          refine lv_iinc (v := v33) (lv' := [(4, .int v33), (7, .int v26), (6, .int v24), (0, .ref a0), (1, .ref a1), (2, .long v4), (5, .int j28_5)]) hx hb dX9_pass_93 hl (k := 5) rfl (by rw [e33]; rfl) (by decide) rfl (fun ls hl => ?_)
          exact J_96 v33 σ29 _ _ hw fr _ (lv_sub hl [3, 4, 5, 0, 6, 2, 1] rfl)
        · --
          refine lv_aload_n hx hb dX9_pass_77 rfl (lv_at hl 3 rfl) ?_
          refine lv_dup hx hb dX9_pass_78 rfl ?_
          refine g_329 cx hw ha1 k_f_X9_72 dX9_pass_79 (fun v34 e34 => ?_)
          refine lv_iconst (v := 1) hx hb dX9_pass_82 (by decide) ?_
          refine lv_iload hx hb dX9_pass_83 (lv_at hl 6 rfl) ?_
          refine lv_ishl hx hb dX9_pass_85 ?_
          refine lv_topi (fun v35 e35 => ?_)
          have i35 : Iv v35 1 32 := iv_shl1 e35 i21 (by decide)
          refine lv_ior hx hb dX9_pass_86 ?_
          refine lv_topi (fun v36 e36 => ?_)
          refine p_329 cx hw ha1 k_f_X9_72 dX9_pass_87 (fun σ37 H locs eσ37 hw => ?_)
          have fr := oFr_i fr eσ37 (by decide)
          refine lv_goto (tgt := 96) hx hb dX9_pass_90 (by decide) ?_
          exact J_96 j28_4 σ37 _ _ hw fr _ (lv_sub hl [2, 3, 4, 5, 6, 1, 0] rfl)
  exact J_28 _ 0 0 (iv_w (⟨by decide, by decide⟩ : Iv 0 0 0) (by decide)) (Nat.lt_succ_self _) σ7 _ _ hw fr _ (lv_sub hl [3, 4, 2, 1, 0] rfl)
abbrev fs_X4_start : List Nat := [193]
abbrev ts_X4_start : List Nat := []
set_option maxHeartbeats 4000000 in
set_option maxRecDepth 100000 in
theorem c_X4_start (a0 : Nat) (ha0 : oA L τ a0 3) : oMet l A L τ cy D K yX4_start cX4_start 1 none 0 0 [.ref a0] σ (va_Qv (fun σ1 => oFr τ fs_X4_start ts_X4_start σ σ1) (oPo A L τ cy D) A) := by
  refine oMk (by decide) (Nat.le_of_ble_eq_true rfl) rfl ?_
  intro p e s m args below meth c ls cx rx hA hw hl
  generalize hQ : MQ below _ args s 0 0 A = Q
  have hx := cx.1.1
  have hb := cx.1.2.1
  have hml := cx.1.2.2.1
  have hown := cx.1.2.2.2.1
  have hts := cx.1.2.2.2.2
  have hl : lv_has ls 1 [(0, .ref a0)] := hl
  have fr : oFr τ fs_X4_start ts_X4_start σ σ := oFr_rf
  refine lv_aload_n hx hb dX4_start_0 rfl (lv_at hl 0 rfl) ?_
  refine lv_iconst (v := 0) hx hb dX4_start_1 (by decide) ?_
  refine p_193 cx hw ha0 (iv_w (⟨by decide, by decide⟩ : Iv 0 0 0) (by decide)) k_f_X4_13 dX4_start_2 (fun σ1 H locs eσ1 hw => ?_)
  have fr := oFr_i fr eσ1 (by decide)
  rw [← hQ]
  exact o_rv cx rx hw dX4_start_5 fr
abbrev fs_X4_put : List Nat := [193]
abbrev ts_X4_put : List Nat := [36]
set_option maxHeartbeats 4000000 in
set_option maxRecDepth 100000 in
theorem c_X4_put (a0 : Nat) (ha0 : oA L τ a0 3) (a1 : Int64) : oMet l A L τ cy D K yX4_put cX4_put 3 none 0 0 [.ref a0, .long a1] σ (va_Qv (fun σ1 => oFr τ fs_X4_put ts_X4_put σ σ1) (oPo A L τ cy D) A) := by
  refine oMk (by decide) (Nat.le_of_ble_eq_true rfl) rfl ?_
  intro p e s m args below meth c ls cx rx hA hw hl
  generalize hQ : MQ below _ args s 0 0 A = Q
  have hx := cx.1.1
  have hb := cx.1.2.1
  have hml := cx.1.2.2.1
  have hown := cx.1.2.2.2.1
  have hts := cx.1.2.2.2.2
  have hl : lv_has ls 3 [(0, .ref a0), (1, .long a1)] := hl
  have fr : oFr τ fs_X4_put ts_X4_put σ σ := oFr_rf
  refine lv_aload_n hx hb dX4_put_0 rfl (lv_at hl 0 rfl) ?_
  refine g_193 cx hw ha0 k_f_X4_13 dX4_put_1 (fun v1 e1 i1 => ?_)
  refine lv_bipush (v := 14) hx hb dX4_put_4 (by decide) ?_
  refine lv_icmp_ge (tgt := 29) hx hb dX4_put_6 (by decide) (fun c2 => ?_) (fun c2 => ?_)
  · --
    have i3 : Iv v1 14 14 := iv_le2 c2 (⟨by decide, by decide⟩ : Iv 14 14 14) i1 (by decide)
    rw [← hQ]
    exact o_rv cx rx hw dX4_put_29 fr
  · --
    have i4 : Iv v1 0 13 := iv_lt1 (iv_nle c2) i1 (⟨by decide, by decide⟩ : Iv 14 14 14) (by decide)
    refine lv_aload_n hx hb dX4_put_9 rfl (lv_at hl 0 rfl) ?_
    refine g_192 cx hw ha0 k_f_X4_9 dX4_put_10 (fun v5 e5 h5 => ?_)
    refine lv_aload_n hx hb dX4_put_13 rfl (lv_at hl 0 rfl) ?_
    refine g_193 cx hw ha0 k_f_X4_13 dX4_put_14 (fun v6 e6 i6 => ?_)
    rw [show v6 = v1 from e6.trans e1.symm]
    refine lv_lload_n hx hb dX4_put_17 rfl (lv_at hl 1 rfl) ?_
    refine o_last cx hw h5 (by decide) rfl (iv_in i4 (by decide)) dX4_put_18 (fun σ7 H locs eσ7 hw => ?_)
    have fr := oFr_q fr eσ7 h5 (by decide)
    refine lv_aload_n hx hb dX4_put_19 rfl (lv_at hl 0 rfl) ?_
    refine lv_dup hx hb dX4_put_20 rfl ?_
    refine g_193 cx hw ha0 k_f_X4_13 dX4_put_21 (fun v8 e8 i8 => ?_)
    rw [show v8 = v1 from e8.trans ((kp_q eσ7).trans e1.symm)]
    refine lv_iconst (v := 1) hx hb dX4_put_24 (by decide) ?_
    refine lv_iadd hx hb dX4_put_25 ?_
    refine lv_topi (fun v9 e9 => ?_)
    have i9 : Iv v9 1 14 := iv_add e9 i4 (⟨by decide, by decide⟩ : Iv 1 1 1) (by decide)
    have x9 : v9.toInt = v1.toInt + 1 := ex_add e9 i4 (⟨by decide, by decide⟩ : Iv 1 1 1) (by decide)
    refine p_193 cx hw ha0 (iv_w i9 (by decide)) k_f_X4_13 dX4_put_26 (fun σ10 H locs eσ10 hw => ?_)
    have fr := oFr_i fr eσ10 (by decide)
    rw [← hQ]
    exact o_rv cx rx hw dX4_put_29 fr
abbrev fs_X10_tellPlaces : List Nat := [193]
abbrev ts_X10_tellPlaces : List Nat := [36]
set_option maxHeartbeats 4000000 in
set_option maxRecDepth 100000 in
theorem c_X10_tellPlaces (a0 : Nat) (ha0 : oA L τ a0 9) (a1 : Nat) (ha1 : oA L τ a1 5) : oMet l A L τ cy D K yX10_tellPlaces cX10_tellPlaces 3 none 1 22 [.ref a0, .ref a1] σ (va_Qv (fun σ1 => oFr τ fs_X10_tellPlaces ts_X10_tellPlaces σ σ1) (oPo A L τ cy D) A) := by
  refine oMk (by decide) (Nat.le_of_ble_eq_true rfl) rfl ?_
  intro p e s m args below meth c ls cx rx hA hw hl
  generalize hQ : MQ below _ args s 0 0 A = Q
  have hx := cx.1.1
  have hb := cx.1.2.1
  have hml := cx.1.2.2.1
  have hown := cx.1.2.2.2.1
  have hts := cx.1.2.2.2.2
  have hl : lv_has ls 3 [(0, .ref a0), (1, .ref a1)] := hl
  have fr : oFr τ fs_X10_tellPlaces ts_X10_tellPlaces σ σ := oFr_rf
  refine lv_aload_n hx hb dX10_tellPlaces_0 rfl (lv_at hl 0 rfl) ?_
  refine g_577 cx hw ha0 k_f_X10_19 dX10_tellPlaces_1 (fun v1 e1 h1 => ?_)
  refine o_cv hw (oRunV cx hA hw q_X4_start k_m_X10_292 rfl h1 (by decide) (As := []) (c_X4_start v1 h1) (by decide) rfl hl.1 rfl (Nat.le_of_ble_eq_true rfl) dX10_tellPlaces_4 (by decide)) (fun σ2 H locs hp hw => ?_)
  have p3_0 := hp
  have fr := oFr_tr fr p3_0 (by decide)
  refine lv_iconst (v := 0) hx hb dX10_tellPlaces_7 (by decide) ?_
  refine lv_istore_n (lv' := [(2, .int 0), (0, .ref a0), (1, .ref a1)]) hx hb dX10_tellPlaces_8 rfl hl (by decide) rfl (fun ls hl => ?_)
  have J_9 : ∀ n : Nat, ∀ (j9_2 : Int32) (ij9_2 : Iv j9_2 0 6), (6 - j9_2.toInt).toNat < n → ∀ (σ_9 : oSt) (H : Heap) (locs : List Loc), oI A L τ cy D s.heap σ_9 H locs → oFr τ fs_X10_tellPlaces ts_X10_tellPlaces σ σ_9 → ∀ (ls : Array Slot), lv_has ls 3 [(0, .ref a0), (1, .ref a1), (2, .int j9_2)] → W p l e ({ frames := 1, cells := 0, slots := 0, locals := 22 } : Room) s m args below meth c H locs 0 0 Q (F0 m 9 ls []) := by
    intro n
    induction n with
    | zero => intro j9_2 ij9_2 hn_9  σ_9 H locs hw fr   ls hl; exact absurd hn_9 (Nat.not_lt_zero _)
    | succ n ih_9 =>
      intro j9_2 ij9_2 hn_9  σ_9 H locs hw fr   ls hl
      refine lv_iload_n hx hb dX10_tellPlaces_9 rfl (lv_at hl 2 rfl) ?_
      refine lv_aload_n hx hb dX10_tellPlaces_10 rfl (lv_at hl 1 rfl) ?_
      refine g_327 cx hw ha1 k_f_X10_206 dX10_tellPlaces_11 (fun v4 e4 i4 => ?_)
      refine lv_icmp_ge (tgt := 37) hx hb dX10_tellPlaces_14 (by decide) (fun c5 => ?_) (fun c5 => ?_)
      · --
        rw [← hQ]
        exact o_rv cx rx hw dX10_tellPlaces_37 fr
      · --
        have i6 : Iv j9_2 0 5 := iv_lt1 (iv_nle c5) ij9_2 i4 (by decide)
        have i7 : Iv v4 1 6 := iv_lt2 (iv_nle c5) ij9_2 i4 (by decide)
        refine lv_aload_n hx hb dX10_tellPlaces_17 rfl (lv_at hl 0 rfl) ?_
        refine g_577 cx hw ha0 k_f_X10_19 dX10_tellPlaces_18 (fun v8 e8 h8 => ?_)
        refine lv_aload_n hx hb dX10_tellPlaces_21 rfl (lv_at hl 1 rfl) ?_
        refine g_325 cx hw ha1 k_f_X10_183 dX10_tellPlaces_22 (fun v9 e9 h9 => ?_)
        refine lv_iload_n hx hb dX10_tellPlaces_25 rfl (lv_at hl 2 rfl) ?_
        refine o_iald cx hw h9 (by decide) rfl (iv_in i6 (by decide)) dX10_tellPlaces_26 (fun v10 e10 b10 => ?_)
        have i10 : Iv v10 0 63 := b10
        refine lv_i2l hx hb dX10_tellPlaces_27 rfl ?_
        refine lv_topl (fun v11 e11 => ?_)
        refine o_cv hw (oRunV cx hA hw q_X4_put k_m_X10_295 rfl h8 (by decide) (As := [.long v11]) (c_X4_put v8 h8 v11) (by decide) rfl hl.1 rfl (Nat.le_of_ble_eq_true rfl) dX10_tellPlaces_28 (by decide)) (fun σ12 H locs hp hw => ?_)
        have p13_0 := hp
        have fr := oFr_tr fr p13_0 (by decide)
        obtain ⟨v14, e14⟩ : ∃ y : Int32, y = j9_2 + 1 := ⟨_, rfl⟩
        have i14 : Iv v14 1 6 := iv_add e14 i6 (⟨by decide, by decide⟩ : Iv 1 1 1) (by decide)
        have x14 : v14.toInt = j9_2.toInt + 1 := ex_add e14 i6 (⟨by decide, by decide⟩ : Iv 1 1 1) (by decide)
        refine lv_iinc (v := v14) (lv' := [(2, .int v14), (0, .ref a0), (1, .ref a1)]) hx hb dX10_tellPlaces_31 hl (k := 2) rfl (by rw [e14]; rfl) (by decide) rfl (fun ls hl => ?_)
        refine lv_goto (tgt := 9) hx hb dX10_tellPlaces_34 (by decide) ?_
        exact ih_9 v14 (iv_w i14 (by decide)) (ms_up x14 (by decide) (iv_w (a' := 0) (b' := 6) i14 (by decide)).2 hn_9) σ12 _ _ hw fr _ (lv_sub hl [1, 2, 0] rfl)
  exact J_9 _ 0 (iv_w (⟨by decide, by decide⟩ : Iv 0 0 0) (by decide)) (Nat.lt_succ_self _) σ2 _ _ hw fr _ (lv_sub hl [1, 2, 0] rfl)
abbrev fs_X10_hour : List Nat := [129, 130, 193, 327, 328, 329, 330, 331, 517]
abbrev ts_X10_hour : List Nat := [32, 33, 34, 36, 37, 38]
set_option maxHeartbeats 4000000 in
set_option maxRecDepth 100000 in
theorem c_X10_hour (a0 : Nat) (ha0 : oA L τ a0 9) : oMet l A L τ cy D K yX10_hour cX10_hour 2 (some .int) 4 123 [.ref a0] σ (va_Qi (fun r σ1 => oFr τ fs_X10_hour ts_X10_hour σ σ1) (oPo A L τ cy D) A) := by
  refine oMk (by decide) (Nat.le_of_ble_eq_true rfl) rfl ?_
  intro p e s m args below meth c ls cx rx hA hw hl
  generalize hQ : MQ below _ args s 0 0 A = Q
  have hx := cx.1.1
  have hb := cx.1.2.1
  have hml := cx.1.2.2.1
  have hown := cx.1.2.2.2.1
  have hts := cx.1.2.2.2.2
  have hl : lv_has ls 2 [(0, .ref a0)] := hl
  have fr : oFr τ fs_X10_hour ts_X10_hour σ σ := oFr_rf
  refine lv_aload_n hx hb dX10_hour_0 rfl (lv_at hl 0 rfl) ?_
  refine g_582 cx hw ha0 k_f_X10_53 dX10_hour_1 (fun v1 e1 h1 => ?_)
  refine lv_aload_n hx hb dX10_hour_4 rfl (lv_at hl 0 rfl) ?_
  refine g_581 cx hw ha0 k_f_X10_49 dX10_hour_5 (fun v2 e2 h2 => ?_)
  refine o_cv hw (oRunV cx hA hw q_X6_copyFrom k_m_X10_131 rfl h1 (by decide) (As := [.ref v2]) (c_X6_copyFrom v1 h1 v2 h2) (by decide) rfl hl.1 rfl (Nat.le_of_ble_eq_true rfl) dX10_hour_8 (by decide)) (fun σ3 H locs hp hw => ?_)
  have p4_0 := hp
  have fr := oFr_tr fr p4_0 (by decide)
  refine lv_aload_n hx hb dX10_hour_11 rfl (lv_at hl 0 rfl) ?_
  refine g_580 cx hw ha0 k_f_X10_42 dX10_hour_12 (fun v5 e5 h5 => ?_)
  refine lv_aload_n hx hb dX10_hour_15 rfl (lv_at hl 0 rfl) ?_
  refine g_581 cx hw ha0 k_f_X10_49 dX10_hour_16 (fun v6 e6 h6 => ?_)
  rw [show v6 = v2 from Option.some.inj (e6.symm.trans (((kr_c p4_0 (by decide)).trans e2)))]
  refine o_ci hw (oRunV cx hA hw q_X9_pass k_m_X10_269 rfl h5 (by decide) (As := [.ref v2]) (c_X9_pass v5 h5 v2 h2) (by decide) rfl hl.1 rfl (Nat.le_of_ble_eq_true rfl) dX10_hour_19 (by decide)) (fun v8 σ7 H locs hp hw => ?_)
  have p8_0 := hp
  have fr := oFr_tr fr p8_0 (by decide)
  refine lv_istore_n (lv' := [(1, .int v8), (0, .ref a0)]) hx hb dX10_hour_22 rfl hl (by decide) rfl (fun ls hl => ?_)
  refine lv_aload_n hx hb dX10_hour_23 rfl (lv_at hl 1 rfl) ?_
  refine lv_aload_n hx hb dX10_hour_24 rfl (lv_at hl 1 rfl) ?_
  refine g_581 cx hw ha0 k_f_X10_49 dX10_hour_25 (fun v9 e9 h9 => ?_)
  rw [show v9 = v2 from Option.some.inj (e9.symm.trans (((kr_c p8_0 (by decide)).trans ((kr_c p4_0 (by decide)).trans e2))))]
  refine o_cv hw (oRunV cx hA hw q_X10_tellPlaces k_m_X10_273 rfl ha0 (by decide) (As := [.ref v2]) (c_X10_tellPlaces a0 ha0 v2 h2) (by decide) rfl hl.1 rfl (Nat.le_of_ble_eq_true rfl) dX10_hour_28 (by decide)) (fun σ10 H locs hp hw => ?_)
  have p11_0 := hp
  have fr := oFr_tr fr p11_0 (by decide)
  refine lv_aload_n hx hb dX10_hour_31 rfl (lv_at hl 1 rfl) ?_
  refine lv_iload_n hx hb dX10_hour_32 rfl (lv_at hl 0 rfl) ?_
  refine o_ci hw (oRunV cx hA hw q_X10_remembered k_m_X10_260 rfl ha0 (by decide) (As := [.int v8]) (c_X10_remembered a0 ha0 v8) (by decide) rfl hl.1 rfl (Nat.le_of_ble_eq_true rfl) dX10_hour_33 (by decide)) (fun v13 σ12 H locs hp hw => ?_)
  have p13_0 := hp
  have fr := oFr_tr fr p13_0 (by decide)
  rw [← hQ]
  exact o_ri cx rx hw dX10_hour_36 fr
abbrev fs_X9_passMany : List Nat := [329, 331, 517]
abbrev ts_X9_passMany : List Nat := [32, 33, 37, 38]
set_option maxHeartbeats 4000000 in
set_option maxRecDepth 100000 in
theorem c_X9_passMany (a0 : Nat) (ha0 : oA L τ a0 8) (a1 : Nat) (ha1 : oA L τ a1 5) (a2 : Int32) : oMet l A L τ cy D K yX9_passMany cX9_passMany 5 (some .int) 4 106 [.ref a0, .ref a1, .int a2] σ (va_Qi (fun r σ1 => oFr τ fs_X9_passMany ts_X9_passMany σ σ1) (oPo A L τ cy D) A) := by
  refine oMk (by decide) (Nat.le_of_ble_eq_true rfl) rfl ?_
  intro p e s m args below meth c ls cx rx hA hw hl
  generalize hQ : MQ below _ args s 0 0 A = Q
  have hx := cx.1.1
  have hb := cx.1.2.1
  have hml := cx.1.2.2.1
  have hown := cx.1.2.2.2.1
  have hts := cx.1.2.2.2.2
  have hl : lv_has ls 5 [(0, .ref a0), (1, .ref a1), (2, .int a2)] := hl
  have fr : oFr τ fs_X9_passMany ts_X9_passMany σ σ := oFr_rf
  refine lv_iconst (v := 0) hx hb dX9_passMany_0 (by decide) ?_
  refine lv_istore_n (lv' := [(3, .int 0), (0, .ref a0), (1, .ref a1), (2, .int a2)]) hx hb dX9_passMany_1 rfl hl (by decide) rfl (fun ls hl => ?_)
  refine lv_iconst (v := 0) hx hb dX9_passMany_2 (by decide) ?_
  refine lv_istore (lv' := [(4, .int 0), (3, .int 0), (0, .ref a0), (1, .ref a1), (2, .int a2)]) hx hb dX9_passMany_3 hl (by decide) rfl (fun ls hl => ?_)
  have J_5 : ∀ n : Nat, ∀ (j5_3 : Int32) (j5_4 : Int32) (ij5_4 : Iv j5_4 0 2147483647), (2147483647 - j5_4.toInt).toNat < n → ∀ (σ_5 : oSt) (H : Heap) (locs : List Loc), oI A L τ cy D s.heap σ_5 H locs → oFr τ fs_X9_passMany ts_X9_passMany σ σ_5 → ∀ (ls : Array Slot), lv_has ls 5 [(0, .ref a0), (1, .ref a1), (2, .int a2), (3, .int j5_3), (4, .int j5_4)] → W p l e ({ frames := 4, cells := 0, slots := 0, locals := 106 } : Room) s m args below meth c H locs 0 0 Q (F0 m 5 ls []) := by
    intro n
    induction n with
    | zero => intro j5_3 j5_4 ij5_4 hn_5  σ_5 H locs hw fr   ls hl; exact absurd hn_5 (Nat.not_lt_zero _)
    | succ n ih_5 =>
      intro j5_3 j5_4 ij5_4 hn_5  σ_5 H locs hw fr   ls hl
      refine lv_iload hx hb dX9_passMany_5 (lv_at hl 4 rfl) ?_
      refine lv_iload_n hx hb dX9_passMany_7 rfl (lv_at hl 2 rfl) ?_
      refine lv_icmp_ge (tgt := 25) hx hb dX9_passMany_8 (by decide) (fun c1 => ?_) (fun c1 => ?_)
      · --
        refine lv_iload_n hx hb dX9_passMany_25 rfl (lv_at hl 3 rfl) ?_
        rw [← hQ]
        exact o_ri cx rx hw dX9_passMany_26 fr
      · --
        have i2 : Iv j5_4 0 2147483646 := iv_lt1 (iv_nle c1) ij5_4 (iv_top a2) (by decide)
        have i3 : Iv a2 1 2147483647 := iv_lt2 (iv_nle c1) ij5_4 (iv_top a2) (by decide)
        refine lv_iload_n hx hb dX9_passMany_11 rfl (lv_at hl 3 rfl) ?_
        refine lv_aload_n hx hb dX9_passMany_12 rfl (lv_at hl 0 rfl) ?_
        refine lv_aload_n hx hb dX9_passMany_13 rfl (lv_at hl 1 rfl) ?_
        refine o_ci hw (oRunV cx hA hw q_X9_pass k_m_X9_79 rfl ha0 (by decide) (As := [.ref a1]) (c_X9_pass a0 ha0 a1 ha1) (by decide) rfl hl.1 rfl (Nat.le_of_ble_eq_true rfl) dX9_passMany_14 (by decide)) (fun v5 σ4 H locs hp hw => ?_)
        have p5_0 := hp
        have fr := oFr_tr fr p5_0 (by decide)
        refine lv_iadd hx hb dX9_passMany_17 ?_
        refine lv_topi (fun v6 e6 => ?_)
        refine lv_istore_n (lv' := [(3, .int v6), (0, .ref a0), (1, .ref a1), (2, .int a2), (4, .int j5_4)]) hx hb dX9_passMany_18 rfl hl (by decide) rfl (fun ls hl => ?_)
        obtain ⟨v7, e7⟩ : ∃ y : Int32, y = j5_4 + 1 := ⟨_, rfl⟩
        have i7 : Iv v7 1 2147483647 := iv_add e7 i2 (⟨by decide, by decide⟩ : Iv 1 1 1) (by decide)
        have x7 : v7.toInt = j5_4.toInt + 1 := ex_add e7 i2 (⟨by decide, by decide⟩ : Iv 1 1 1) (by decide)
        refine lv_iinc (v := v7) (lv' := [(4, .int v7), (3, .int v6), (0, .ref a0), (1, .ref a1), (2, .int a2)]) hx hb dX9_passMany_19 hl (k := 4) rfl (by rw [e7]; rfl) (by decide) rfl (fun ls hl => ?_)
        refine lv_goto (tgt := 5) hx hb dX9_passMany_22 (by decide) ?_
        exact ih_5 v6 v7 (iv_w i7 (by decide)) (ms_up x7 (by decide) (iv_w (a' := 0) (b' := 2147483647) i7 (by decide)).2 hn_5) σ4 _ _ hw fr _ (lv_sub hl [2, 3, 4, 1, 0] rfl)
  exact J_5 _ 0 0 (iv_w (⟨by decide, by decide⟩ : Iv 0 0 0) (by decide)) (Nat.lt_succ_self _) σ _ _ hw fr _ (lv_sub hl [2, 3, 4, 1, 0] rfl)
abbrev fs_X10_hours : List Nat := [129, 130, 193, 327, 328, 329, 330, 331, 517]
abbrev ts_X10_hours : List Nat := [32, 33, 34, 36, 37, 38]
set_option maxHeartbeats 4000000 in
set_option maxRecDepth 100000 in
theorem c_X10_hours (a0 : Nat) (ha0 : oA L τ a0 9) (a1 : Int32) : oMet l A L τ cy D K yX10_hours cX10_hours 3 (some .int) 5 130 [.ref a0, .int a1] σ (va_Qi (fun r σ1 => oFr τ fs_X10_hours ts_X10_hours σ σ1) (oPo A L τ cy D) A) := by
  refine oMk (by decide) (Nat.le_of_ble_eq_true rfl) rfl ?_
  intro p e s m args below meth c ls cx rx hA hw hl
  generalize hQ : MQ below _ args s 0 0 A = Q
  have hx := cx.1.1
  have hb := cx.1.2.1
  have hml := cx.1.2.2.1
  have hown := cx.1.2.2.2.1
  have hts := cx.1.2.2.2.2
  have hl : lv_has ls 3 [(0, .ref a0), (1, .int a1)] := hl
  have fr : oFr τ fs_X10_hours ts_X10_hours σ σ := oFr_rf
  refine lv_iload_n hx hb dX10_hours_0 rfl (lv_at hl 1 rfl) ?_
  refine lv_if_lt (tgt := 10) hx hb dX10_hours_1 (by decide) (fun c1 => ?_) (fun c1 => ?_)
  · --
    have i2 : Iv a1 (-2147483648) (-1) := iv_lt1 c1 (iv_top a1) (⟨by decide, by decide⟩ : Iv 0 0 0) (by decide)
    refine lv_iconst (v := (-1)) hx hb dX10_hours_10 (by decide) ?_
    rw [← hQ]
    exact o_ri cx rx hw dX10_hours_11 fr
  · --
    have i3 : Iv a1 0 2147483647 := iv_le2 (iv_nlt c1) (⟨by decide, by decide⟩ : Iv 0 0 0) (iv_top a1) (by decide)
    refine lv_iload_n hx hb dX10_hours_4 rfl (lv_at hl 1 rfl) ?_
    refine lv_bipush (v := 60) hx hb dX10_hours_5 (by decide) ?_
    refine lv_icmp_le (tgt := 12) hx hb dX10_hours_7 (by decide) (fun c4 => ?_) (fun c4 => ?_)
    · --
      have i5 : Iv a1 0 60 := iv_le1 c4 i3 (⟨by decide, by decide⟩ : Iv 60 60 60) (by decide)
      refine lv_aload_n hx hb dX10_hours_12 rfl (lv_at hl 0 rfl) ?_
      refine g_582 cx hw ha0 k_f_X10_53 dX10_hours_13 (fun v6 e6 h6 => ?_)
      refine lv_aload_n hx hb dX10_hours_16 rfl (lv_at hl 0 rfl) ?_
      refine g_581 cx hw ha0 k_f_X10_49 dX10_hours_17 (fun v7 e7 h7 => ?_)
      refine o_cv hw (oRunV cx hA hw q_X6_copyFrom k_m_X10_131 rfl h6 (by decide) (As := [.ref v7]) (c_X6_copyFrom v6 h6 v7 h7) (by decide) rfl hl.1 rfl (Nat.le_of_ble_eq_true rfl) dX10_hours_20 (by decide)) (fun σ8 H locs hp hw => ?_)
      have p9_0 := hp
      have fr := oFr_tr fr p9_0 (by decide)
      refine lv_aload_n hx hb dX10_hours_23 rfl (lv_at hl 0 rfl) ?_
      refine g_580 cx hw ha0 k_f_X10_42 dX10_hours_24 (fun v10 e10 h10 => ?_)
      refine lv_aload_n hx hb dX10_hours_27 rfl (lv_at hl 0 rfl) ?_
      refine g_581 cx hw ha0 k_f_X10_49 dX10_hours_28 (fun v11 e11 h11 => ?_)
      rw [show v11 = v7 from Option.some.inj (e11.symm.trans (((kr_c p9_0 (by decide)).trans e7)))]
      refine lv_iload_n hx hb dX10_hours_31 rfl (lv_at hl 1 rfl) ?_
      refine o_ci hw (oRunV cx hA hw q_X9_passMany k_m_X10_276 rfl h10 (by decide) (As := [.ref v7, .int a1]) (c_X9_passMany v10 h10 v7 h7 a1) (by decide) rfl hl.1 rfl (Nat.le_of_ble_eq_true rfl) dX10_hours_32 (by decide)) (fun v13 σ12 H locs hp hw => ?_)
      have p13_0 := hp
      have fr := oFr_tr fr p13_0 (by decide)
      refine lv_istore_n (lv' := [(2, .int v13), (0, .ref a0), (1, .int a1)]) hx hb dX10_hours_35 rfl hl (by decide) rfl (fun ls hl => ?_)
      refine lv_aload_n hx hb dX10_hours_36 rfl (lv_at hl 1 rfl) ?_
      refine lv_aload_n hx hb dX10_hours_37 rfl (lv_at hl 1 rfl) ?_
      refine g_581 cx hw ha0 k_f_X10_49 dX10_hours_38 (fun v14 e14 h14 => ?_)
      rw [show v14 = v7 from Option.some.inj (e14.symm.trans (((kr_c p13_0 (by decide)).trans ((kr_c p9_0 (by decide)).trans e7))))]
      refine o_cv hw (oRunV cx hA hw q_X10_tellPlaces k_m_X10_273 rfl ha0 (by decide) (As := [.ref v7]) (c_X10_tellPlaces a0 ha0 v7 h7) (by decide) rfl hl.1 rfl (Nat.le_of_ble_eq_true rfl) dX10_hours_41 (by decide)) (fun σ15 H locs hp hw => ?_)
      have p16_0 := hp
      have fr := oFr_tr fr p16_0 (by decide)
      refine lv_iload_n hx hb dX10_hours_44 rfl (lv_at hl 2 rfl) ?_
      refine lv_if_ne (tgt := 52) hx hb dX10_hours_45 (by decide) (fun c17 => ?_) (fun c17 => ?_)
      · --
        have i18 : Iv a1 1 60 := iv_ne1 c17 i5 (⟨by decide, by decide⟩ : Iv 0 0 0) (by decide)
        refine lv_aload_n hx hb dX10_hours_52 rfl (lv_at hl 1 rfl) ?_
        refine lv_iload_n hx hb dX10_hours_53 rfl (lv_at hl 0 rfl) ?_
        refine o_ci hw (oRunV cx hA hw q_X10_remembered k_m_X10_260 rfl ha0 (by decide) (As := [.int v13]) (c_X10_remembered a0 ha0 v13) (by decide) rfl hl.1 rfl (Nat.le_of_ble_eq_true rfl) dX10_hours_54 (by decide)) (fun v20 σ19 H locs hp hw => ?_)
        have p20_0 := hp
        have fr := oFr_tr fr p20_0 (by decide)
        rw [← hQ]
        exact o_ri cx rx hw dX10_hours_57 fr
      · --
        have i21 : Iv a1 0 0 := iv_eq1 c17 i5 (⟨by decide, by decide⟩ : Iv 0 0 0) (by decide)
        refine lv_iload_n hx hb dX10_hours_48 rfl (lv_at hl 0 rfl) ?_
        refine lv_goto (tgt := 57) hx hb dX10_hours_49 (by decide) ?_
        rw [← hQ]
        exact o_ri cx rx hw dX10_hours_57 fr
    · --
      have i22 : Iv a1 61 2147483647 := iv_lt2 (iv_nle c4) (⟨by decide, by decide⟩ : Iv 60 60 60) i3 (by decide)
      refine lv_iconst (v := (-1)) hx hb dX10_hours_10 (by decide) ?_
      rw [← hQ]
      exact o_ri cx rx hw dX10_hours_11 fr
abbrev fs_X10_readAct : List Nat := [386]
abbrev ts_X10_readAct : List Nat := []
set_option maxHeartbeats 4000000 in
set_option maxRecDepth 100000 in
theorem c_X10_readAct (a0 : Nat) (ha0 : oA L τ a0 9) : oMet l A L τ cy D K yX10_readAct cX10_readAct 4 (some .int) 5 128 [.ref a0] σ (va_Qi (fun r σ1 => oFr τ fs_X10_readAct ts_X10_readAct σ σ1) (oPo A L τ cy D) A) := by
  refine oMk (by decide) (Nat.le_of_ble_eq_true rfl) rfl ?_
  intro p e s m args below meth c ls cx rx hA hw hl
  generalize hQ : MQ below _ args s 0 0 A = Q
  have hx := cx.1.1
  have hb := cx.1.2.1
  have hml := cx.1.2.2.1
  have hown := cx.1.2.2.2.1
  have hts := cx.1.2.2.2.2
  have hl : lv_has ls 4 [(0, .ref a0)] := hl
  have fr : oFr τ fs_X10_readAct ts_X10_readAct σ σ := oFr_rf
  refine lv_aload_n hx hb dX10_readAct_0 rfl (lv_at hl 0 rfl) ?_
  refine g_576 cx hw ha0 k_f_X10_10 dX10_readAct_1 (fun v1 e1 h1 => ?_)
  refine va_ldcSw hx hb hown cx.2.2.2.1.2.2.2.1 dX10_readAct_4 ?_
  refine o_ci hw (oRunV cx hA hw q_X7_takeOneOf k_m_X10_331 rfl h1 (by decide) (As := [.ref (K.1 3)]) (c_X7_takeOneOf_3 v1 h1) (by decide) rfl hl.1 rfl (Nat.le_of_ble_eq_true rfl) dX10_readAct_7 (by decide)) (fun v3 σ2 H locs hp hw => ?_)
  obtain ⟨p3_0, p3_1⟩ := hp
  have fr := oFr_tr fr p3_0 (by decide)
  refine lv_istore_n (lv' := [(1, .int v3), (0, .ref a0)]) hx hb dX10_readAct_10 rfl hl (by decide) rfl (fun ls hl => ?_)
  refine lv_iconst (v := 0) hx hb dX10_readAct_11 (by decide) ?_
  refine lv_istore_n (lv' := [(2, .int 0), (1, .int v3), (0, .ref a0)]) hx hb dX10_readAct_12 rfl hl (by decide) rfl (fun ls hl => ?_)
  refine lv_iconst (v := 0) hx hb dX10_readAct_13 (by decide) ?_
  refine lv_istore_n (lv' := [(3, .int 0), (2, .int 0), (1, .int v3), (0, .ref a0)]) hx hb dX10_readAct_14 rfl hl (by decide) rfl (fun ls hl => ?_)
  refine lv_iload_n hx hb dX10_readAct_15 rfl (lv_at hl 2 rfl) ?_
  have J_209 : ∀ (j209_2 : Int32) (j209_3 : Int32), ∀ (σ_209 : oSt) (H : Heap) (locs : List Loc), oI A L τ cy D s.heap σ_209 H locs → oFr τ fs_X10_readAct ts_X10_readAct σ σ_209 → ∀ (ls : Array Slot), lv_has ls 4 [(0, .ref a0), (1, .int v3), (2, .int j209_2), (3, .int j209_3)] → W p l e ({ frames := 5, cells := 0, slots := 0, locals := 128 } : Room) s m args below meth c H locs 0 0 Q (F0 m 209 ls []) := by
    intro j209_2 j209_3   σ_209 H locs hw fr   ls hl
    refine lv_iload_n hx hb dX10_readAct_209 rfl (lv_at hl 2 rfl) ?_
    refine lv_iconst (v := (-1)) hx hb dX10_readAct_210 (by decide) ?_
    have J_219 : ∀ (σ_219 : oSt) (H : Heap) (locs : List Loc), oI A L τ cy D s.heap σ_219 H locs → oFr τ fs_X10_readAct ts_X10_readAct σ σ_219 → ∀ (ls : Array Slot), lv_has ls 4 [(0, .ref a0), (1, .int v3), (2, .int j209_2), (3, .int j209_3)] → W p l e ({ frames := 5, cells := 0, slots := 0, locals := 128 } : Room) s m args below meth c H locs 0 0 Q (F0 m 219 ls []) := by
      intro    σ_219 H locs hw fr   ls hl
      refine lv_iconst (v := (-1)) hx hb dX10_readAct_219 (by decide) ?_
      refine lv_goto (tgt := 234) hx hb dX10_readAct_220 (by decide) ?_
      rw [← hQ]
      exact o_ri cx rx hw dX10_readAct_234 fr
    refine lv_icmp_eq (tgt := 219) hx hb dX10_readAct_211 (by decide) (fun c4 => ?_) (fun c4 => ?_)
    · --
      have i5 : Iv j209_2 (-1) (-1) := iv_eq1 c4 (iv_top j209_2) (⟨by decide, by decide⟩ : Iv (-1) (-1) (-1)) (by decide)
      exact J_219 σ_209 _ _ hw fr _ (lv_sub hl [0, 1, 2, 3] rfl)
    · --
      refine lv_iload_n hx hb dX10_readAct_214 rfl (lv_at hl 3 rfl) ?_
      refine lv_iconst (v := (-1)) hx hb dX10_readAct_215 (by decide) ?_
      refine lv_icmp_ne (tgt := 223) hx hb dX10_readAct_216 (by decide) (fun c6 => ?_) (fun c6 => ?_)
      · --
        refine lv_iload_n hx hb dX10_readAct_223 rfl (lv_at hl 1 rfl) ?_
        refine lv_bipush (v := 10) hx hb dX10_readAct_224 (by decide) ?_
        refine lv_ishl hx hb dX10_readAct_226 ?_
        refine lv_topi (fun v7 e7 => ?_)
        refine lv_iload_n hx hb dX10_readAct_227 rfl (lv_at hl 2 rfl) ?_
        refine lv_bipush (v := 6) hx hb dX10_readAct_228 (by decide) ?_
        refine lv_ishl hx hb dX10_readAct_230 ?_
        refine lv_topi (fun v8 e8 => ?_)
        refine lv_ior hx hb dX10_readAct_231 ?_
        refine lv_topi (fun v9 e9 => ?_)
        refine lv_iload_n hx hb dX10_readAct_232 rfl (lv_at hl 3 rfl) ?_
        refine lv_ior hx hb dX10_readAct_233 ?_
        refine lv_topi (fun v10 e10 => ?_)
        rw [← hQ]
        exact o_ri cx rx hw dX10_readAct_234 fr
      · --
        have i11 : Iv j209_3 (-1) (-1) := iv_eq1 c6 (iv_top j209_3) (⟨by decide, by decide⟩ : Iv (-1) (-1) (-1)) (by decide)
        exact J_219 σ_209 _ _ hw fr _ (lv_sub hl [0, 1, 2, 3] rfl)
  by_cases q12 : v3 = 99
  · --
    refine lv_tableIn (tgt := 161) hx hb dX10_readAct_16 (by rw [q12]; decide) (by rw [q12]; decide) (by rw [q12]; rfl) (by decide) ?_
    have i13 : Iv v3 99 99 := iv_eq1 q12 p3_1 (⟨by decide, by decide⟩ : Iv 99 99 99) (by decide)
    refine lv_aload_n hx hb dX10_readAct_161 rfl (lv_at hl 3 rfl) ?_
    refine g_576 cx hw ha0 k_f_X10_10 dX10_readAct_162 (fun v14 e14 h14 => ?_)
    rw [show v14 = v1 from Option.some.inj (e14.symm.trans (((kr_c p3_0 (by decide)).trans e1)))]
    refine lv_iconst (v := 0) hx hb dX10_readAct_165 (by decide) ?_
    refine lv_bipush (v := 9) hx hb dX10_readAct_166 (by decide) ?_
    refine o_ci hw (oRunV cx hA hw q_X7_digit k_m_X10_247 rfl h1 (by decide) (As := [.int 0, .int 9]) (c_X7_digit v1 h1 0 9) (by decide) rfl hl.1 rfl (Nat.le_of_ble_eq_true rfl) dX10_readAct_168 (by decide)) (fun v16 σ15 H locs hp hw => ?_)
    have p16_0 := hp
    have fr := oFr_tr fr p16_0 (by decide)
    refine lv_istore_n (lv' := [(2, .int v16), (3, .int 0), (1, .int v3), (0, .ref a0)]) hx hb dX10_readAct_171 rfl hl (by decide) rfl (fun ls hl => ?_)
    refine lv_goto (tgt := 209) hx hb dX10_readAct_172 (by decide) ?_
    exact J_209 v16 0 σ15 _ _ hw fr _ (lv_sub hl [3, 2, 0, 1] rfl)
  by_cases q17 : v3 = 100
  · --
    refine lv_tableIn (tgt := 175) hx hb dX10_readAct_16 (by rw [q17]; decide) (by rw [q17]; decide) (by rw [q17]; rfl) (by decide) ?_
    have i18 : Iv v3 100 100 := iv_eq1 q17 p3_1 (⟨by decide, by decide⟩ : Iv 100 100 100) (by decide)
    refine lv_aload_n hx hb dX10_readAct_175 rfl (lv_at hl 3 rfl) ?_
    refine g_576 cx hw ha0 k_f_X10_10 dX10_readAct_176 (fun v19 e19 h19 => ?_)
    rw [show v19 = v1 from Option.some.inj (e19.symm.trans (((kr_c p3_0 (by decide)).trans e1)))]
    refine lv_iconst (v := 0) hx hb dX10_readAct_179 (by decide) ?_
    refine lv_bipush (v := 9) hx hb dX10_readAct_180 (by decide) ?_
    refine o_ci hw (oRunV cx hA hw q_X7_digit k_m_X10_247 rfl h1 (by decide) (As := [.int 0, .int 9]) (c_X7_digit v1 h1 0 9) (by decide) rfl hl.1 rfl (Nat.le_of_ble_eq_true rfl) dX10_readAct_182 (by decide)) (fun v21 σ20 H locs hp hw => ?_)
    have p21_0 := hp
    have fr := oFr_tr fr p21_0 (by decide)
    refine lv_istore_n (lv' := [(2, .int v21), (3, .int 0), (1, .int v3), (0, .ref a0)]) hx hb dX10_readAct_185 rfl hl (by decide) rfl (fun ls hl => ?_)
    refine lv_iload_n hx hb dX10_readAct_186 rfl (lv_at hl 0 rfl) ?_
    refine lv_iconst (v := (-1)) hx hb dX10_readAct_187 (by decide) ?_
    have J_203 : ∀ (k203_0 : Int32), ∀ (σ_203 : oSt) (H : Heap) (locs : List Loc), oI A L τ cy D s.heap σ_203 H locs → oFr τ fs_X10_readAct ts_X10_readAct σ σ_203 → ∀ (ls : Array Slot), lv_has ls 4 [(0, .ref a0), (1, .int v3), (2, .int v21), (3, .int 0)] → W p l e ({ frames := 5, cells := 0, slots := 0, locals := 128 } : Room) s m args below meth c H locs 0 0 Q (F0 m 203 ls [.int k203_0]) := by
      intro k203_0   σ_203 H locs hw fr   ls hl
      refine lv_istore_n (lv' := [(3, .int k203_0), (0, .ref a0), (1, .int v3), (2, .int v21)]) hx hb dX10_readAct_203 rfl hl (by decide) rfl (fun ls hl => ?_)
      refine lv_goto (tgt := 209) hx hb dX10_readAct_204 (by decide) ?_
      exact J_209 v21 k203_0 σ_203 _ _ hw fr _ (lv_sub hl [1, 2, 3, 0] rfl)
    refine lv_icmp_ne (tgt := 195) hx hb dX10_readAct_188 (by decide) (fun c22 => ?_) (fun c22 => ?_)
    · --
      refine lv_aload_n hx hb dX10_readAct_195 rfl (lv_at hl 3 rfl) ?_
      refine lv_bipush (v := 8) hx hb dX10_readAct_196 (by decide) ?_
      refine lv_bipush (v := 8) hx hb dX10_readAct_198 (by decide) ?_
      refine o_ci hw (oRunV cx hA hw q_X10_readCell k_m_X10_238 rfl ha0 (by decide) (As := [.int 8, .int 8]) (c_X10_readCell a0 ha0 8 8) (by decide) rfl hl.1 rfl (Nat.le_of_ble_eq_true rfl) dX10_readAct_200 (by decide)) (fun v24 σ23 H locs hp hw => ?_)
      have p24_0 := hp
      have fr := oFr_tr fr p24_0 (by decide)
      exact J_203 v24 σ23 _ _ hw fr _ (lv_sub hl [3, 2, 0, 1] rfl)
    · --
      have i25 : Iv v21 (-1) (-1) := iv_eq1 c22 (iv_top v21) (⟨by decide, by decide⟩ : Iv (-1) (-1) (-1)) (by decide)
      refine lv_iconst (v := (-1)) hx hb dX10_readAct_191 (by decide) ?_
      refine lv_goto (tgt := 203) hx hb dX10_readAct_192 (by decide) ?_
      exact J_203 (-1) σ20 _ _ hw fr _ (lv_sub hl [3, 2, 0, 1] rfl)
  by_cases q26 : v3 = 101
  · --
    refine lv_tableIn (tgt := 207) hx hb dX10_readAct_16 (by rw [q26]; decide) (by rw [q26]; decide) (by rw [q26]; rfl) (by decide) ?_
    have i27 : Iv v3 101 101 := iv_eq1 q26 p3_1 (⟨by decide, by decide⟩ : Iv 101 101 101) (by decide)
    refine lv_iconst (v := (-1)) hx hb dX10_readAct_207 (by decide) ?_
    rw [← hQ]
    exact o_ri cx rx hw dX10_readAct_208 fr
  by_cases q28 : v3 = 102
  · --
    refine lv_tableIn (tgt := 207) hx hb dX10_readAct_16 (by rw [q28]; decide) (by rw [q28]; decide) (by rw [q28]; rfl) (by decide) ?_
    have i29 : Iv v3 102 102 := iv_eq1 q28 p3_1 (⟨by decide, by decide⟩ : Iv 102 102 102) (by decide)
    refine lv_iconst (v := (-1)) hx hb dX10_readAct_207 (by decide) ?_
    rw [← hQ]
    exact o_ri cx rx hw dX10_readAct_208 fr
  by_cases q30 : v3 = 103
  · --
    refine lv_tableIn (tgt := 207) hx hb dX10_readAct_16 (by rw [q30]; decide) (by rw [q30]; decide) (by rw [q30]; rfl) (by decide) ?_
    have i31 : Iv v3 103 103 := iv_eq1 q30 p3_1 (⟨by decide, by decide⟩ : Iv 103 103 103) (by decide)
    refine lv_iconst (v := (-1)) hx hb dX10_readAct_207 (by decide) ?_
    rw [← hQ]
    exact o_ri cx rx hw dX10_readAct_208 fr
  by_cases q32 : v3 = 104
  · --
    refine lv_tableIn (tgt := 104) hx hb dX10_readAct_16 (by rw [q32]; decide) (by rw [q32]; decide) (by rw [q32]; rfl) (by decide) ?_
    have i33 : Iv v3 104 104 := iv_eq1 q32 p3_1 (⟨by decide, by decide⟩ : Iv 104 104 104) (by decide)
    refine lv_aload_n hx hb dX10_readAct_104 rfl (lv_at hl 3 rfl) ?_
    refine g_576 cx hw ha0 k_f_X10_10 dX10_readAct_105 (fun v34 e34 h34 => ?_)
    rw [show v34 = v1 from Option.some.inj (e34.symm.trans (((kr_c p3_0 (by decide)).trans e1)))]
    refine lv_iconst (v := 1) hx hb dX10_readAct_108 (by decide) ?_
    refine lv_bipush (v := 9) hx hb dX10_readAct_109 (by decide) ?_
    refine o_ci hw (oRunV cx hA hw q_X7_digit k_m_X10_247 rfl h1 (by decide) (As := [.int 1, .int 9]) (c_X7_digit v1 h1 1 9) (by decide) rfl hl.1 rfl (Nat.le_of_ble_eq_true rfl) dX10_readAct_111 (by decide)) (fun v36 σ35 H locs hp hw => ?_)
    have p36_0 := hp
    have fr := oFr_tr fr p36_0 (by decide)
    refine lv_istore_n (lv' := [(2, .int v36), (3, .int 0), (1, .int v3), (0, .ref a0)]) hx hb dX10_readAct_114 rfl hl (by decide) rfl (fun ls hl => ?_)
    refine lv_iload_n hx hb dX10_readAct_115 rfl (lv_at hl 0 rfl) ?_
    refine lv_iconst (v := (-1)) hx hb dX10_readAct_116 (by decide) ?_
    have J_125 : ∀ (k125_0 : Int32), ∀ (σ_125 : oSt) (H : Heap) (locs : List Loc), oI A L τ cy D s.heap σ_125 H locs → oFr τ fs_X10_readAct ts_X10_readAct σ σ_125 → ∀ (ls : Array Slot), lv_has ls 4 [(0, .ref a0), (1, .int v3), (2, .int v36), (3, .int 0)] → W p l e ({ frames := 5, cells := 0, slots := 0, locals := 128 } : Room) s m args below meth c H locs 0 0 Q (F0 m 125 ls [.int k125_0]) := by
      intro k125_0   σ_125 H locs hw fr   ls hl
      refine lv_istore_n (lv' := [(2, .int k125_0), (0, .ref a0), (1, .int v3), (3, .int 0)]) hx hb dX10_readAct_125 rfl hl (by decide) rfl (fun ls hl => ?_)
      refine lv_goto (tgt := 209) hx hb dX10_readAct_126 (by decide) ?_
      exact J_209 k125_0 0 σ_125 _ _ hw fr _ (lv_sub hl [1, 2, 0, 3] rfl)
    refine lv_icmp_ne (tgt := 124) hx hb dX10_readAct_117 (by decide) (fun c37 => ?_) (fun c37 => ?_)
    · --
      refine lv_iload_n hx hb dX10_readAct_124 rfl (lv_at hl 0 rfl) ?_
      exact J_125 v36 σ35 _ _ hw fr _ (lv_sub hl [3, 2, 0, 1] rfl)
    · --
      have i38 : Iv v36 (-1) (-1) := iv_eq1 c37 (iv_top v36) (⟨by decide, by decide⟩ : Iv (-1) (-1) (-1)) (by decide)
      refine lv_iconst (v := 1) hx hb dX10_readAct_120 (by decide) ?_
      refine lv_goto (tgt := 125) hx hb dX10_readAct_121 (by decide) ?_
      exact J_125 1 σ35 _ _ hw fr _ (lv_sub hl [3, 2, 0, 1] rfl)
  by_cases q39 : v3 = 105
  · --
    refine lv_tableIn (tgt := 207) hx hb dX10_readAct_16 (by rw [q39]; decide) (by rw [q39]; decide) (by rw [q39]; rfl) (by decide) ?_
    have i40 : Iv v3 105 105 := iv_eq1 q39 p3_1 (⟨by decide, by decide⟩ : Iv 105 105 105) (by decide)
    refine lv_iconst (v := (-1)) hx hb dX10_readAct_207 (by decide) ?_
    rw [← hQ]
    exact o_ri cx rx hw dX10_readAct_208 fr
  by_cases q41 : v3 = 106
  · --
    refine lv_tableIn (tgt := 207) hx hb dX10_readAct_16 (by rw [q41]; decide) (by rw [q41]; decide) (by rw [q41]; rfl) (by decide) ?_
    have i42 : Iv v3 106 106 := iv_eq1 q41 p3_1 (⟨by decide, by decide⟩ : Iv 106 106 106) (by decide)
    refine lv_iconst (v := (-1)) hx hb dX10_readAct_207 (by decide) ?_
    rw [← hQ]
    exact o_ri cx rx hw dX10_readAct_208 fr
  by_cases q43 : v3 = 107
  · --
    refine lv_tableIn (tgt := 207) hx hb dX10_readAct_16 (by rw [q43]; decide) (by rw [q43]; decide) (by rw [q43]; rfl) (by decide) ?_
    have i44 : Iv v3 107 107 := iv_eq1 q43 p3_1 (⟨by decide, by decide⟩ : Iv 107 107 107) (by decide)
    refine lv_iconst (v := (-1)) hx hb dX10_readAct_207 (by decide) ?_
    rw [← hQ]
    exact o_ri cx rx hw dX10_readAct_208 fr
  by_cases q45 : v3 = 108
  · --
    refine lv_tableIn (tgt := 207) hx hb dX10_readAct_16 (by rw [q45]; decide) (by rw [q45]; decide) (by rw [q45]; rfl) (by decide) ?_
    have i46 : Iv v3 108 108 := iv_eq1 q45 p3_1 (⟨by decide, by decide⟩ : Iv 108 108 108) (by decide)
    refine lv_iconst (v := (-1)) hx hb dX10_readAct_207 (by decide) ?_
    rw [← hQ]
    exact o_ri cx rx hw dX10_readAct_208 fr
  by_cases q47 : v3 = 109
  · --
    refine lv_tableIn (tgt := 207) hx hb dX10_readAct_16 (by rw [q47]; decide) (by rw [q47]; decide) (by rw [q47]; rfl) (by decide) ?_
    have i48 : Iv v3 109 109 := iv_eq1 q47 p3_1 (⟨by decide, by decide⟩ : Iv 109 109 109) (by decide)
    refine lv_iconst (v := (-1)) hx hb dX10_readAct_207 (by decide) ?_
    rw [← hQ]
    exact o_ri cx rx hw dX10_readAct_208 fr
  by_cases q49 : v3 = 110
  · --
    refine lv_tableIn (tgt := 207) hx hb dX10_readAct_16 (by rw [q49]; decide) (by rw [q49]; decide) (by rw [q49]; rfl) (by decide) ?_
    have i50 : Iv v3 110 110 := iv_eq1 q49 p3_1 (⟨by decide, by decide⟩ : Iv 110 110 110) (by decide)
    refine lv_iconst (v := (-1)) hx hb dX10_readAct_207 (by decide) ?_
    rw [← hQ]
    exact o_ri cx rx hw dX10_readAct_208 fr
  by_cases q51 : v3 = 111
  · --
    refine lv_tableIn (tgt := 161) hx hb dX10_readAct_16 (by rw [q51]; decide) (by rw [q51]; decide) (by rw [q51]; rfl) (by decide) ?_
    have i52 : Iv v3 111 111 := iv_eq1 q51 p3_1 (⟨by decide, by decide⟩ : Iv 111 111 111) (by decide)
    refine lv_aload_n hx hb dX10_readAct_161 rfl (lv_at hl 3 rfl) ?_
    refine g_576 cx hw ha0 k_f_X10_10 dX10_readAct_162 (fun v53 e53 h53 => ?_)
    rw [show v53 = v1 from Option.some.inj (e53.symm.trans (((kr_c p3_0 (by decide)).trans e1)))]
    refine lv_iconst (v := 0) hx hb dX10_readAct_165 (by decide) ?_
    refine lv_bipush (v := 9) hx hb dX10_readAct_166 (by decide) ?_
    refine o_ci hw (oRunV cx hA hw q_X7_digit k_m_X10_247 rfl h1 (by decide) (As := [.int 0, .int 9]) (c_X7_digit v1 h1 0 9) (by decide) rfl hl.1 rfl (Nat.le_of_ble_eq_true rfl) dX10_readAct_168 (by decide)) (fun v55 σ54 H locs hp hw => ?_)
    have p55_0 := hp
    have fr := oFr_tr fr p55_0 (by decide)
    refine lv_istore_n (lv' := [(2, .int v55), (3, .int 0), (1, .int v3), (0, .ref a0)]) hx hb dX10_readAct_171 rfl hl (by decide) rfl (fun ls hl => ?_)
    refine lv_goto (tgt := 209) hx hb dX10_readAct_172 (by decide) ?_
    exact J_209 v55 0 σ54 _ _ hw fr _ (lv_sub hl [3, 2, 0, 1] rfl)
  by_cases q56 : v3 = 112
  · --
    refine lv_tableIn (tgt := 207) hx hb dX10_readAct_16 (by rw [q56]; decide) (by rw [q56]; decide) (by rw [q56]; rfl) (by decide) ?_
    have i57 : Iv v3 112 112 := iv_eq1 q56 p3_1 (⟨by decide, by decide⟩ : Iv 112 112 112) (by decide)
    refine lv_iconst (v := (-1)) hx hb dX10_readAct_207 (by decide) ?_
    rw [← hQ]
    exact o_ri cx rx hw dX10_readAct_208 fr
  by_cases q58 : v3 = 113
  · --
    refine lv_tableIn (tgt := 207) hx hb dX10_readAct_16 (by rw [q58]; decide) (by rw [q58]; decide) (by rw [q58]; rfl) (by decide) ?_
    have i59 : Iv v3 113 113 := iv_eq1 q58 p3_1 (⟨by decide, by decide⟩ : Iv 113 113 113) (by decide)
    refine lv_iconst (v := (-1)) hx hb dX10_readAct_207 (by decide) ?_
    rw [← hQ]
    exact o_ri cx rx hw dX10_readAct_208 fr
  by_cases q60 : v3 = 114
  · --
    refine lv_tableIn (tgt := 207) hx hb dX10_readAct_16 (by rw [q60]; decide) (by rw [q60]; decide) (by rw [q60]; rfl) (by decide) ?_
    have i61 : Iv v3 114 114 := iv_eq1 q60 p3_1 (⟨by decide, by decide⟩ : Iv 114 114 114) (by decide)
    refine lv_iconst (v := (-1)) hx hb dX10_readAct_207 (by decide) ?_
    rw [← hQ]
    exact o_ri cx rx hw dX10_readAct_208 fr
  by_cases q62 : v3 = 115
  · --
    refine lv_tableIn (tgt := 129) hx hb dX10_readAct_16 (by rw [q62]; decide) (by rw [q62]; decide) (by rw [q62]; rfl) (by decide) ?_
    have i63 : Iv v3 115 115 := iv_eq1 q62 p3_1 (⟨by decide, by decide⟩ : Iv 115 115 115) (by decide)
    refine lv_aload_n hx hb dX10_readAct_129 rfl (lv_at hl 3 rfl) ?_
    refine lv_bipush (v := 8) hx hb dX10_readAct_130 (by decide) ?_
    refine lv_bipush (v := 8) hx hb dX10_readAct_132 (by decide) ?_
    refine o_ci hw (oRunV cx hA hw q_X10_readCell k_m_X10_238 rfl ha0 (by decide) (As := [.int 8, .int 8]) (c_X10_readCell a0 ha0 8 8) (by decide) rfl hl.1 rfl (Nat.le_of_ble_eq_true rfl) dX10_readAct_134 (by decide)) (fun v65 σ64 H locs hp hw => ?_)
    have p65_0 := hp
    have fr := oFr_tr fr p65_0 (by decide)
    refine lv_istore_n (lv' := [(3, .int v65), (2, .int 0), (1, .int v3), (0, .ref a0)]) hx hb dX10_readAct_137 rfl hl (by decide) rfl (fun ls hl => ?_)
    refine lv_iload_n hx hb dX10_readAct_138 rfl (lv_at hl 0 rfl) ?_
    refine lv_iconst (v := (-1)) hx hb dX10_readAct_139 (by decide) ?_
    have J_157 : ∀ (k157_0 : Int32), ∀ (σ_157 : oSt) (H : Heap) (locs : List Loc), oI A L τ cy D s.heap σ_157 H locs → oFr τ fs_X10_readAct ts_X10_readAct σ σ_157 → ∀ (ls : Array Slot), lv_has ls 4 [(0, .ref a0), (1, .int v3), (2, .int 0), (3, .int v65)] → W p l e ({ frames := 5, cells := 0, slots := 0, locals := 128 } : Room) s m args below meth c H locs 0 0 Q (F0 m 157 ls [.int k157_0]) := by
      intro k157_0   σ_157 H locs hw fr   ls hl
      refine lv_istore_n (lv' := [(2, .int k157_0), (0, .ref a0), (1, .int v3), (3, .int v65)]) hx hb dX10_readAct_157 rfl hl (by decide) rfl (fun ls hl => ?_)
      refine lv_goto (tgt := 209) hx hb dX10_readAct_158 (by decide) ?_
      exact J_209 k157_0 v65 σ_157 _ _ hw fr _ (lv_sub hl [1, 2, 0, 3] rfl)
    refine lv_icmp_ne (tgt := 147) hx hb dX10_readAct_140 (by decide) (fun c66 => ?_) (fun c66 => ?_)
    · --
      refine lv_aload_n hx hb dX10_readAct_147 rfl (lv_at hl 3 rfl) ?_
      refine g_576 cx hw ha0 k_f_X10_10 dX10_readAct_148 (fun v67 e67 h67 => ?_)
      rw [show v67 = v1 from Option.some.inj (e67.symm.trans (((kr_c p65_0 (by decide)).trans ((kr_c p3_0 (by decide)).trans e1))))]
      refine lv_iconst (v := 0) hx hb dX10_readAct_151 (by decide) ?_
      refine lv_bipush (v := 9) hx hb dX10_readAct_152 (by decide) ?_
      refine o_ci hw (oRunV cx hA hw q_X7_digit k_m_X10_247 rfl h1 (by decide) (As := [.int 0, .int 9]) (c_X7_digit v1 h1 0 9) (by decide) rfl hl.1 rfl (Nat.le_of_ble_eq_true rfl) dX10_readAct_154 (by decide)) (fun v69 σ68 H locs hp hw => ?_)
      have p69_0 := hp
      have fr := oFr_tr fr p69_0 (by decide)
      exact J_157 v69 σ68 _ _ hw fr _ (lv_sub hl [3, 2, 1, 0] rfl)
    · --
      have i70 : Iv v65 (-1) (-1) := iv_eq1 c66 (iv_top v65) (⟨by decide, by decide⟩ : Iv (-1) (-1) (-1)) (by decide)
      refine lv_iconst (v := (-1)) hx hb dX10_readAct_143 (by decide) ?_
      refine lv_goto (tgt := 157) hx hb dX10_readAct_144 (by decide) ?_
      exact J_157 (-1) σ64 _ _ hw fr _ (lv_sub hl [3, 2, 1, 0] rfl)
  by_cases q71 : v3 = 116
  · --
    refine lv_tableIn (tgt := 129) hx hb dX10_readAct_16 (by rw [q71]; decide) (by rw [q71]; decide) (by rw [q71]; rfl) (by decide) ?_
    have i72 : Iv v3 116 116 := iv_eq1 q71 p3_1 (⟨by decide, by decide⟩ : Iv 116 116 116) (by decide)
    refine lv_aload_n hx hb dX10_readAct_129 rfl (lv_at hl 3 rfl) ?_
    refine lv_bipush (v := 8) hx hb dX10_readAct_130 (by decide) ?_
    refine lv_bipush (v := 8) hx hb dX10_readAct_132 (by decide) ?_
    refine o_ci hw (oRunV cx hA hw q_X10_readCell k_m_X10_238 rfl ha0 (by decide) (As := [.int 8, .int 8]) (c_X10_readCell a0 ha0 8 8) (by decide) rfl hl.1 rfl (Nat.le_of_ble_eq_true rfl) dX10_readAct_134 (by decide)) (fun v74 σ73 H locs hp hw => ?_)
    have p74_0 := hp
    have fr := oFr_tr fr p74_0 (by decide)
    refine lv_istore_n (lv' := [(3, .int v74), (2, .int 0), (1, .int v3), (0, .ref a0)]) hx hb dX10_readAct_137 rfl hl (by decide) rfl (fun ls hl => ?_)
    refine lv_iload_n hx hb dX10_readAct_138 rfl (lv_at hl 0 rfl) ?_
    refine lv_iconst (v := (-1)) hx hb dX10_readAct_139 (by decide) ?_
    have J_157 : ∀ (k157_0 : Int32), ∀ (σ_157 : oSt) (H : Heap) (locs : List Loc), oI A L τ cy D s.heap σ_157 H locs → oFr τ fs_X10_readAct ts_X10_readAct σ σ_157 → ∀ (ls : Array Slot), lv_has ls 4 [(0, .ref a0), (1, .int v3), (2, .int 0), (3, .int v74)] → W p l e ({ frames := 5, cells := 0, slots := 0, locals := 128 } : Room) s m args below meth c H locs 0 0 Q (F0 m 157 ls [.int k157_0]) := by
      intro k157_0   σ_157 H locs hw fr   ls hl
      refine lv_istore_n (lv' := [(2, .int k157_0), (0, .ref a0), (1, .int v3), (3, .int v74)]) hx hb dX10_readAct_157 rfl hl (by decide) rfl (fun ls hl => ?_)
      refine lv_goto (tgt := 209) hx hb dX10_readAct_158 (by decide) ?_
      exact J_209 k157_0 v74 σ_157 _ _ hw fr _ (lv_sub hl [1, 2, 0, 3] rfl)
    refine lv_icmp_ne (tgt := 147) hx hb dX10_readAct_140 (by decide) (fun c75 => ?_) (fun c75 => ?_)
    · --
      refine lv_aload_n hx hb dX10_readAct_147 rfl (lv_at hl 3 rfl) ?_
      refine g_576 cx hw ha0 k_f_X10_10 dX10_readAct_148 (fun v76 e76 h76 => ?_)
      rw [show v76 = v1 from Option.some.inj (e76.symm.trans (((kr_c p74_0 (by decide)).trans ((kr_c p3_0 (by decide)).trans e1))))]
      refine lv_iconst (v := 0) hx hb dX10_readAct_151 (by decide) ?_
      refine lv_bipush (v := 9) hx hb dX10_readAct_152 (by decide) ?_
      refine o_ci hw (oRunV cx hA hw q_X7_digit k_m_X10_247 rfl h1 (by decide) (As := [.int 0, .int 9]) (c_X7_digit v1 h1 0 9) (by decide) rfl hl.1 rfl (Nat.le_of_ble_eq_true rfl) dX10_readAct_154 (by decide)) (fun v78 σ77 H locs hp hw => ?_)
      have p78_0 := hp
      have fr := oFr_tr fr p78_0 (by decide)
      exact J_157 v78 σ77 _ _ hw fr _ (lv_sub hl [3, 2, 1, 0] rfl)
    · --
      have i79 : Iv v74 (-1) (-1) := iv_eq1 c75 (iv_top v74) (⟨by decide, by decide⟩ : Iv (-1) (-1) (-1)) (by decide)
      refine lv_iconst (v := (-1)) hx hb dX10_readAct_143 (by decide) ?_
      refine lv_goto (tgt := 157) hx hb dX10_readAct_144 (by decide) ?_
      exact J_157 (-1) σ73 _ _ hw fr _ (lv_sub hl [3, 2, 1, 0] rfl)
  have q12 := iv_nt q12 (k := 99) (by decide)
  have q17 := iv_nt q17 (k := 100) (by decide)
  have q26 := iv_nt q26 (k := 101) (by decide)
  have q28 := iv_nt q28 (k := 102) (by decide)
  have q30 := iv_nt q30 (k := 103) (by decide)
  have q32 := iv_nt q32 (k := 104) (by decide)
  have q39 := iv_nt q39 (k := 105) (by decide)
  have q41 := iv_nt q41 (k := 106) (by decide)
  have q43 := iv_nt q43 (k := 107) (by decide)
  have q45 := iv_nt q45 (k := 108) (by decide)
  have q47 := iv_nt q47 (k := 109) (by decide)
  have q49 := iv_nt q49 (k := 110) (by decide)
  have q51 := iv_nt q51 (k := 111) (by decide)
  have q56 := iv_nt q56 (k := 112) (by decide)
  have q58 := iv_nt q58 (k := 113) (by decide)
  have q60 := iv_nt q60 (k := 114) (by decide)
  have q62 := iv_nt q62 (k := 115) (by decide)
  have q71 := iv_nt q71 (k := 116) (by decide)
  refine lv_tableOut (tgt := 207) hx hb dX10_readAct_16 (by omega) (by decide) ?_
  refine lv_iconst (v := (-1)) hx hb dX10_readAct_207 (by decide) ?_
  rw [← hQ]
  exact o_ri cx rx hw dX10_readAct_208 fr
abbrev fs_X10_faultOfDay : List Nat := [386, 387]
abbrev ts_X10_faultOfDay : List Nat := []
set_option maxHeartbeats 4000000 in
set_option maxRecDepth 100000 in
theorem c_X10_faultOfDay (a0 : Nat) (ha0 : oA L τ a0 9) : oMet l A L τ cy D K yX10_faultOfDay cX10_faultOfDay 2 (some .int) 6 151 [.ref a0] σ (va_Qi (fun r σ1 => oFr τ fs_X10_faultOfDay ts_X10_faultOfDay σ σ1) (oPo A L τ cy D) A) := by
  refine oMk (by decide) (Nat.le_of_ble_eq_true rfl) rfl ?_
  intro p e s m args below meth c ls cx rx hA hw hl
  generalize hQ : MQ below _ args s 0 0 A = Q
  have hx := cx.1.1
  have hb := cx.1.2.1
  have hml := cx.1.2.2.1
  have hown := cx.1.2.2.2.1
  have hts := cx.1.2.2.2.2
  have hl : lv_has ls 2 [(0, .ref a0)] := hl
  have fr : oFr τ fs_X10_faultOfDay ts_X10_faultOfDay σ σ := oFr_rf
  refine lv_aload_n hx hb dX10_faultOfDay_0 rfl (lv_at hl 0 rfl) ?_
  refine g_576 cx hw ha0 k_f_X10_10 dX10_faultOfDay_1 (fun v1 e1 h1 => ?_)
  refine lv_bipush (v := 60) hx hb dX10_faultOfDay_4 (by decide) ?_
  refine o_cv hw (oRunV cx hA hw q_X7_begin k_m_X10_220 rfl h1 (by decide) (As := [.int 60]) (c_X7_begin v1 h1 60) (by decide) rfl hl.1 rfl (Nat.le_of_ble_eq_true rfl) dX10_faultOfDay_6 (by decide)) (fun σ2 H locs hp hw => ?_)
  have p3_0 := hp
  have fr := oFr_tr fr p3_0 (by decide)
  refine lv_aload_n hx hb dX10_faultOfDay_9 rfl (lv_at hl 0 rfl) ?_
  refine g_576 cx hw ha0 k_f_X10_10 dX10_faultOfDay_10 (fun v4 e4 h4 => ?_)
  rw [show v4 = v1 from Option.some.inj (e4.symm.trans (((kr_c p3_0 (by decide)).trans e1)))]
  refine o_ci hw (oRunV cx hA hw q_X7_isAtEnd k_m_X10_224 rfl h1 (by decide) (As := []) (c_X7_isAtEnd v1 h1) (by decide) rfl hl.1 rfl (Nat.le_of_ble_eq_true rfl) dX10_faultOfDay_13 (by decide)) (fun v6 σ5 H locs hp hw => ?_)
  obtain ⟨p6_0, p6_1⟩ := hp
  rw [p6_0] at hw
  refine lv_if_eq (tgt := 21) hx hb dX10_faultOfDay_16 (by decide) (fun c7 => ?_) (fun c7 => ?_)
  · --
    have i8 : Iv v6 0 0 := iv_eq1 c7 p6_1 (⟨by decide, by decide⟩ : Iv 0 0 0) (by decide)
    refine lv_iconst (v := 0) hx hb dX10_faultOfDay_21 (by decide) ?_
    refine lv_istore_n (lv' := [(1, .int 0), (0, .ref a0)]) hx hb dX10_faultOfDay_22 rfl hl (by decide) rfl (fun ls hl => ?_)
    have J_23 : ∀ n : Nat, ∀ (j23_1 : Int32) (ij23_1 : Iv j23_1 0 60), (60 - j23_1.toInt).toNat < n → ∀ (σ_23 : oSt) (H : Heap) (locs : List Loc), oI A L τ cy D s.heap σ_23 H locs → oFr τ fs_X10_faultOfDay ts_X10_faultOfDay σ σ_23 → ∀ (ls : Array Slot), lv_has ls 2 [(0, .ref a0), (1, .int j23_1)] → W p l e ({ frames := 6, cells := 0, slots := 0, locals := 151 } : Room) s m args below meth c H locs 0 0 Q (F0 m 23 ls []) := by
      intro n
      induction n with
      | zero => intro j23_1 ij23_1 hn_23  σ_23 H locs hw fr   ls hl; exact absurd hn_23 (Nat.not_lt_zero _)
      | succ n ih_23 =>
        intro j23_1 ij23_1 hn_23  σ_23 H locs hw fr   ls hl
        refine lv_iload_n hx hb dX10_faultOfDay_23 rfl (lv_at hl 1 rfl) ?_
        refine lv_bipush (v := 60) hx hb dX10_faultOfDay_24 (by decide) ?_
        refine lv_icmp_ge (tgt := 83) hx hb dX10_faultOfDay_26 (by decide) (fun c9 => ?_) (fun c9 => ?_)
        · --
          have i10 : Iv j23_1 60 60 := iv_le2 c9 (⟨by decide, by decide⟩ : Iv 60 60 60) ij23_1 (by decide)
          refine lv_aload_n hx hb dX10_faultOfDay_83 rfl (lv_at hl 0 rfl) ?_
          refine g_576 cx hw ha0 k_f_X10_10 dX10_faultOfDay_84 (fun v11 e11 h11 => ?_)
          refine o_ci hw (oRunV cx hA hw q_X7_fault k_m_X10_231 rfl h11 (by decide) (As := []) (c_X7_fault v11 h11) (by decide) rfl hl.1 rfl (Nat.le_of_ble_eq_true rfl) dX10_faultOfDay_87 (by decide)) (fun v13 σ12 H locs hp hw => ?_)
          have p13_0 := hp
          rw [p13_0] at hw
          rw [← hQ]
          exact o_ri cx rx hw dX10_faultOfDay_90 fr
        · --
          have i14 : Iv j23_1 0 59 := iv_lt1 (iv_nle c9) ij23_1 (⟨by decide, by decide⟩ : Iv 60 60 60) (by decide)
          refine lv_aload_n hx hb dX10_faultOfDay_29 rfl (lv_at hl 0 rfl) ?_
          refine o_ci hw (oRunV cx hA hw q_X10_readAct k_m_X10_283 rfl ha0 (by decide) (As := []) (c_X10_readAct a0 ha0) (by decide) rfl hl.1 rfl (Nat.le_of_ble_eq_true rfl) dX10_faultOfDay_30 (by decide)) (fun v16 σ15 H locs hp hw => ?_)
          have p16_0 := hp
          have fr := oFr_tr fr p16_0 (by decide)
          refine lv_iconst (v := (-1)) hx hb dX10_faultOfDay_33 (by decide) ?_
          refine lv_icmp_ne (tgt := 45) hx hb dX10_faultOfDay_34 (by decide) (fun c17 => ?_) (fun c17 => ?_)
          · --
            refine lv_aload_n hx hb dX10_faultOfDay_45 rfl (lv_at hl 0 rfl) ?_
            refine g_576 cx hw ha0 k_f_X10_10 dX10_faultOfDay_46 (fun v18 e18 h18 => ?_)
            refine o_ci hw (oRunV cx hA hw q_X7_isAtEnd k_m_X10_224 rfl h18 (by decide) (As := []) (c_X7_isAtEnd v18 h18) (by decide) rfl hl.1 rfl (Nat.le_of_ble_eq_true rfl) dX10_faultOfDay_49 (by decide)) (fun v20 σ19 H locs hp hw => ?_)
            obtain ⟨p20_0, p20_1⟩ := hp
            rw [p20_0] at hw
            refine lv_if_eq (tgt := 57) hx hb dX10_faultOfDay_52 (by decide) (fun c21 => ?_) (fun c21 => ?_)
            · --
              have i22 : Iv v20 0 0 := iv_eq1 c21 p20_1 (⟨by decide, by decide⟩ : Iv 0 0 0) (by decide)
              refine lv_aload_n hx hb dX10_faultOfDay_57 rfl (lv_at hl 0 rfl) ?_
              refine g_576 cx hw ha0 k_f_X10_10 dX10_faultOfDay_58 (fun v23 e23 h23 => ?_)
              rw [show v23 = v18 from Option.some.inj (e23.symm.trans (e18))]
              refine lv_bipush (v := 59) hx hb dX10_faultOfDay_61 (by decide) ?_
              refine o_ci hw (oRunV cx hA hw q_X7_take k_m_X10_234 rfl h18 (by decide) (As := [.int 59]) (c_X7_take v18 h18 59 (iv_w (⟨by decide, by decide⟩ : Iv 59 59 59) (by decide))) (by decide) rfl hl.1 rfl (Nat.le_of_ble_eq_true rfl) dX10_faultOfDay_63 (by decide)) (fun v25 σ24 H locs hp hw => ?_)
              obtain ⟨p25_0, p25_1⟩ := hp
              have fr := oFr_tr fr p25_0 (by decide)
              refine lv_if_ne (tgt := 77) hx hb dX10_faultOfDay_66 (by decide) (fun c26 => ?_) (fun c26 => ?_)
              · --
                have i27 : Iv v25 1 1 := iv_ne1 c26 p25_1 (⟨by decide, by decide⟩ : Iv 0 0 0) (by decide)
                obtain ⟨v28, e28⟩ : ∃ y : Int32, y = j23_1 + 1 := ⟨_, rfl⟩
                have i28 : Iv v28 1 60 := iv_add e28 i14 (⟨by decide, by decide⟩ : Iv 1 1 1) (by decide)
                have x28 : v28.toInt = j23_1.toInt + 1 := ex_add e28 i14 (⟨by decide, by decide⟩ : Iv 1 1 1) (by decide)
                refine lv_iinc (v := v28) (lv' := [(1, .int v28), (0, .ref a0)]) hx hb dX10_faultOfDay_77 hl (k := 1) rfl (by rw [e28]; rfl) (by decide) rfl (fun ls hl => ?_)
                refine lv_goto (tgt := 23) hx hb dX10_faultOfDay_80 (by decide) ?_
                exact ih_23 v28 (iv_w i28 (by decide)) (ms_up x28 (by decide) (iv_w (a' := 0) (b' := 60) i28 (by decide)).2 hn_23) σ24 _ _ hw fr _ (lv_sub hl [1, 0] rfl)
              · --
                have i29 : Iv v25 0 0 := iv_eq1 c26 p25_1 (⟨by decide, by decide⟩ : Iv 0 0 0) (by decide)
                refine lv_aload_n hx hb dX10_faultOfDay_69 rfl (lv_at hl 0 rfl) ?_
                refine g_576 cx hw ha0 k_f_X10_10 dX10_faultOfDay_70 (fun v30 e30 h30 => ?_)
                rw [show v30 = v18 from Option.some.inj (e30.symm.trans (((kr_c p25_0 (by decide)).trans e18)))]
                refine o_ci hw (oRunV cx hA hw q_X7_fault k_m_X10_231 rfl h18 (by decide) (As := []) (c_X7_fault v18 h18) (by decide) rfl hl.1 rfl (Nat.le_of_ble_eq_true rfl) dX10_faultOfDay_73 (by decide)) (fun v32 σ31 H locs hp hw => ?_)
                have p32_0 := hp
                rw [p32_0] at hw
                rw [← hQ]
                exact o_ri cx rx hw dX10_faultOfDay_76 fr
            · --
              have i33 : Iv v20 1 1 := iv_ne1 c21 p20_1 (⟨by decide, by decide⟩ : Iv 0 0 0) (by decide)
              refine lv_iconst (v := 0) hx hb dX10_faultOfDay_55 (by decide) ?_
              rw [← hQ]
              exact o_ri cx rx hw dX10_faultOfDay_56 fr
          · --
            have i34 : Iv v16 (-1) (-1) := iv_eq1 c17 (iv_top v16) (⟨by decide, by decide⟩ : Iv (-1) (-1) (-1)) (by decide)
            refine lv_aload_n hx hb dX10_faultOfDay_37 rfl (lv_at hl 0 rfl) ?_
            refine g_576 cx hw ha0 k_f_X10_10 dX10_faultOfDay_38 (fun v35 e35 h35 => ?_)
            refine o_ci hw (oRunV cx hA hw q_X7_fault k_m_X10_231 rfl h35 (by decide) (As := []) (c_X7_fault v35 h35) (by decide) rfl hl.1 rfl (Nat.le_of_ble_eq_true rfl) dX10_faultOfDay_41 (by decide)) (fun v37 σ36 H locs hp hw => ?_)
            have p37_0 := hp
            rw [p37_0] at hw
            rw [← hQ]
            exact o_ri cx rx hw dX10_faultOfDay_44 fr
    exact J_23 _ 0 (iv_w (⟨by decide, by decide⟩ : Iv 0 0 0) (by decide)) (Nat.lt_succ_self _) σ2 _ _ hw fr _ (lv_sub hl [1, 0] rfl)
  · --
    have i38 : Iv v6 1 1 := iv_ne1 c7 p6_1 (⟨by decide, by decide⟩ : Iv 0 0 0) (by decide)
    refine lv_iconst (v := 0) hx hb dX10_faultOfDay_19 (by decide) ?_
    rw [← hQ]
    exact o_ri cx rx hw dX10_faultOfDay_20 fr
abbrev fs_X10_perform : List Nat := [329, 330, 331, 517]
abbrev ts_X10_perform : List Nat := [32, 33, 37, 38]
set_option maxHeartbeats 4000000 in
set_option maxRecDepth 100000 in
theorem c_X10_perform (a0 : Nat) (ha0 : oA L τ a0 9) (a1 : Int32) : oMet l A L τ cy D K yX10_perform cX10_perform 4 (some .int) 5 130 [.ref a0, .int a1] σ (va_Qi (fun r σ1 => oFr τ fs_X10_perform ts_X10_perform σ σ1) (oPo A L τ cy D) A) := by
  refine oMk (by decide) (Nat.le_of_ble_eq_true rfl) rfl ?_
  intro p e s m args below meth c ls cx rx hA hw hl
  generalize hQ : MQ below _ args s 0 0 A = Q
  have hx := cx.1.1
  have hb := cx.1.2.1
  have hml := cx.1.2.2.1
  have hown := cx.1.2.2.2.1
  have hts := cx.1.2.2.2.2
  have hl : lv_has ls 4 [(0, .ref a0), (1, .int a1)] := hl
  have fr : oFr τ fs_X10_perform ts_X10_perform σ σ := oFr_rf
  refine lv_iload_n hx hb dX10_perform_0 rfl (lv_at hl 1 rfl) ?_
  refine lv_bipush (v := 6) hx hb dX10_perform_1 (by decide) ?_
  refine lv_ishr hx hb dX10_perform_3 ?_
  refine lv_topi (fun v1 e1 => ?_)
  refine lv_bipush (v := 15) hx hb dX10_perform_4 (by decide) ?_
  refine lv_iand hx hb dX10_perform_6 ?_
  refine lv_topi (fun v2 e2 => ?_)
  have i2 : Iv v2 0 15 := iv_and e2 (⟨by decide, by decide⟩ : Iv 15 15 15) (by decide)
  refine lv_istore_n (lv' := [(2, .int v2), (0, .ref a0), (1, .int a1)]) hx hb dX10_perform_7 rfl hl (by decide) rfl (fun ls hl => ?_)
  refine lv_iload_n hx hb dX10_perform_8 rfl (lv_at hl 2 rfl) ?_
  refine lv_bipush (v := 63) hx hb dX10_perform_9 (by decide) ?_
  refine lv_iand hx hb dX10_perform_11 ?_
  refine lv_topi (fun v3 e3 => ?_)
  have i3 : Iv v3 0 63 := iv_and e3 (⟨by decide, by decide⟩ : Iv 63 63 63) (by decide)
  refine lv_istore_n (lv' := [(3, .int v3), (2, .int v2), (0, .ref a0), (1, .int a1)]) hx hb dX10_perform_12 rfl hl (by decide) rfl (fun ls hl => ?_)
  refine lv_iload_n hx hb dX10_perform_13 rfl (lv_at hl 3 rfl) ?_
  refine lv_bipush (v := 10) hx hb dX10_perform_14 (by decide) ?_
  refine lv_ishr hx hb dX10_perform_16 ?_
  refine lv_topi (fun v4 e4 => ?_)
  by_cases q5 : v4 = 99
  · --
    refine lv_tableIn (tgt := 164) hx hb dX10_perform_17 (by rw [q5]; decide) (by rw [q5]; decide) (by rw [q5]; rfl) (by decide) ?_
    have i6 : Iv v4 99 99 := iv_eq1 q5 (iv_top v4) (⟨by decide, by decide⟩ : Iv 99 99 99) (by decide)
    refine lv_iconst (v := 0) hx hb dX10_perform_164 (by decide) ?_
    refine lv_aload_n hx hb dX10_perform_165 rfl (lv_at hl 2 rfl) ?_
    refine lv_iload_n hx hb dX10_perform_166 rfl (lv_at hl 1 rfl) ?_
    refine lv_iconst (v := 0) hx hb dX10_perform_167 (by decide) ?_
    refine o_ci hw (oRunV cx hA hw q_X10_turn k_m_X10_263 rfl ha0 (by decide) (As := [.int v2, .int 0]) (c_X10_turn a0 ha0 v2 0) (by decide) rfl hl.1 rfl (Nat.le_of_ble_eq_true rfl) dX10_perform_168 (by decide)) (fun v8 σ7 H locs hp hw => ?_)
    obtain ⟨p8_0, p8_1⟩ := hp
    have fr := oFr_tr fr p8_0 (by decide)
    refine va_mmin hx hb (hml.trans hl.1.symm) hown (hts _ k_m_X10_212) (hts _ k_s_J9_min_7cf53) (hts _ k_i_J9) (hts _ k_code_J9_min_7cf53) (by decide) (Nat.le_of_ble_eq_true rfl) (by decide) (by decide) dX10_perform_171 ?_
    refine lv_topi (fun v9 e9 => ?_)
    have i9 : Iv v9 (-2) 0 := iv_min e9 (⟨by decide, by decide⟩ : Iv 0 0 0) p8_1 (by decide)
    rw [← hQ]
    exact o_ri cx rx hw dX10_perform_174 fr
  by_cases q10 : v4 = 100
  · --
    refine lv_tableIn (tgt := 175) hx hb dX10_perform_17 (by rw [q10]; decide) (by rw [q10]; decide) (by rw [q10]; rfl) (by decide) ?_
    have i11 : Iv v4 100 100 := iv_eq1 q10 (iv_top v4) (⟨by decide, by decide⟩ : Iv 100 100 100) (by decide)
    refine lv_iconst (v := 0) hx hb dX10_perform_175 (by decide) ?_
    refine lv_aload_n hx hb dX10_perform_176 rfl (lv_at hl 2 rfl) ?_
    refine lv_iload_n hx hb dX10_perform_177 rfl (lv_at hl 1 rfl) ?_
    refine lv_iload_n hx hb dX10_perform_178 rfl (lv_at hl 0 rfl) ?_
    refine o_ci hw (oRunV cx hA hw q_X10_chase k_m_X10_266 rfl ha0 (by decide) (As := [.int v2, .int v3]) (c_X10_chase a0 ha0 v2 v3) (by decide) rfl hl.1 rfl (Nat.le_of_ble_eq_true rfl) dX10_perform_179 (by decide)) (fun v13 σ12 H locs hp hw => ?_)
    obtain ⟨p13_0, p13_1⟩ := hp
    have fr := oFr_tr fr p13_0 (by decide)
    refine va_mmin hx hb (hml.trans hl.1.symm) hown (hts _ k_m_X10_212) (hts _ k_s_J9_min_7cf53) (hts _ k_i_J9) (hts _ k_code_J9_min_7cf53) (by decide) (Nat.le_of_ble_eq_true rfl) (by decide) (by decide) dX10_perform_182 ?_
    refine lv_topi (fun v14 e14 => ?_)
    have i14 : Iv v14 (-2) 0 := iv_min e14 (⟨by decide, by decide⟩ : Iv 0 0 0) p13_1 (by decide)
    rw [← hQ]
    exact o_ri cx rx hw dX10_perform_185 fr
  by_cases q15 : v4 = 101
  · --
    refine lv_tableIn (tgt := 186) hx hb dX10_perform_17 (by rw [q15]; decide) (by rw [q15]; decide) (by rw [q15]; rfl) (by decide) ?_
    have i16 : Iv v4 101 101 := iv_eq1 q15 (iv_top v4) (⟨by decide, by decide⟩ : Iv 101 101 101) (by decide)
    refine lv_iconst (v := (-1)) hx hb dX10_perform_186 (by decide) ?_
    rw [← hQ]
    exact o_ri cx rx hw dX10_perform_187 fr
  by_cases q17 : v4 = 102
  · --
    refine lv_tableIn (tgt := 186) hx hb dX10_perform_17 (by rw [q17]; decide) (by rw [q17]; decide) (by rw [q17]; rfl) (by decide) ?_
    have i18 : Iv v4 102 102 := iv_eq1 q17 (iv_top v4) (⟨by decide, by decide⟩ : Iv 102 102 102) (by decide)
    refine lv_iconst (v := (-1)) hx hb dX10_perform_186 (by decide) ?_
    rw [← hQ]
    exact o_ri cx rx hw dX10_perform_187 fr
  by_cases q19 : v4 = 103
  · --
    refine lv_tableIn (tgt := 186) hx hb dX10_perform_17 (by rw [q19]; decide) (by rw [q19]; decide) (by rw [q19]; rfl) (by decide) ?_
    have i20 : Iv v4 103 103 := iv_eq1 q19 (iv_top v4) (⟨by decide, by decide⟩ : Iv 103 103 103) (by decide)
    refine lv_iconst (v := (-1)) hx hb dX10_perform_186 (by decide) ?_
    rw [← hQ]
    exact o_ri cx rx hw dX10_perform_187 fr
  by_cases q21 : v4 = 104
  · --
    refine lv_tableIn (tgt := 104) hx hb dX10_perform_17 (by rw [q21]; decide) (by rw [q21]; decide) (by rw [q21]; rfl) (by decide) ?_
    have i22 : Iv v4 104 104 := iv_eq1 q21 (iv_top v4) (⟨by decide, by decide⟩ : Iv 104 104 104) (by decide)
    refine lv_aload_n hx hb dX10_perform_104 rfl (lv_at hl 2 rfl) ?_
    refine g_580 cx hw ha0 k_f_X10_42 dX10_perform_105 (fun v23 e23 h23 => ?_)
    refine lv_aload_n hx hb dX10_perform_108 rfl (lv_at hl 2 rfl) ?_
    refine g_581 cx hw ha0 k_f_X10_49 dX10_perform_109 (fun v24 e24 h24 => ?_)
    refine lv_iload_n hx hb dX10_perform_112 rfl (lv_at hl 1 rfl) ?_
    refine o_ci hw (oRunV cx hA hw q_X9_passMany k_m_X10_276 rfl h23 (by decide) (As := [.ref v24, .int v2]) (c_X9_passMany v23 h23 v24 h24 v2) (by decide) rfl hl.1 rfl (Nat.le_of_ble_eq_true rfl) dX10_perform_113 (by decide)) (fun v26 σ25 H locs hp hw => ?_)
    have p26_0 := hp
    have fr := oFr_tr fr p26_0 (by decide)
    rw [← hQ]
    exact o_ri cx rx hw dX10_perform_116 fr
  by_cases q27 : v4 = 105
  · --
    refine lv_tableIn (tgt := 186) hx hb dX10_perform_17 (by rw [q27]; decide) (by rw [q27]; decide) (by rw [q27]; rfl) (by decide) ?_
    have i28 : Iv v4 105 105 := iv_eq1 q27 (iv_top v4) (⟨by decide, by decide⟩ : Iv 105 105 105) (by decide)
    refine lv_iconst (v := (-1)) hx hb dX10_perform_186 (by decide) ?_
    rw [← hQ]
    exact o_ri cx rx hw dX10_perform_187 fr
  by_cases q29 : v4 = 106
  · --
    refine lv_tableIn (tgt := 186) hx hb dX10_perform_17 (by rw [q29]; decide) (by rw [q29]; decide) (by rw [q29]; rfl) (by decide) ?_
    have i30 : Iv v4 106 106 := iv_eq1 q29 (iv_top v4) (⟨by decide, by decide⟩ : Iv 106 106 106) (by decide)
    refine lv_iconst (v := (-1)) hx hb dX10_perform_186 (by decide) ?_
    rw [← hQ]
    exact o_ri cx rx hw dX10_perform_187 fr
  by_cases q31 : v4 = 107
  · --
    refine lv_tableIn (tgt := 186) hx hb dX10_perform_17 (by rw [q31]; decide) (by rw [q31]; decide) (by rw [q31]; rfl) (by decide) ?_
    have i32 : Iv v4 107 107 := iv_eq1 q31 (iv_top v4) (⟨by decide, by decide⟩ : Iv 107 107 107) (by decide)
    refine lv_iconst (v := (-1)) hx hb dX10_perform_186 (by decide) ?_
    rw [← hQ]
    exact o_ri cx rx hw dX10_perform_187 fr
  by_cases q33 : v4 = 108
  · --
    refine lv_tableIn (tgt := 186) hx hb dX10_perform_17 (by rw [q33]; decide) (by rw [q33]; decide) (by rw [q33]; rfl) (by decide) ?_
    have i34 : Iv v4 108 108 := iv_eq1 q33 (iv_top v4) (⟨by decide, by decide⟩ : Iv 108 108 108) (by decide)
    refine lv_iconst (v := (-1)) hx hb dX10_perform_186 (by decide) ?_
    rw [← hQ]
    exact o_ri cx rx hw dX10_perform_187 fr
  by_cases q35 : v4 = 109
  · --
    refine lv_tableIn (tgt := 186) hx hb dX10_perform_17 (by rw [q35]; decide) (by rw [q35]; decide) (by rw [q35]; rfl) (by decide) ?_
    have i36 : Iv v4 109 109 := iv_eq1 q35 (iv_top v4) (⟨by decide, by decide⟩ : Iv 109 109 109) (by decide)
    refine lv_iconst (v := (-1)) hx hb dX10_perform_186 (by decide) ?_
    rw [← hQ]
    exact o_ri cx rx hw dX10_perform_187 fr
  by_cases q37 : v4 = 110
  · --
    refine lv_tableIn (tgt := 186) hx hb dX10_perform_17 (by rw [q37]; decide) (by rw [q37]; decide) (by rw [q37]; rfl) (by decide) ?_
    have i38 : Iv v4 110 110 := iv_eq1 q37 (iv_top v4) (⟨by decide, by decide⟩ : Iv 110 110 110) (by decide)
    refine lv_iconst (v := (-1)) hx hb dX10_perform_186 (by decide) ?_
    rw [← hQ]
    exact o_ri cx rx hw dX10_perform_187 fr
  by_cases q39 : v4 = 111
  · --
    refine lv_tableIn (tgt := 153) hx hb dX10_perform_17 (by rw [q39]; decide) (by rw [q39]; decide) (by rw [q39]; rfl) (by decide) ?_
    have i40 : Iv v4 111 111 := iv_eq1 q39 (iv_top v4) (⟨by decide, by decide⟩ : Iv 111 111 111) (by decide)
    refine lv_iconst (v := 0) hx hb dX10_perform_153 (by decide) ?_
    refine lv_aload_n hx hb dX10_perform_154 rfl (lv_at hl 2 rfl) ?_
    refine lv_iload_n hx hb dX10_perform_155 rfl (lv_at hl 1 rfl) ?_
    refine lv_iconst (v := 1) hx hb dX10_perform_156 (by decide) ?_
    refine o_ci hw (oRunV cx hA hw q_X10_turn k_m_X10_263 rfl ha0 (by decide) (As := [.int v2, .int 1]) (c_X10_turn a0 ha0 v2 1) (by decide) rfl hl.1 rfl (Nat.le_of_ble_eq_true rfl) dX10_perform_157 (by decide)) (fun v42 σ41 H locs hp hw => ?_)
    obtain ⟨p42_0, p42_1⟩ := hp
    have fr := oFr_tr fr p42_0 (by decide)
    refine va_mmin hx hb (hml.trans hl.1.symm) hown (hts _ k_m_X10_212) (hts _ k_s_J9_min_7cf53) (hts _ k_i_J9) (hts _ k_code_J9_min_7cf53) (by decide) (Nat.le_of_ble_eq_true rfl) (by decide) (by decide) dX10_perform_160 ?_
    refine lv_topi (fun v43 e43 => ?_)
    have i43 : Iv v43 (-2) 0 := iv_min e43 (⟨by decide, by decide⟩ : Iv 0 0 0) p42_1 (by decide)
    rw [← hQ]
    exact o_ri cx rx hw dX10_perform_163 fr
  by_cases q44 : v4 = 112
  · --
    refine lv_tableIn (tgt := 186) hx hb dX10_perform_17 (by rw [q44]; decide) (by rw [q44]; decide) (by rw [q44]; rfl) (by decide) ?_
    have i45 : Iv v4 112 112 := iv_eq1 q44 (iv_top v4) (⟨by decide, by decide⟩ : Iv 112 112 112) (by decide)
    refine lv_iconst (v := (-1)) hx hb dX10_perform_186 (by decide) ?_
    rw [← hQ]
    exact o_ri cx rx hw dX10_perform_187 fr
  by_cases q46 : v4 = 113
  · --
    refine lv_tableIn (tgt := 186) hx hb dX10_perform_17 (by rw [q46]; decide) (by rw [q46]; decide) (by rw [q46]; rfl) (by decide) ?_
    have i47 : Iv v4 113 113 := iv_eq1 q46 (iv_top v4) (⟨by decide, by decide⟩ : Iv 113 113 113) (by decide)
    refine lv_iconst (v := (-1)) hx hb dX10_perform_186 (by decide) ?_
    rw [← hQ]
    exact o_ri cx rx hw dX10_perform_187 fr
  by_cases q48 : v4 = 114
  · --
    refine lv_tableIn (tgt := 186) hx hb dX10_perform_17 (by rw [q48]; decide) (by rw [q48]; decide) (by rw [q48]; rfl) (by decide) ?_
    have i49 : Iv v4 114 114 := iv_eq1 q48 (iv_top v4) (⟨by decide, by decide⟩ : Iv 114 114 114) (by decide)
    refine lv_iconst (v := (-1)) hx hb dX10_perform_186 (by decide) ?_
    rw [← hQ]
    exact o_ri cx rx hw dX10_perform_187 fr
  by_cases q50 : v4 = 115
  · --
    refine lv_tableIn (tgt := 117) hx hb dX10_perform_17 (by rw [q50]; decide) (by rw [q50]; decide) (by rw [q50]; rfl) (by decide) ?_
    have i51 : Iv v4 115 115 := iv_eq1 q50 (iv_top v4) (⟨by decide, by decide⟩ : Iv 115 115 115) (by decide)
    refine lv_iconst (v := 0) hx hb dX10_perform_117 (by decide) ?_
    refine lv_aload_n hx hb dX10_perform_118 rfl (lv_at hl 2 rfl) ?_
    refine lv_aload_n hx hb dX10_perform_119 rfl (lv_at hl 2 rfl) ?_
    refine g_581 cx hw ha0 k_f_X10_49 dX10_perform_120 (fun v52 e52 h52 => ?_)
    refine g_321 cx hw h52 k_f_X10_148 dX10_perform_123 (fun v53 e53 h53 => ?_)
    refine lv_iload_n hx hb dX10_perform_126 rfl (lv_at hl 0 rfl) ?_
    refine lv_iload_n hx hb dX10_perform_127 rfl (lv_at hl 1 rfl) ?_
    refine o_ci hw (oRunV cx hA hw q_X10_lay k_m_X10_257 rfl ha0 (by decide) (As := [.ref v53, .int v3, .int v2]) (c_X10_lay a0 ha0 v53 h53 v3 v2) (by decide) rfl hl.1 rfl (Nat.le_of_ble_eq_true rfl) dX10_perform_128 (by decide)) (fun v55 σ54 H locs hp hw => ?_)
    have p55_0 := hp
    have fr := oFr_tr fr p55_0 (by decide)
    refine va_mmin hx hb (hml.trans hl.1.symm) hown (hts _ k_m_X10_212) (hts _ k_s_J9_min_7cf53) (hts _ k_i_J9) (hts _ k_code_J9_min_7cf53) (by decide) (Nat.le_of_ble_eq_true rfl) (by decide) (by decide) dX10_perform_131 ?_
    refine lv_topi (fun v56 e56 => ?_)
    have i56 : Iv v56 (-2147483648) 0 := iv_min e56 (⟨by decide, by decide⟩ : Iv 0 0 0) (iv_top v55) (by decide)
    rw [← hQ]
    exact o_ri cx rx hw dX10_perform_134 fr
  by_cases q57 : v4 = 116
  · --
    refine lv_tableIn (tgt := 135) hx hb dX10_perform_17 (by rw [q57]; decide) (by rw [q57]; decide) (by rw [q57]; rfl) (by decide) ?_
    have i58 : Iv v4 116 116 := iv_eq1 q57 (iv_top v4) (⟨by decide, by decide⟩ : Iv 116 116 116) (by decide)
    refine lv_iconst (v := 0) hx hb dX10_perform_135 (by decide) ?_
    refine lv_aload_n hx hb dX10_perform_136 rfl (lv_at hl 2 rfl) ?_
    refine lv_aload_n hx hb dX10_perform_137 rfl (lv_at hl 2 rfl) ?_
    refine g_581 cx hw ha0 k_f_X10_49 dX10_perform_138 (fun v59 e59 h59 => ?_)
    refine g_322 cx hw h59 k_f_X10_151 dX10_perform_141 (fun v60 e60 h60 => ?_)
    refine lv_iload_n hx hb dX10_perform_144 rfl (lv_at hl 0 rfl) ?_
    refine lv_iload_n hx hb dX10_perform_145 rfl (lv_at hl 1 rfl) ?_
    refine o_ci hw (oRunV cx hA hw q_X10_lay k_m_X10_257 rfl ha0 (by decide) (As := [.ref v60, .int v3, .int v2]) (c_X10_lay a0 ha0 v60 h60 v3 v2) (by decide) rfl hl.1 rfl (Nat.le_of_ble_eq_true rfl) dX10_perform_146 (by decide)) (fun v62 σ61 H locs hp hw => ?_)
    have p62_0 := hp
    have fr := oFr_tr fr p62_0 (by decide)
    refine va_mmin hx hb (hml.trans hl.1.symm) hown (hts _ k_m_X10_212) (hts _ k_s_J9_min_7cf53) (hts _ k_i_J9) (hts _ k_code_J9_min_7cf53) (by decide) (Nat.le_of_ble_eq_true rfl) (by decide) (by decide) dX10_perform_149 ?_
    refine lv_topi (fun v63 e63 => ?_)
    have i63 : Iv v63 (-2147483648) 0 := iv_min e63 (⟨by decide, by decide⟩ : Iv 0 0 0) (iv_top v62) (by decide)
    rw [← hQ]
    exact o_ri cx rx hw dX10_perform_152 fr
  have q5 := iv_nt q5 (k := 99) (by decide)
  have q10 := iv_nt q10 (k := 100) (by decide)
  have q15 := iv_nt q15 (k := 101) (by decide)
  have q17 := iv_nt q17 (k := 102) (by decide)
  have q19 := iv_nt q19 (k := 103) (by decide)
  have q21 := iv_nt q21 (k := 104) (by decide)
  have q27 := iv_nt q27 (k := 105) (by decide)
  have q29 := iv_nt q29 (k := 106) (by decide)
  have q31 := iv_nt q31 (k := 107) (by decide)
  have q33 := iv_nt q33 (k := 108) (by decide)
  have q35 := iv_nt q35 (k := 109) (by decide)
  have q37 := iv_nt q37 (k := 110) (by decide)
  have q39 := iv_nt q39 (k := 111) (by decide)
  have q44 := iv_nt q44 (k := 112) (by decide)
  have q46 := iv_nt q46 (k := 113) (by decide)
  have q48 := iv_nt q48 (k := 114) (by decide)
  have q50 := iv_nt q50 (k := 115) (by decide)
  have q57 := iv_nt q57 (k := 116) (by decide)
  refine lv_tableOut (tgt := 186) hx hb dX10_perform_17 (by omega) (by decide) ?_
  refine lv_iconst (v := (-1)) hx hb dX10_perform_186 (by decide) ?_
  rw [← hQ]
  exact o_ri cx rx hw dX10_perform_187 fr
end OM
