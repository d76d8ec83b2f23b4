section OM
variable {l : Launch} {A : Nat → Prop} {L : List Nat} {τ : Nat → Nat} {cy : Nat → ClassId} {D : va_G} {K : (Nat → Nat) × (Nat → Nat)} {σ : oSt}
abbrev fs_X10_salt : List Nat := [129, 130, 327, 328, 329, 330, 331]
abbrev ts_X10_salt : List Nat := [32, 33, 34, 70]
set_option maxHeartbeats 4000000 in
set_option maxRecDepth 100000 in
theorem c_X10_salt (a0 : Nat) (ha0 : oA L τ a0 9) (a1 : Int32) (a2 : Int32) (hz : HZ L τ σ) : oMet l A L τ cy D K yX10_salt cX10_salt 3 (some .int) 4 123 [.ref a0, .int a1, .int a2] σ (va_Qi (fun r σ1 => oFr τ fs_X10_salt ts_X10_salt σ σ1 ∧ Iv r (-1) (-1)) (oPo A L τ cy D) A) := by
  refine oMk (by decide) (Nat.le_of_ble_eq_true rfl) rfl ?_
  intro p e s m args below meth c ls cx rx hA hw hl
  generalize hQ : MQ below _ args s 0 0 A = Q
  have hx := cx.1.1
  have hb := cx.1.2.1
  have hml := cx.1.2.2.1
  have hown := cx.1.2.2.2.1
  have hts := cx.1.2.2.2.2
  have hl : lv_has ls 3 [(0, .ref a0), (1, .int a1), (2, .int a2)] := hl
  have fr : oFr τ fs_X10_salt ts_X10_salt σ σ := oFr_rf
  refine lv_aload_n hx hb dX10_salt_0 rfl (lv_at hl 0 rfl) ?_
  refine g_582 cx hw ha0 k_f_X10_53 dX10_salt_1 (fun v1 e1 h1 => ?_)
  refine lv_aload_n hx hb dX10_salt_4 rfl (lv_at hl 0 rfl) ?_
  refine g_581 cx hw ha0 k_f_X10_49 dX10_salt_5 (fun v2 e2 h2 => ?_)
  refine o_cv hw (oRunV cx hA hw q_X6_copyFrom k_m_X10_131 rfl h1 (by decide) (As := [.ref v2]) (c_X6_copyFrom v1 h1 v2 h2) (by decide) rfl hl.1 rfl (Nat.le_of_ble_eq_true rfl) dX10_salt_8 (by decide)) (fun σ3 H locs hp hw => ?_)
  have p4_0 := hp
  have fr := oFr_tr fr p4_0 (by decide)
  refine lv_aload_n hx hb dX10_salt_11 rfl (lv_at hl 0 rfl) ?_
  refine lv_aload_n hx hb dX10_salt_12 rfl (lv_at hl 0 rfl) ?_
  refine lv_aload_n hx hb dX10_salt_13 rfl (lv_at hl 0 rfl) ?_
  refine g_581 cx hw ha0 k_f_X10_49 dX10_salt_14 (fun v5 e5 h5 => ?_)
  rw [show v5 = v2 from Option.some.inj (e5.symm.trans (((kr_c p4_0 (by decide)).trans e2)))]
  refine g_321 cx hw h2 k_f_X10_148 dX10_salt_17 (fun v6 e6 h6 => ?_)
  refine lv_iload_n hx hb dX10_salt_20 rfl (lv_at hl 1 rfl) ?_
  refine lv_iload_n hx hb dX10_salt_21 rfl (lv_at hl 2 rfl) ?_
  refine o_ci hw (oRunV cx hA hw q_X10_lay k_m_X10_257 rfl ha0 (by decide) (As := [.ref v6, .int a1, .int a2]) (c_X10_lay a0 ha0 v6 h6 a1 a2 (hz_fr hz fr (by decide))) (by decide) rfl hl.1 rfl (Nat.le_of_ble_eq_true rfl) dX10_salt_22 (by decide)) (fun v8 σ7 H locs hp hw => ?_)
  obtain ⟨p8_0, p8_1⟩ := hp
  rw [p8_0] at hw
  refine o_ci hw (oRunV cx hA hw q_X10_remembered k_m_X10_260 rfl ha0 (by decide) (As := [.int v8]) (c_X10_remembered a0 ha0 v8) (by decide) rfl hl.1 rfl (Nat.le_of_ble_eq_true rfl) dX10_salt_25 (by decide)) (fun v10 σ9 H locs hp hw => ?_)
  obtain ⟨p10_0, p10_1⟩ := hp
  have fr := oFr_tr fr p10_0 (by decide)
  rw [p10_1]
  rw [← hQ]
  exact o_ri cx rx hw dX10_salt_28 ⟨fr, (iv_w p8_1 (by decide))⟩
abbrev fs_X10_thistles : List Nat := [129, 130, 327, 328, 329, 330, 331]
abbrev ts_X10_thistles : List Nat := [32, 33, 34, 70]
set_option maxHeartbeats 4000000 in
set_option maxRecDepth 100000 in
theorem c_X10_thistles (a0 : Nat) (ha0 : oA L τ a0 9) (a1 : Int32) (a2 : Int32) (hz : HZ L τ σ) : oMet l A L τ cy D K yX10_thistles cX10_thistles 3 (some .int) 4 123 [.ref a0, .int a1, .int a2] σ (va_Qi (fun r σ1 => oFr τ fs_X10_thistles ts_X10_thistles σ σ1 ∧ Iv r (-1) (-1)) (oPo A L τ cy D) A) := by
  refine oMk (by decide) (Nat.le_of_ble_eq_true rfl) rfl ?_
  intro p e s m args below meth c ls cx rx hA hw hl
  generalize hQ : MQ below _ args s 0 0 A = Q
  have hx := cx.1.1
  have hb := cx.1.2.1
  have hml := cx.1.2.2.1
  have hown := cx.1.2.2.2.1
  have hts := cx.1.2.2.2.2
  have hl : lv_has ls 3 [(0, .ref a0), (1, .int a1), (2, .int a2)] := hl
  have fr : oFr τ fs_X10_thistles ts_X10_thistles σ σ := oFr_rf
  refine lv_aload_n hx hb dX10_thistles_0 rfl (lv_at hl 0 rfl) ?_
  refine g_582 cx hw ha0 k_f_X10_53 dX10_thistles_1 (fun v1 e1 h1 => ?_)
  refine lv_aload_n hx hb dX10_thistles_4 rfl (lv_at hl 0 rfl) ?_
  refine g_581 cx hw ha0 k_f_X10_49 dX10_thistles_5 (fun v2 e2 h2 => ?_)
  refine o_cv hw (oRunV cx hA hw q_X6_copyFrom k_m_X10_131 rfl h1 (by decide) (As := [.ref v2]) (c_X6_copyFrom v1 h1 v2 h2) (by decide) rfl hl.1 rfl (Nat.le_of_ble_eq_true rfl) dX10_thistles_8 (by decide)) (fun σ3 H locs hp hw => ?_)
  have p4_0 := hp
  have fr := oFr_tr fr p4_0 (by decide)
  refine lv_aload_n hx hb dX10_thistles_11 rfl (lv_at hl 0 rfl) ?_
  refine lv_aload_n hx hb dX10_thistles_12 rfl (lv_at hl 0 rfl) ?_
  refine lv_aload_n hx hb dX10_thistles_13 rfl (lv_at hl 0 rfl) ?_
  refine g_581 cx hw ha0 k_f_X10_49 dX10_thistles_14 (fun v5 e5 h5 => ?_)
  rw [show v5 = v2 from Option.some.inj (e5.symm.trans (((kr_c p4_0 (by decide)).trans e2)))]
  refine g_322 cx hw h2 k_f_X10_151 dX10_thistles_17 (fun v6 e6 h6 => ?_)
  refine lv_iload_n hx hb dX10_thistles_20 rfl (lv_at hl 1 rfl) ?_
  refine lv_iload_n hx hb dX10_thistles_21 rfl (lv_at hl 2 rfl) ?_
  refine o_ci hw (oRunV cx hA hw q_X10_lay k_m_X10_257 rfl ha0 (by decide) (As := [.ref v6, .int a1, .int a2]) (c_X10_lay a0 ha0 v6 h6 a1 a2 (hz_fr hz fr (by decide))) (by decide) rfl hl.1 rfl (Nat.le_of_ble_eq_true rfl) dX10_thistles_22 (by decide)) (fun v8 σ7 H locs hp hw => ?_)
  obtain ⟨p8_0, p8_1⟩ := hp
  rw [p8_0] at hw
  refine o_ci hw (oRunV cx hA hw q_X10_remembered k_m_X10_260 rfl ha0 (by decide) (As := [.int v8]) (c_X10_remembered a0 ha0 v8) (by decide) rfl hl.1 rfl (Nat.le_of_ble_eq_true rfl) dX10_thistles_25 (by decide)) (fun v10 σ9 H locs hp hw => ?_)
  obtain ⟨p10_0, p10_1⟩ := hp
  have fr := oFr_tr fr p10_0 (by decide)
  rw [p10_1]
  rw [← hQ]
  exact o_ri cx rx hw dX10_thistles_28 ⟨fr, (iv_w p8_1 (by decide))⟩
abbrev fs_X10_gate : List Nat := [129, 130, 327, 328, 329, 330, 331]
abbrev ts_X10_gate : List Nat := [32, 33, 34, 70]
set_option maxHeartbeats 4000000 in
set_option maxRecDepth 100000 in
theorem c_X10_gate (a0 : Nat) (ha0 : oA L τ a0 9) (a1 : Int32) (a2 : Int32) : oMet l A L τ cy D K yX10_gate cX10_gate 3 (some .int) 4 123 [.ref a0, .int a1, .int a2] σ (va_Qi (fun r σ1 => oFr τ fs_X10_gate ts_X10_gate σ σ1 ∧ Iv r (-1) (-1)) (oPo A L τ cy D) A) := by
  refine oMk (by decide) (Nat.le_of_ble_eq_true rfl) rfl ?_
  intro p e s m args below meth c ls cx rx hA hw hl
  generalize hQ : MQ below _ args s 0 0 A = Q
  have hx := cx.1.1
  have hb := cx.1.2.1
  have hml := cx.1.2.2.1
  have hown := cx.1.2.2.2.1
  have hts := cx.1.2.2.2.2
  have hl : lv_has ls 3 [(0, .ref a0), (1, .int a1), (2, .int a2)] := hl
  have fr : oFr τ fs_X10_gate ts_X10_gate σ σ := oFr_rf
  refine lv_aload_n hx hb dX10_gate_0 rfl (lv_at hl 0 rfl) ?_
  refine g_582 cx hw ha0 k_f_X10_53 dX10_gate_1 (fun v1 e1 h1 => ?_)
  refine lv_aload_n hx hb dX10_gate_4 rfl (lv_at hl 0 rfl) ?_
  refine g_581 cx hw ha0 k_f_X10_49 dX10_gate_5 (fun v2 e2 h2 => ?_)
  refine o_cv hw (oRunV cx hA hw q_X6_copyFrom k_m_X10_131 rfl h1 (by decide) (As := [.ref v2]) (c_X6_copyFrom v1 h1 v2 h2) (by decide) rfl hl.1 rfl (Nat.le_of_ble_eq_true rfl) dX10_gate_8 (by decide)) (fun σ3 H locs hp hw => ?_)
  have p4_0 := hp
  have fr := oFr_tr fr p4_0 (by decide)
  refine lv_aload_n hx hb dX10_gate_11 rfl (lv_at hl 0 rfl) ?_
  refine lv_aload_n hx hb dX10_gate_12 rfl (lv_at hl 0 rfl) ?_
  refine lv_iload_n hx hb dX10_gate_13 rfl (lv_at hl 1 rfl) ?_
  refine lv_iload_n hx hb dX10_gate_14 rfl (lv_at hl 2 rfl) ?_
  refine o_ci hw (oRunV cx hA hw q_X10_turn k_m_X10_263 rfl ha0 (by decide) (As := [.int a1, .int a2]) (c_X10_turn a0 ha0 a1 a2) (by decide) rfl hl.1 rfl (Nat.le_of_ble_eq_true rfl) dX10_gate_15 (by decide)) (fun v6 σ5 H locs hp hw => ?_)
  obtain ⟨p6_0, p6_1⟩ := hp
  rw [p6_0] at hw
  refine o_ci hw (oRunV cx hA hw q_X10_remembered k_m_X10_260 rfl ha0 (by decide) (As := [.int v6]) (c_X10_remembered a0 ha0 v6) (by decide) rfl hl.1 rfl (Nat.le_of_ble_eq_true rfl) dX10_gate_18 (by decide)) (fun v8 σ7 H locs hp hw => ?_)
  obtain ⟨p8_0, p8_1⟩ := hp
  have fr := oFr_tr fr p8_0 (by decide)
  rw [p8_1]
  rw [← hQ]
  exact o_ri cx rx hw dX10_gate_21 ⟨fr, (iv_w p6_1 (by decide))⟩
abbrev fs_X10_drive : List Nat := [129, 130, 327, 328, 329, 330, 331]
abbrev ts_X10_drive : List Nat := [32, 33, 34, 70]
set_option maxHeartbeats 4000000 in
set_option maxRecDepth 100000 in
theorem c_X10_drive (a0 : Nat) (ha0 : oA L τ a0 9) (a1 : Int32) (a2 : Int32) (hz : HZ L τ σ) : oMet l A L τ cy D K yX10_drive cX10_drive 3 (some .int) 4 123 [.ref a0, .int a1, .int a2] σ (va_Qi (fun r σ1 => oFr τ fs_X10_drive ts_X10_drive σ σ1 ∧ Iv r (-1) (-1)) (oPo A L τ cy D) A) := by
  refine oMk (by decide) (Nat.le_of_ble_eq_true rfl) rfl ?_
  intro p e s m args below meth c ls cx rx hA hw hl
  generalize hQ : MQ below _ args s 0 0 A = Q
  have hx := cx.1.1
  have hb := cx.1.2.1
  have hml := cx.1.2.2.1
  have hown := cx.1.2.2.2.1
  have hts := cx.1.2.2.2.2
  have hl : lv_has ls 3 [(0, .ref a0), (1, .int a1), (2, .int a2)] := hl
  have fr : oFr τ fs_X10_drive ts_X10_drive σ σ := oFr_rf
  refine lv_aload_n hx hb dX10_drive_0 rfl (lv_at hl 0 rfl) ?_
  refine g_582 cx hw ha0 k_f_X10_53 dX10_drive_1 (fun v1 e1 h1 => ?_)
  refine lv_aload_n hx hb dX10_drive_4 rfl (lv_at hl 0 rfl) ?_
  refine g_581 cx hw ha0 k_f_X10_49 dX10_drive_5 (fun v2 e2 h2 => ?_)
  refine o_cv hw (oRunV cx hA hw q_X6_copyFrom k_m_X10_131 rfl h1 (by decide) (As := [.ref v2]) (c_X6_copyFrom v1 h1 v2 h2) (by decide) rfl hl.1 rfl (Nat.le_of_ble_eq_true rfl) dX10_drive_8 (by decide)) (fun σ3 H locs hp hw => ?_)
  have p4_0 := hp
  have fr := oFr_tr fr p4_0 (by decide)
  refine lv_aload_n hx hb dX10_drive_11 rfl (lv_at hl 0 rfl) ?_
  refine lv_aload_n hx hb dX10_drive_12 rfl (lv_at hl 0 rfl) ?_
  refine lv_iload_n hx hb dX10_drive_13 rfl (lv_at hl 1 rfl) ?_
  refine lv_iload_n hx hb dX10_drive_14 rfl (lv_at hl 2 rfl) ?_
  refine o_ci hw (oRunV cx hA hw q_X10_chase k_m_X10_266 rfl ha0 (by decide) (As := [.int a1, .int a2]) (c_X10_chase a0 ha0 a1 a2 (hz_fr hz fr (by decide))) (by decide) rfl hl.1 rfl (Nat.le_of_ble_eq_true rfl) dX10_drive_15 (by decide)) (fun v6 σ5 H locs hp hw => ?_)
  obtain ⟨p6_0, p6_1⟩ := hp
  rw [p6_0] at hw
  refine o_ci hw (oRunV cx hA hw q_X10_remembered k_m_X10_260 rfl ha0 (by decide) (As := [.int v6]) (c_X10_remembered a0 ha0 v6) (by decide) rfl hl.1 rfl (Nat.le_of_ble_eq_true rfl) dX10_drive_18 (by decide)) (fun v8 σ7 H locs hp hw => ?_)
  obtain ⟨p8_0, p8_1⟩ := hp
  have fr := oFr_tr fr p8_0 (by decide)
  rw [p8_1]
  rw [← hQ]
  exact o_ri cx rx hw dX10_drive_21 ⟨fr, (iv_w p6_1 (by decide))⟩
abbrev fs_X10_hour : List Nat := [129, 130, 193, 327, 328, 329, 330, 331]
abbrev ts_X10_hour : List Nat := [32, 33, 34, 70]
set_option maxHeartbeats 4000000 in
set_option maxRecDepth 100000 in
theorem c_X10_hour (a0 : Nat) (ha0 : oA L τ a0 9) (hz : HZ L τ σ) : oMet l A L τ cy D K yX10_hour cX10_hour 2 (some .int) 4 123 [.ref a0] σ (va_Qi (fun r σ1 => oFr τ fs_X10_hour ts_X10_hour σ σ1 ∧ Iv r 0 0) (oPo A L τ cy D) A) := by
  refine oMk (by decide) (Nat.le_of_ble_eq_true rfl) rfl ?_
  intro p e s m args below meth c ls cx rx hA hw hl
  generalize hQ : MQ below _ args s 0 0 A = Q
  have hx := cx.1.1
  have hb := cx.1.2.1
  have hml := cx.1.2.2.1
  have hown := cx.1.2.2.2.1
  have hts := cx.1.2.2.2.2
  have hl : lv_has ls 2 [(0, .ref a0)] := hl
  have fr : oFr τ fs_X10_hour ts_X10_hour σ σ := oFr_rf
  refine lv_aload_n hx hb dX10_hour_0 rfl (lv_at hl 0 rfl) ?_
  refine g_582 cx hw ha0 k_f_X10_53 dX10_hour_1 (fun v1 e1 h1 => ?_)
  refine lv_aload_n hx hb dX10_hour_4 rfl (lv_at hl 0 rfl) ?_
  refine g_581 cx hw ha0 k_f_X10_49 dX10_hour_5 (fun v2 e2 h2 => ?_)
  refine o_cv hw (oRunV cx hA hw q_X6_copyFrom k_m_X10_131 rfl h1 (by decide) (As := [.ref v2]) (c_X6_copyFrom v1 h1 v2 h2) (by decide) rfl hl.1 rfl (Nat.le_of_ble_eq_true rfl) dX10_hour_8 (by decide)) (fun σ3 H locs hp hw => ?_)
  have p4_0 := hp
  have fr := oFr_tr fr p4_0 (by decide)
  refine lv_aload_n hx hb dX10_hour_11 rfl (lv_at hl 0 rfl) ?_
  refine g_580 cx hw ha0 k_f_X10_42 dX10_hour_12 (fun v5 e5 h5 => ?_)
  refine lv_aload_n hx hb dX10_hour_15 rfl (lv_at hl 0 rfl) ?_
  refine g_581 cx hw ha0 k_f_X10_49 dX10_hour_16 (fun v6 e6 h6 => ?_)
  rw [show v6 = v2 from Option.some.inj (e6.symm.trans (((kr_c p4_0 (by decide)).trans e2)))]
  refine o_ci hw (oRunV cx hA hw q_X9_pass k_m_X10_269 rfl h5 (by decide) (As := [.ref v2]) (c_X9_pass v5 h5 v2 h2 (hz_fr hz fr (by decide))) (by decide) rfl hl.1 rfl (Nat.le_of_ble_eq_true rfl) dX10_hour_19 (by decide)) (fun v8 σ7 H locs hp hw => ?_)
  obtain ⟨p8_0, p8_1⟩ := hp
  have fr := oFr_tr fr p8_0 (by decide)
  refine lv_istore_n (lv' := [(1, .int v8), (0, .ref a0)]) hx hb dX10_hour_22 rfl hl (by decide) rfl (fun ls hl => ?_)
  refine lv_aload_n hx hb dX10_hour_23 rfl (lv_at hl 1 rfl) ?_
  refine lv_aload_n hx hb dX10_hour_24 rfl (lv_at hl 1 rfl) ?_
  refine g_581 cx hw ha0 k_f_X10_49 dX10_hour_25 (fun v9 e9 h9 => ?_)
  rw [show v9 = v2 from Option.some.inj (e9.symm.trans (((kr_c p8_0 (by decide)).trans ((kr_c p4_0 (by decide)).trans e2))))]
  refine o_cv hw (oRunV cx hA hw q_X10_tellPlaces k_m_X10_273 rfl ha0 (by decide) (As := [.ref v2]) (c_X10_tellPlaces a0 ha0 v2 h2) (by decide) rfl hl.1 rfl (Nat.le_of_ble_eq_true rfl) dX10_hour_28 (by decide)) (fun σ10 H locs hp hw => ?_)
  have p11_0 := hp
  have fr := oFr_tr fr p11_0 (by decide)
  refine lv_aload_n hx hb dX10_hour_31 rfl (lv_at hl 1 rfl) ?_
  refine lv_iload_n hx hb dX10_hour_32 rfl (lv_at hl 0 rfl) ?_
  refine o_ci hw (oRunV cx hA hw q_X10_remembered k_m_X10_260 rfl ha0 (by decide) (As := [.int v8]) (c_X10_remembered a0 ha0 v8) (by decide) rfl hl.1 rfl (Nat.le_of_ble_eq_true rfl) dX10_hour_33 (by decide)) (fun v13 σ12 H locs hp hw => ?_)
  obtain ⟨p13_0, p13_1⟩ := hp
  have fr := oFr_tr fr p13_0 (by decide)
  rw [p13_1]
  rw [← hQ]
  exact o_ri cx rx hw dX10_hour_36 ⟨fr, (iv_w p8_1 (by decide))⟩
abbrev fs_X10_hours : List Nat := [129, 130, 193, 327, 328, 329, 330, 331]
abbrev ts_X10_hours : List Nat := [32, 33, 34, 70]
set_option maxHeartbeats 4000000 in
set_option maxRecDepth 100000 in
theorem c_X10_hours (a0 : Nat) (ha0 : oA L τ a0 9) (a1 : Int32) (hz : HZ L τ σ) : oMet l A L τ cy D K yX10_hours cX10_hours 3 (some .int) 5 123 [.ref a0, .int a1] σ (va_Qi (fun r σ1 => oFr τ fs_X10_hours ts_X10_hours σ σ1 ∧ Iv r (-1) 0 ∧ (((0 ≤ a1.toInt ∧ a1.toInt ≤ 60) ∧ r.toInt = 0) ∨ (¬ (0 ≤ a1.toInt ∧ a1.toInt ≤ 60) ∧ r.toInt = -1))) (oPo A L τ cy D) A) := by
  refine oMk (by decide) (Nat.le_of_ble_eq_true rfl) rfl ?_
  intro p e s m args below meth c ls cx rx hA hw hl
  generalize hQ : MQ below _ args s 0 0 A = Q
  have hx := cx.1.1
  have hb := cx.1.2.1
  have hml := cx.1.2.2.1
  have hown := cx.1.2.2.2.1
  have hts := cx.1.2.2.2.2
  have hl : lv_has ls 3 [(0, .ref a0), (1, .int a1)] := hl
  have fr : oFr τ fs_X10_hours ts_X10_hours σ σ := oFr_rf
  refine lv_iload_n hx hb dX10_hours_0 rfl (lv_at hl 1 rfl) ?_
  refine lv_if_lt (tgt := 10) hx hb dX10_hours_1 (by decide) (fun c1 => ?_) (fun c1 => ?_)
  · --
    have i2 : Iv a1 (-2147483648) (-1) := iv_lt1 c1 (iv_top a1) (⟨by decide, by decide⟩ : Iv 0 0 0) (by decide)
    refine lv_iconst (v := (-1)) hx hb dX10_hours_10 (by decide) ?_
    rw [← hQ]
    exact o_ri cx rx hw dX10_hours_11 ⟨fr, (iv_w (⟨by decide, by decide⟩ : Iv (-1) (-1) (-1)) (by decide)), (by exact (by have : (0 : Int32).toInt = 0 := (by decide); have : (60 : Int32).toInt = 60 := (by decide); have := (i2).1; have := (i2).2; have : (a1 : Int32).toInt < (0 : Int32).toInt := iv_lt.mp c1; have : ((-1) : Int32).toInt = (-1) := (by decide); have : (0 : Int32).toInt = 0 := (by decide); omega))⟩
  · --
    have i3 : Iv a1 0 2147483647 := iv_le2 (iv_nlt c1) (⟨by decide, by decide⟩ : Iv 0 0 0) (iv_top a1) (by decide)
    refine lv_iload_n hx hb dX10_hours_4 rfl (lv_at hl 1 rfl) ?_
    refine lv_bipush (v := 60) hx hb dX10_hours_5 (by decide) ?_
    refine lv_icmp_le (tgt := 12) hx hb dX10_hours_7 (by decide) (fun c4 => ?_) (fun c4 => ?_)
    · --
      have i5 : Iv a1 0 60 := iv_le1 c4 i3 (⟨by decide, by decide⟩ : Iv 60 60 60) (by decide)
      refine lv_aload_n hx hb dX10_hours_12 rfl (lv_at hl 0 rfl) ?_
      refine g_582 cx hw ha0 k_f_X10_53 dX10_hours_13 (fun v6 e6 h6 => ?_)
      refine lv_aload_n hx hb dX10_hours_16 rfl (lv_at hl 0 rfl) ?_
      refine g_581 cx hw ha0 k_f_X10_49 dX10_hours_17 (fun v7 e7 h7 => ?_)
      refine o_cv hw (oRunV cx hA hw q_X6_copyFrom k_m_X10_131 rfl h6 (by decide) (As := [.ref v7]) (c_X6_copyFrom v6 h6 v7 h7) (by decide) rfl hl.1 rfl (Nat.le_of_ble_eq_true rfl) dX10_hours_20 (by decide)) (fun σ8 H locs hp hw => ?_)
      have p9_0 := hp
      have fr := oFr_tr fr p9_0 (by decide)
      refine lv_aload_n hx hb dX10_hours_23 rfl (lv_at hl 0 rfl) ?_
      refine g_580 cx hw ha0 k_f_X10_42 dX10_hours_24 (fun v10 e10 h10 => ?_)
      refine lv_aload_n hx hb dX10_hours_27 rfl (lv_at hl 0 rfl) ?_
      refine g_581 cx hw ha0 k_f_X10_49 dX10_hours_28 (fun v11 e11 h11 => ?_)
      rw [show v11 = v7 from Option.some.inj (e11.symm.trans (((kr_c p9_0 (by decide)).trans e7)))]
      refine lv_iload_n hx hb dX10_hours_31 rfl (lv_at hl 1 rfl) ?_
      refine o_ci hw (oRunV cx hA hw q_X9_passMany k_m_X10_276 rfl h10 (by decide) (As := [.ref v7, .int a1]) (c_X9_passMany v10 h10 v7 h7 a1 (hz_fr hz fr (by decide))) (by decide) rfl hl.1 rfl (Nat.le_of_ble_eq_true rfl) dX10_hours_32 (by decide)) (fun v13 σ12 H locs hp hw => ?_)
      obtain ⟨p13_0, p13_1⟩ := hp
      have fr := oFr_tr fr p13_0 (by decide)
      refine lv_istore_n (lv' := [(2, .int v13), (0, .ref a0), (1, .int a1)]) hx hb dX10_hours_35 rfl hl (by decide) rfl (fun ls hl => ?_)
      refine lv_aload_n hx hb dX10_hours_36 rfl (lv_at hl 1 rfl) ?_
      refine lv_aload_n hx hb dX10_hours_37 rfl (lv_at hl 1 rfl) ?_
      refine g_581 cx hw ha0 k_f_X10_49 dX10_hours_38 (fun v14 e14 h14 => ?_)
      rw [show v14 = v7 from Option.some.inj (e14.symm.trans (((kr_c p13_0 (by decide)).trans ((kr_c p9_0 (by decide)).trans e7))))]
      refine o_cv hw (oRunV cx hA hw q_X10_tellPlaces k_m_X10_273 rfl ha0 (by decide) (As := [.ref v7]) (c_X10_tellPlaces a0 ha0 v7 h7) (by decide) rfl hl.1 rfl (Nat.le_of_ble_eq_true rfl) dX10_hours_41 (by decide)) (fun σ15 H locs hp hw => ?_)
      have p16_0 := hp
      have fr := oFr_tr fr p16_0 (by decide)
      refine lv_iload_n hx hb dX10_hours_44 rfl (lv_at hl 2 rfl) ?_
      refine lv_if_ne (tgt := 52) hx hb dX10_hours_45 (by decide) (fun c17 => ?_) (fun c17 => ?_)
      · --
        have i18 : Iv a1 1 60 := iv_ne1 c17 i5 (⟨by decide, by decide⟩ : Iv 0 0 0) (by decide)
        refine lv_aload_n hx hb dX10_hours_52 rfl (lv_at hl 1 rfl) ?_
        refine lv_iload_n hx hb dX10_hours_53 rfl (lv_at hl 0 rfl) ?_
        refine o_ci hw (oRunV cx hA hw q_X10_remembered k_m_X10_260 rfl ha0 (by decide) (As := [.int v13]) (c_X10_remembered a0 ha0 v13) (by decide) rfl hl.1 rfl (Nat.le_of_ble_eq_true rfl) dX10_hours_54 (by decide)) (fun v20 σ19 H locs hp hw => ?_)
        obtain ⟨p20_0, p20_1⟩ := hp
        have fr := oFr_tr fr p20_0 (by decide)
        rw [p20_1]
        rw [← hQ]
        exact o_ri cx rx hw dX10_hours_57 ⟨fr, (iv_w p13_1 (by decide)), (by exact (by have : (0 : Int32).toInt = 0 := (by decide); have : (60 : Int32).toInt = 60 := (by decide); have := (i18).1; have := (i18).2; have := (p13_1).1; have := (p13_1).2; have : (0 : Int32).toInt ≤ (a1 : Int32).toInt := iv_le.mp (iv_nlt c1); have : (a1 : Int32).toInt ≤ (60 : Int32).toInt := iv_le.mp c4; have : (0 : Int32).toInt = 0 := (by decide); have : (60 : Int32).toInt = 60 := (by decide); omega))⟩
      · --
        have i21 : Iv a1 0 0 := iv_eq1 c17 i5 (⟨by decide, by decide⟩ : Iv 0 0 0) (by decide)
        refine lv_iload_n hx hb dX10_hours_48 rfl (lv_at hl 0 rfl) ?_
        refine lv_goto (tgt := 57) hx hb dX10_hours_49 (by decide) ?_
        rw [← hQ]
        exact o_ri cx rx hw dX10_hours_57 ⟨fr, (iv_w p13_1 (by decide)), (by exact (by have : (0 : Int32).toInt = 0 := (by decide); have : (60 : Int32).toInt = 60 := (by decide); have := (i21).1; have := (i21).2; have := (p13_1).1; have := (p13_1).2; have : (0 : Int32).toInt ≤ (a1 : Int32).toInt := iv_le.mp (iv_nlt c1); have : (a1 : Int32).toInt ≤ (60 : Int32).toInt := iv_le.mp c4; have : (a1 : Int32).toInt = (0 : Int32).toInt := congrArg Int32.toInt c17; have : (0 : Int32).toInt = 0 := (by decide); have : (60 : Int32).toInt = 60 := (by decide); omega))⟩
    · --
      have i22 : Iv a1 61 2147483647 := iv_lt2 (iv_nle c4) (⟨by decide, by decide⟩ : Iv 60 60 60) i3 (by decide)
      refine lv_iconst (v := (-1)) hx hb dX10_hours_10 (by decide) ?_
      rw [← hQ]
      exact o_ri cx rx hw dX10_hours_11 ⟨fr, (iv_w (⟨by decide, by decide⟩ : Iv (-1) (-1) (-1)) (by decide)), (by exact (by have : (0 : Int32).toInt = 0 := (by decide); have : (60 : Int32).toInt = 60 := (by decide); have := (i22).1; have := (i22).2; have : (0 : Int32).toInt ≤ (a1 : Int32).toInt := iv_le.mp (iv_nlt c1); have : (60 : Int32).toInt < (a1 : Int32).toInt := iv_lt.mp (iv_nle c4); have : ((-1) : Int32).toInt = (-1) := (by decide); have : (0 : Int32).toInt = 0 := (by decide); have : (60 : Int32).toInt = 60 := (by decide); omega))⟩
abbrev fs_X10_day : List Nat := [193, 327, 328, 329, 330, 331, 385, 386, 387]
abbrev ts_X10_day : List Nat := [32, 33, 34, 36, 70]
set_option maxHeartbeats 4000000 in
set_option maxRecDepth 100000 in
theorem c_X10_day (a0 : Nat) (ha0 : oA L τ a0 9) (hz : HZ L τ σ) (hb576_385 : ∀ b, σ.2.2.2.2 576 a0 = some b → Iv (σ.1 385 b) 0 0) : oMet l A L τ cy D K yX10_day cX10_day 7 (some .int) 3 81 [.ref a0] σ (va_Qi (fun r σ1 => oFr τ fs_X10_day ts_X10_day σ σ1 ∧ Iv r 0 0 ∧ (∀ b, σ.2.2.2.2 576 a0 = some b → Iv (σ1.1 385 b) 0 0)) (oPo A L τ cy D) A) := by
  refine oMk (by decide) (Nat.le_of_ble_eq_true rfl) rfl ?_
  intro p e s m args below meth c ls cx rx hA hw hl
  generalize hQ : MQ below _ args s 0 0 A = Q
  have hx := cx.1.1
  have hb := cx.1.2.1
  have hml := cx.1.2.2.1
  have hown := cx.1.2.2.2.1
  have hts := cx.1.2.2.2.2
  have hl : lv_has ls 7 [(0, .ref a0)] := hl
  have fr : oFr τ fs_X10_day ts_X10_day σ σ := oFr_rf
  obtain ⟨b576, hF576, hb576⟩ := hw.2.2.2.2.2 576 a0 6 (by rw [ha0.2]; rfl) ha0.1
  have zb576_385 := hb576_385 b576 hF576
  refine lv_aload_n hx hb dX10_day_0 rfl (lv_at hl 0 rfl) ?_
  refine o_ci hw (oRunV cx hA hw q_X10_faultOfDay k_m_X10_280 rfl ha0 (by decide) (As := []) (c_X10_faultOfDay a0 ha0 (fun b q => by rw [show b = b576 from Option.some.inj (q.symm.trans (hF576))]; exact kn_iv (rfl) (iv_w zb576_385 (by decide)))) (by decide) rfl hl.1 rfl (Nat.le_of_ble_eq_true rfl) dX10_day_1 (by decide)) (fun v2 σ1 H locs hp hw => ?_)
  obtain ⟨p2_0, p2_1⟩ := hp
  have fr := oFr_tr fr p2_0 (by decide)
  refine lv_istore_n (lv' := [(1, .int v2), (0, .ref a0)]) hx hb dX10_day_4 rfl hl (by decide) rfl (fun ls hl => ?_)
  refine lv_iload_n hx hb dX10_day_5 rfl (lv_at hl 0 rfl) ?_
  refine lv_if_eq (tgt := 18) hx hb dX10_day_6 (by decide) (fun c3 => ?_) (fun c3 => ?_)
  · --
    refine lv_aload_n hx hb dX10_day_18 rfl (lv_at hl 1 rfl) ?_
    refine g_582 cx hw ha0 k_f_X10_53 dX10_day_19 (fun v4 e4 h4 => ?_)
    refine lv_aload_n hx hb dX10_day_22 rfl (lv_at hl 1 rfl) ?_
    refine g_581 cx hw ha0 k_f_X10_49 dX10_day_23 (fun v5 e5 h5 => ?_)
    refine o_cv hw (oRunV cx hA hw q_X6_copyFrom k_m_X10_131 rfl h4 (by decide) (As := [.ref v5]) (c_X6_copyFrom v4 h4 v5 h5) (by decide) rfl hl.1 rfl (Nat.le_of_ble_eq_true rfl) dX10_day_26 (by decide)) (fun σ6 H locs hp hw => ?_)
    have p7_0 := hp
    have fr := oFr_tr fr p7_0 (by decide)
    refine lv_aload_n hx hb dX10_day_29 rfl (lv_at hl 1 rfl) ?_
    refine g_576 cx hw ha0 k_f_X10_10 dX10_day_30 (fun v8 e8 h8 => ?_)
    rw [show v8 = b576 from Option.some.inj (e8.symm.trans (((kr_c p7_0 (by decide)).trans ((kr_c p2_0 (by decide)).trans hF576))))]
    refine lv_bipush (v := 60) hx hb dX10_day_33 (by decide) ?_
    refine o_cv hw (oRunV cx hA hw q_X7_begin k_m_X10_220 rfl hb576 (by decide) (As := [.int 60]) (c_X7_begin b576 hb576 60) (by decide) rfl hl.1 rfl (Nat.le_of_ble_eq_true rfl) dX10_day_35 (by decide)) (fun σ9 H locs hp hw => ?_)
    obtain ⟨p10_0, p10_1⟩ := hp
    have fr := oFr_tr fr p10_0 (by decide)
    refine lv_iconst (v := 0) hx hb dX10_day_38 (by decide) ?_
    refine lv_istore_n (lv' := [(2, .int 0), (1, .int v2), (0, .ref a0)]) hx hb dX10_day_39 rfl hl (by decide) rfl (fun ls hl => ?_)
    refine lv_iconst (v := 0) hx hb dX10_day_40 (by decide) ?_
    refine lv_istore_n (lv' := [(3, .int 0), (2, .int 0), (1, .int v2), (0, .ref a0)]) hx hb dX10_day_41 rfl hl (by decide) rfl (fun ls hl => ?_)
    refine lv_iconst (v := 0) hx hb dX10_day_42 (by decide) ?_
    refine lv_istore (lv' := [(4, .int 0), (3, .int 0), (2, .int 0), (1, .int v2), (0, .ref a0)]) hx hb dX10_day_43 hl (by decide) rfl (fun ls hl => ?_)
    refine lv_iconst (v := 0) hx hb dX10_day_45 (by decide) ?_
    refine lv_istore (lv' := [(5, .int 0), (4, .int 0), (3, .int 0), (2, .int 0), (1, .int v2), (0, .ref a0)]) hx hb dX10_day_46 hl (by decide) rfl (fun ls hl => ?_)
    have J_48 : ∀ n48 : Nat, ∀ (H : Heap) (locs : List Loc), oI A L τ cy D s.heap σ9 H locs → 0 < n48 → ∀ (ls : Array Slot), lv_has ls 7 [(0, .ref a0), (1, .int v2), (2, .int 0), (3, .int 0), (4, .int 0), (5, .int 0)] → W p l e ({ frames := 3, cells := 0, slots := 0, locals := 81 } : Room) s m args below meth c H locs 0 0 Q (F0 m 48 ls []) := by
      intro n48
      induction n48 with
      | zero => intro  H locs hw  hn_48   ls hl; exact absurd hn_48 (Nat.not_lt_zero _)
      | succ n48 ih_48 =>
        intro  H locs hw  hn_48   ls hl
        refine lv_iload hx hb dX10_day_48 (lv_at hl 5 rfl) ?_
        refine lv_bipush (v := 60) hx hb dX10_day_50 (by decide) ?_
        have J_121 : ∀ (H : Heap) (locs : List Loc), oI A L τ cy D s.heap σ9 H locs → ∀ (ls : Array Slot), lv_has ls 7 [(0, .ref a0), (1, .int v2), (2, .int 0), (3, .int 0), (4, .int 0), (5, .int 0)] → W p l e ({ frames := 3, cells := 0, slots := 0, locals := 81 } : Room) s m args below meth c H locs 0 0 Q (F0 m 121 ls []) := by
          intro  H locs hw     ls hl
          refine lv_iload_n hx hb dX10_day_121 rfl (lv_at hl 2 rfl) ?_
          have J_136 : ∀ (H : Heap) (locs : List Loc), oI A L τ cy D s.heap σ9 H locs → ∀ (ls : Array Slot), lv_has ls 7 [(0, .ref a0), (1, .int v2), (2, .int 0), (3, .int 0), (4, .int 0), (5, .int 0)] → W p l e ({ frames := 3, cells := 0, slots := 0, locals := 81 } : Room) s m args below meth c H locs 0 0 Q (F0 m 136 ls []) := by
            intro  H locs hw     ls hl
            refine lv_aload_n hx hb dX10_day_136 rfl (lv_at hl 0 rfl) ?_
            refine g_576 cx hw ha0 k_f_X10_10 dX10_day_137 (fun v11 e11 h11 => ?_)
            rw [show v11 = b576 from Option.some.inj (e11.symm.trans (((kr_c p10_0 (by decide)).trans ((kr_c p7_0 (by decide)).trans ((kr_c p2_0 (by decide)).trans hF576)))))]
            refine o_cv hw (oRunV cx hA hw q_X7_empty k_m_X10_93 rfl hb576 (by decide) (As := []) (c_X7_empty b576 hb576) (by decide) rfl hl.1 rfl (Nat.le_of_ble_eq_true rfl) dX10_day_140 (by decide)) (fun σ12 H locs hp hw => ?_)
            obtain ⟨p13_0, p13_1⟩ := hp
            have fr := oFr_tr fr p13_0 (by decide)
            refine lv_aload_n hx hb dX10_day_143 rfl (lv_at hl 0 rfl) ?_
            refine g_577 cx hw ha0 k_f_X10_19 dX10_day_144 (fun v14 e14 h14 => ?_)
            refine o_cv hw (oRunV cx hA hw q_X4_start k_m_X10_292 rfl h14 (by decide) (As := []) (c_X4_start v14 h14) (by decide) rfl hl.1 rfl (Nat.le_of_ble_eq_true rfl) dX10_day_147 (by decide)) (fun σ15 H locs hp hw => ?_)
            have p16_0 := hp
            have fr := oFr_tr fr p16_0 (by decide)
            refine lv_aload_n hx hb dX10_day_150 rfl (lv_at hl 0 rfl) ?_
            refine g_577 cx hw ha0 k_f_X10_19 dX10_day_151 (fun v17 e17 h17 => ?_)
            rw [show v17 = v14 from Option.some.inj (e17.symm.trans (((kr_c p16_0 (by decide)).trans e14)))]
            refine lv_iload hx hb dX10_day_154 (lv_at hl 4 rfl) ?_
            have J_164 : ∀ (k164_1 : Int64), ∀ (H : Heap) (locs : List Loc), oI A L τ cy D s.heap σ15 H locs → ∀ (ls : Array Slot), lv_has ls 7 [(0, .ref a0), (1, .int v2), (2, .int 0), (3, .int 0), (4, .int 0), (5, .int 0)] → W p l e ({ frames := 3, cells := 0, slots := 0, locals := 81 } : Room) s m args below meth c H locs 0 0 Q (F0 m 164 ls [.long k164_1, .ref v14]) := by
              intro k164_1 H locs hw     ls hl
              refine o_cv hw (oRunV cx hA hw q_X4_put k_m_X10_295 rfl h14 (by decide) (As := [.long k164_1]) (c_X4_put v14 h14 k164_1) (by decide) rfl hl.1 rfl (Nat.le_of_ble_eq_true rfl) dX10_day_164 (by decide)) (fun σ18 H locs hp hw => ?_)
              have p19_0 := hp
              have fr := oFr_tr fr p19_0 (by decide)
              refine lv_aload_n hx hb dX10_day_167 rfl (lv_at hl 0 rfl) ?_
              refine g_577 cx hw ha0 k_f_X10_19 dX10_day_168 (fun v20 e20 h20 => ?_)
              rw [show v20 = v14 from Option.some.inj (e20.symm.trans (((kr_c p19_0 (by decide)).trans ((kr_c p16_0 (by decide)).trans e14))))]
              refine lv_iload_n hx hb dX10_day_171 rfl (lv_at hl 3 rfl) ?_
              refine lv_i2l hx hb dX10_day_172 rfl ?_
              refine lv_topl (fun v21 e21 => ?_)
              refine o_cv hw (oRunV cx hA hw q_X4_put k_m_X10_295 rfl h14 (by decide) (As := [.long v21]) (c_X4_put v14 h14 v21) (by decide) rfl hl.1 rfl (Nat.le_of_ble_eq_true rfl) dX10_day_173 (by decide)) (fun σ22 H locs hp hw => ?_)
              have p23_0 := hp
              have fr := oFr_tr fr p23_0 (by decide)
              refine lv_iload_n hx hb dX10_day_176 rfl (lv_at hl 2 rfl) ?_
              rw [← hQ]
              exact o_ri cx rx hw dX10_day_177 ⟨fr, (iv_w (⟨by decide, by decide⟩ : Iv 0 0 0) (by decide)), (by intro b hb9; rw [show b = b576 from Option.some.inj (hb9.symm.trans ((kr_c fr (by decide)).symm.trans (((kr_c p23_0 (by decide)).trans ((kr_c p19_0 (by decide)).trans ((kr_c p16_0 (by decide)).trans ((kr_c p13_0 (by decide)).trans ((kr_c p10_0 (by decide)).trans ((kr_c p7_0 (by decide)).trans ((kr_c p2_0 (by decide)).trans hF576))))))))))]; exact (kn_iv (((kp_c p23_0 (by decide)).trans ((kp_c p19_0 (by decide)).trans ((kp_c p16_0 (by decide)).trans rfl)))) (iv_w p13_1 (by decide))))⟩
            refine lv_if_eq (tgt := 163) hx hb dX10_day_156 (by decide) (fun c24 => ?_) (fun c24 => ?_)
            · --
              refine lv_lconst (v := 0) hx hb dX10_day_163 (by decide) ?_
              exact J_164 0 _ _ hw _ (lv_sub hl [0, 1, 2, 3, 4, 5] rfl)
            · --
              exact absurd rfl c24
          refine lv_if_le (tgt := 136) hx hb dX10_day_122 (by decide) (fun c25 => ?_) (fun c25 => ?_)
          · --
            exact J_136 _ _ hw _ (lv_sub hl [0, 1, 2, 3, 4, 5] rfl)
          · --
            exact iv_no (iv_lt1 (b' := (-1)) (iv_nle c25) (⟨by decide, by decide⟩ : Iv 0 0 0) (⟨by decide, by decide⟩ : Iv 0 0 0) (by decide)) (by decide)
        refine lv_icmp_ge (tgt := 121) hx hb dX10_day_52 (by decide) (fun c26 => ?_) (fun c26 => ?_)
        · --
          exact iv_no (iv_le1 (b' := 59) c26 (⟨by decide, by decide⟩ : Iv 60 60 60) (⟨by decide, by decide⟩ : Iv 0 0 0) (by decide)) (by decide)
        · --
          refine lv_iload hx hb dX10_day_55 (lv_at hl 4 rfl) ?_
          refine lv_if_ne (tgt := 121) hx hb dX10_day_57 (by decide) (fun c27 => ?_) (fun c27 => ?_)
          · --
            exact absurd rfl c27
          · --
            refine lv_aload_n hx hb dX10_day_60 rfl (lv_at hl 0 rfl) ?_
            refine g_576 cx hw ha0 k_f_X10_10 dX10_day_61 (fun v28 e28 h28 => ?_)
            rw [show v28 = b576 from Option.some.inj (e28.symm.trans (((kr_c p10_0 (by decide)).trans ((kr_c p7_0 (by decide)).trans ((kr_c p2_0 (by decide)).trans hF576)))))]
            have z29 : (σ9.1 385 b576).toInt = ((σ.1 385 b576) : Int32).toInt := congrArg Int32.toInt (show σ9.1 385 b576 = (σ.1 385 b576) from ((kp_c p10_0 (by decide)).trans ((kp_c p7_0 (by decide)).trans ((kp_c p2_0 (by decide)).trans rfl))))
            have te30 : tC (oRw σ9 384 b576) (σ9.1 385 b576).toInt (σ9.1 387 b576).toInt (σ9.1 386 b576).toInt = -1 := tC_e (by have := (p2_1).1; have := (p2_1).2; have := (zb576_385).1; have := (zb576_385).2; have : (σ9.1 385 b576).toInt = ((σ.1 385 b576) : Int32).toInt := congrArg Int32.toInt (show σ9.1 385 b576 = (σ.1 385 b576) from ((kp_c p10_0 (by decide)).trans ((kp_c p7_0 (by decide)).trans ((kp_c p2_0 (by decide)).trans rfl)))); have : (v2 : Int32).toInt = (0 : Int32).toInt := congrArg Int32.toInt c3; have : (0 : Int32).toInt < (60 : Int32).toInt := iv_lt.mp (iv_nle c26); have : (0 : Int32).toInt = (0 : Int32).toInt := congrArg Int32.toInt c27; have : (0 : Int32).toInt = 0 := (by decide); have : (60 : Int32).toInt = 60 := (by decide); omega)
            refine o_ci hw (oRunV cx hA hw q_X7_isAtEnd k_m_X10_224 rfl hb576 (by decide) (As := []) (c_X7_isAtEnd b576 hb576) (by decide) rfl hl.1 rfl (Nat.le_of_ble_eq_true rfl) dX10_day_64 (by decide)) (fun v32 σ31 H locs hp hw => ?_)
            obtain ⟨p32_0, p32_1, p32_2⟩ := hp
            rw [p32_0] at hw
            have i33 : Iv v32 1 1 := (by have := (p2_1).1; have := (p2_1).2; have := (p32_1).1; have := (p32_1).2; have := (zb576_385).1; have := (zb576_385).2; have : (σ9.1 385 b576).toInt = ((σ.1 385 b576) : Int32).toInt := congrArg Int32.toInt (show σ9.1 385 b576 = (σ.1 385 b576) from ((kp_c p10_0 (by decide)).trans ((kp_c p7_0 (by decide)).trans ((kp_c p2_0 (by decide)).trans rfl)))); have : (v2 : Int32).toInt = (0 : Int32).toInt := congrArg Int32.toInt c3; have : (0 : Int32).toInt < (60 : Int32).toInt := iv_lt.mp (iv_nle c26); have : (0 : Int32).toInt = (0 : Int32).toInt := congrArg Int32.toInt c27; have : (0 : Int32).toInt = 0 := (by decide); have : (60 : Int32).toInt = 60 := (by decide); exact ⟨by omega, by omega⟩)
            refine lv_if_ne (tgt := 121) hx hb dX10_day_67 (by decide) (fun c34 => ?_) (fun c34 => ?_)
            · --
              exact J_121 _ _ hw _ (lv_sub hl [0, 1, 2, 3, 4, 5] rfl)
            · --
              exact iv_no (iv_eq1 (lo := 1) (hi := 0) c34 i33 (⟨by decide, by decide⟩ : Iv 0 0 0) (by decide)) (by decide)
    exact J_48 _ _ _ hw (Nat.lt_succ_self _) _ (lv_sub hl [5, 4, 3, 2, 1, 0] rfl)
  · --
    exact iv_no (iv_ne1 c3 p2_1 (⟨by decide, by decide⟩ : Iv 0 0 0) (by decide)) (by decide)
set_option maxHeartbeats 4000000 in
set_option maxRecDepth 100000 in
theorem c_X10_undo (a0 : Nat) (ha0 : oA L τ a0 9) (hb585_130 : ∀ b, σ.2.2.2.2 585 a0 = some b → Iv (σ.1 130 b) 0 0) : oMet l A L τ cy D K yX10_undo cX10_undo 1 (some .int) 1 21 [.ref a0] σ (va_Qi (fun r σ1 => σ1 = σ ∧ Iv r (-1) (-1)) (oPo A L τ cy D) A) := by
  refine oMk (by decide) (Nat.le_of_ble_eq_true rfl) rfl ?_
  intro p e s m args below meth c ls cx rx hA hw hl
  generalize hQ : MQ below _ args s 0 0 A = Q
  have hx := cx.1.1
  have hb := cx.1.2.1
  have hml := cx.1.2.2.1
  have hown := cx.1.2.2.2.1
  have hts := cx.1.2.2.2.2
  have hl : lv_has ls 1 [(0, .ref a0)] := hl
  obtain ⟨b585, hF585, hb585⟩ := hw.2.2.2.2.2 585 a0 2 (by rw [ha0.2]; rfl) ha0.1
  have zb585_130 := hb585_130 b585 hF585
  refine lv_aload_n hx hb dX10_undo_0 rfl (lv_at hl 0 rfl) ?_
  refine g_585 cx hw ha0 k_f_X10_75 dX10_undo_1 (fun v1 e1 h1 => ?_)
  rw [show v1 = b585 from Option.some.inj (e1.symm.trans (hF585))]
  refine lv_aload_n hx hb dX10_undo_4 rfl (lv_at hl 0 rfl) ?_
  refine g_581 cx hw ha0 k_f_X10_49 dX10_undo_5 (fun v2 e2 h2 => ?_)
  refine o_ci hw (oRunV cx hA hw q_X3_bringBack k_m_X10_299 rfl hb585 (by decide) (As := [.ref v2]) (c_X3_bringBackZ b585 hb585 v2 h2 (kn_iv (rfl) (iv_w zb585_130 (by decide)))) (by decide) rfl hl.1 rfl (Nat.le_of_ble_eq_true rfl) dX10_undo_8 (by decide)) (fun v4 σ3 H locs hp hw => ?_)
  obtain ⟨p4_0, p4_1⟩ := hp
  rw [p4_0] at hw
  refine lv_if_eq (tgt := 24) hx hb dX10_undo_11 (by decide) (fun c5 => ?_) (fun c5 => ?_)
  · --
    refine lv_iconst (v := (-1)) hx hb dX10_undo_24 (by decide) ?_
    rw [← hQ]
    exact o_ri cx rx hw dX10_undo_25 ⟨rfl, (iv_w (⟨by decide, by decide⟩ : Iv (-1) (-1) (-1)) (by decide))⟩
  · --
    exact iv_no (iv_ne1 c5 p4_1 (⟨by decide, by decide⟩ : Iv 0 0 0) (by decide)) (by decide)
abbrev fs_X10_road : List Nat := [193]
abbrev ts_X10_road : List Nat := [36]
set_option maxHeartbeats 4000000 in
set_option maxRecDepth 100000 in
theorem c_X10_road (a0 : Nat) (ha0 : oA L τ a0 9) : oMet l A L τ cy D K yX10_road cX10_road 10 (some .int) 3 66 [.ref a0] σ (va_Qi (fun r σ1 => oFr τ fs_X10_road ts_X10_road σ σ1 ∧ Iv r 0 0) (oPo A L τ cy D) A) := by
  refine oMk (by decide) (Nat.le_of_ble_eq_true rfl) rfl ?_
  intro p e s m args below meth c ls cx rx hA hw hl
  generalize hQ : MQ below _ args s 0 0 A = Q
  have hx := cx.1.1
  have hb := cx.1.2.1
  have hml := cx.1.2.2.1
  have hown := cx.1.2.2.2.1
  have hts := cx.1.2.2.2.2
  have hl : lv_has ls 10 [(0, .ref a0)] := hl
  have fr : oFr τ fs_X10_road ts_X10_road σ σ := oFr_rf
  refine lv_aload_n hx hb dX10_road_0 rfl (lv_at hl 0 rfl) ?_
  refine o_cl hw (oRunV cx hA hw q_X10_roadNow k_m_X10_335 rfl ha0 (by decide) (As := []) (c_X10_roadNow a0 ha0) (by decide) rfl hl.1 rfl (Nat.le_of_ble_eq_true rfl) dX10_road_1 (by decide)) (fun v2 σ1 H locs hp hw => ?_)
  obtain ⟨p2_0, p2_1⟩ := hp
  rw [p2_0] at hw
  rw [p2_1]
  refine lv_lstore_n (lv' := [(1, .long 0), (0, .ref a0)]) hx hb dX10_road_4 rfl hl (by decide) rfl (fun ls hl => ?_)
  refine lv_iconst (v := 0) hx hb dX10_road_5 (by decide) ?_
  refine lv_istore_n (lv' := [(3, .int 0), (1, .long 0), (0, .ref a0)]) hx hb dX10_road_6 rfl hl (by decide) rfl (fun ls hl => ?_)
  refine lv_iconst (v := 0) hx hb dX10_road_7 (by decide) ?_
  refine lv_istore (lv' := [(4, .int 0), (3, .int 0), (1, .long 0), (0, .ref a0)]) hx hb dX10_road_8 hl (by decide) rfl (fun ls hl => ?_)
  refine lv_lload_n hx hb dX10_road_10 rfl (lv_at hl 2 rfl) ?_
  refine lv_lstore (lv' := [(5, .long 0), (4, .int 0), (3, .int 0), (1, .long 0), (0, .ref a0)]) hx hb dX10_road_11 hl (by decide) rfl (fun ls hl => ?_)
  refine lv_iconst (v := 0) hx hb dX10_road_13 (by decide) ?_
  refine lv_istore (lv' := [(7, .int 0), (5, .long 0), (4, .int 0), (3, .int 0), (1, .long 0), (0, .ref a0)]) hx hb dX10_road_14 hl (by decide) rfl (fun ls hl => ?_)
  have J_16 : ∀ n16 : Nat, ∀ (H : Heap) (locs : List Loc), oI A L τ cy D s.heap σ H locs → 0 < n16 → ∀ (ls : Array Slot), lv_has ls 10 [(0, .ref a0), (1, .long 0), (3, .int 0), (4, .int 0), (5, .long 0), (7, .int 0)] → W p l e ({ frames := 3, cells := 0, slots := 0, locals := 66 } : Room) s m args below meth c H locs 0 0 Q (F0 m 16 ls []) := by
    intro n16
    induction n16 with
    | zero => intro  H locs hw  hn_16   ls hl; exact absurd hn_16 (Nat.not_lt_zero _)
    | succ n16 ih_16 =>
      intro  H locs hw  hn_16   ls hl
      refine lv_iload hx hb dX10_road_16 (lv_at hl 5 rfl) ?_
      refine lv_bipush (v := 64) hx hb dX10_road_18 (by decide) ?_
      have J_74 : ∀ (H : Heap) (locs : List Loc), oI A L τ cy D s.heap σ H locs → ∀ (ls : Array Slot), lv_has ls 10 [(0, .ref a0), (1, .long 0), (3, .int 0), (4, .int 0), (5, .long 0), (7, .int 0)] → W p l e ({ frames := 3, cells := 0, slots := 0, locals := 66 } : Room) s m args below meth c H locs 0 0 Q (F0 m 74 ls []) := by
        intro  H locs hw     ls hl
        refine lv_aload_n hx hb dX10_road_74 rfl (lv_at hl 0 rfl) ?_
        refine g_577 cx hw ha0 k_f_X10_19 dX10_road_75 (fun v3 e3 h3 => ?_)
        refine o_cv hw (oRunV cx hA hw q_X4_start k_m_X10_292 rfl h3 (by decide) (As := []) (c_X4_start v3 h3) (by decide) rfl hl.1 rfl (Nat.le_of_ble_eq_true rfl) dX10_road_78 (by decide)) (fun σ4 H locs hp hw => ?_)
        have p5_0 := hp
        have fr := oFr_tr fr p5_0 (by decide)
        refine lv_aload_n hx hb dX10_road_81 rfl (lv_at hl 0 rfl) ?_
        refine g_577 cx hw ha0 k_f_X10_19 dX10_road_82 (fun v6 e6 h6 => ?_)
        rw [show v6 = v3 from Option.some.inj (e6.symm.trans (((kr_c p5_0 (by decide)).trans e3)))]
        refine lv_lload_n hx hb dX10_road_85 rfl (lv_at hl 1 rfl) ?_
        refine o_cv hw (oRunV cx hA hw q_X4_put k_m_X10_295 rfl h3 (by decide) (As := [.long 0]) (c_X4_put v3 h3 0) (by decide) rfl hl.1 rfl (Nat.le_of_ble_eq_true rfl) dX10_road_86 (by decide)) (fun σ7 H locs hp hw => ?_)
        have p8_0 := hp
        have fr := oFr_tr fr p8_0 (by decide)
        refine lv_aload_n hx hb dX10_road_89 rfl (lv_at hl 0 rfl) ?_
        refine g_577 cx hw ha0 k_f_X10_19 dX10_road_90 (fun v9 e9 h9 => ?_)
        rw [show v9 = v3 from Option.some.inj (e9.symm.trans (((kr_c p8_0 (by decide)).trans ((kr_c p5_0 (by decide)).trans e3))))]
        refine lv_iload_n hx hb dX10_road_93 rfl (lv_at hl 2 rfl) ?_
        refine lv_i2l hx hb dX10_road_94 rfl ?_
        refine lv_topl (fun v10 e10 => ?_)
        refine o_cv hw (oRunV cx hA hw q_X4_put k_m_X10_295 rfl h3 (by decide) (As := [.long v10]) (c_X4_put v3 h3 v10) (by decide) rfl hl.1 rfl (Nat.le_of_ble_eq_true rfl) dX10_road_95 (by decide)) (fun σ11 H locs hp hw => ?_)
        have p12_0 := hp
        have fr := oFr_tr fr p12_0 (by decide)
        refine lv_aload_n hx hb dX10_road_98 rfl (lv_at hl 0 rfl) ?_
        refine g_577 cx hw ha0 k_f_X10_19 dX10_road_99 (fun v13 e13 h13 => ?_)
        rw [show v13 = v3 from Option.some.inj (e13.symm.trans (((kr_c p12_0 (by decide)).trans ((kr_c p8_0 (by decide)).trans ((kr_c p5_0 (by decide)).trans e3)))))]
        refine lv_iload hx hb dX10_road_102 (lv_at hl 3 rfl) ?_
        refine lv_i2l hx hb dX10_road_104 rfl ?_
        refine lv_topl (fun v14 e14 => ?_)
        refine o_cv hw (oRunV cx hA hw q_X4_put k_m_X10_295 rfl h3 (by decide) (As := [.long v14]) (c_X4_put v3 h3 v14) (by decide) rfl hl.1 rfl (Nat.le_of_ble_eq_true rfl) dX10_road_105 (by decide)) (fun σ15 H locs hp hw => ?_)
        have p16_0 := hp
        have fr := oFr_tr fr p16_0 (by decide)
        refine lv_lload_n hx hb dX10_road_108 rfl (lv_at hl 1 rfl) ?_
        refine o_ci hw (oRunS cx hA hw q_J13_bitCount_95d88 k_m_X10_349 (As := [.long 0]) (c_J13_bitCount_95d88Z 0 rfl) (by decide) rfl hl.1 rfl (Nat.le_of_ble_eq_true rfl) dX10_road_109 (by decide)) (fun v18 σ17 H locs hp hw => ?_)
        obtain ⟨p18_0, p18_1⟩ := hp
        rw [p18_0] at hw
        rw [← hQ]
        exact o_ri cx rx hw dX10_road_112 ⟨fr, (iv_w p18_1 (by decide))⟩
      refine lv_icmp_ge (tgt := 74) hx hb dX10_road_20 (by decide) (fun c19 => ?_) (fun c19 => ?_)
      · --
        exact iv_no (iv_le1 (b' := 63) c19 (⟨by decide, by decide⟩ : Iv 64 64 64) (⟨by decide, by decide⟩ : Iv 0 0 0) (by decide)) (by decide)
      · --
        refine lv_lload hx hb dX10_road_23 (lv_at hl 4 rfl) ?_
        refine lv_lconst (v := 0) hx hb dX10_road_25 (by decide) ?_
        refine W.lcmp hx hb dX10_road_26 ?_
        refine lv_topi (fun v20 e20 => ?_)
        have i20 : Iv v20 0 0 := (by rw [e20]; exact ⟨by decide, by decide⟩)
        refine lv_if_eq (tgt := 74) hx hb dX10_road_27 (by decide) (fun c21 => ?_) (fun c21 => ?_)
        · --
          exact J_74 _ _ hw _ (lv_sub hl [0, 1, 2, 3, 4, 5] rfl)
        · --
          exact iv_no (iv_ne1 c21 i20 (⟨by decide, by decide⟩ : Iv 0 0 0) (by decide)) (by decide)
  exact J_16 _ _ _ hw (Nat.lt_succ_self _) _ (lv_sub hl [5, 4, 3, 2, 1, 0] rfl)
abbrev fs_X10_squares : List Nat := [193]
abbrev ts_X10_squares : List Nat := [36]
set_option maxHeartbeats 4000000 in
set_option maxRecDepth 100000 in
theorem c_X10_squares (a0 : Nat) (ha0 : oA L τ a0 9) : oMet l A L τ cy D K yX10_squares cX10_squares 8 (some .int) 3 66 [.ref a0] σ (va_Qi (fun r σ1 => oFr τ fs_X10_squares ts_X10_squares σ σ1 ∧ Iv r 0 0) (oPo A L τ cy D) A) := by
  refine oMk (by decide) (Nat.le_of_ble_eq_true rfl) rfl ?_
  intro p e s m args below meth c ls cx rx hA hw hl
  generalize hQ : MQ below _ args s 0 0 A = Q
  have hx := cx.1.1
  have hb := cx.1.2.1
  have hml := cx.1.2.2.1
  have hown := cx.1.2.2.2.1
  have hts := cx.1.2.2.2.2
  have hl : lv_has ls 8 [(0, .ref a0)] := hl
  have fr : oFr τ fs_X10_squares ts_X10_squares σ σ := oFr_rf
  refine lv_aload_n hx hb dX10_squares_0 rfl (lv_at hl 0 rfl) ?_
  refine o_cl hw (oRunV cx hA hw q_X10_roadNow k_m_X10_335 rfl ha0 (by decide) (As := []) (c_X10_roadNow a0 ha0) (by decide) rfl hl.1 rfl (Nat.le_of_ble_eq_true rfl) dX10_squares_1 (by decide)) (fun v2 σ1 H locs hp hw => ?_)
  obtain ⟨p2_0, p2_1⟩ := hp
  rw [p2_0] at hw
  rw [p2_1]
  refine lv_lstore_n (lv' := [(1, .long 0), (0, .ref a0)]) hx hb dX10_squares_4 rfl hl (by decide) rfl (fun ls hl => ?_)
  refine lv_lconst (v := 0) hx hb dX10_squares_5 (by decide) ?_
  refine lv_lstore_n (lv' := [(3, .long 0), (1, .long 0), (0, .ref a0)]) hx hb dX10_squares_6 rfl hl (by decide) rfl (fun ls hl => ?_)
  refine lv_iconst (v := 0) hx hb dX10_squares_7 (by decide) ?_
  refine lv_istore (lv' := [(5, .int 0), (3, .long 0), (1, .long 0), (0, .ref a0)]) hx hb dX10_squares_8 hl (by decide) rfl (fun ls hl => ?_)
  have J_10 : ∀ n10 : Nat, ∀ (j10_5 : Int32) (ij10_5 : Iv j10_5 0 64), ∀ (H : Heap) (locs : List Loc), oI A L τ cy D s.heap σ H locs → (64 - j10_5.toInt).toNat < n10 → ∀ (ls : Array Slot), lv_has ls 8 [(0, .ref a0), (1, .long 0), (3, .long 0), (5, .int j10_5)] → W p l e ({ frames := 3, cells := 0, slots := 0, locals := 66 } : Room) s m args below meth c H locs 0 0 Q (F0 m 10 ls []) := by
    intro n10
    induction n10 with
    | zero => intro j10_5 ij10_5 H locs hw  hn_10   ls hl; exact absurd hn_10 (Nat.not_lt_zero _)
    | succ n10 ih_10 =>
      intro j10_5 ij10_5 H locs hw  hn_10   ls hl
      refine lv_iload hx hb dX10_squares_10 (lv_at hl 3 rfl) ?_
      refine lv_bipush (v := 64) hx hb dX10_squares_12 (by decide) ?_
      refine lv_icmp_ge (tgt := 58) hx hb dX10_squares_14 (by decide) (fun c3 => ?_) (fun c3 => ?_)
      · --
        have i4 : Iv j10_5 64 64 := iv_le2 c3 (⟨by decide, by decide⟩ : Iv 64 64 64) ij10_5 (by decide)
        refine lv_aload_n hx hb dX10_squares_58 rfl (lv_at hl 0 rfl) ?_
        refine g_577 cx hw ha0 k_f_X10_19 dX10_squares_59 (fun v5 e5 h5 => ?_)
        refine o_cv hw (oRunV cx hA hw q_X4_start k_m_X10_292 rfl h5 (by decide) (As := []) (c_X4_start v5 h5) (by decide) rfl hl.1 rfl (Nat.le_of_ble_eq_true rfl) dX10_squares_62 (by decide)) (fun σ6 H locs hp hw => ?_)
        have p7_0 := hp
        have fr := oFr_tr fr p7_0 (by decide)
        refine lv_aload_n hx hb dX10_squares_65 rfl (lv_at hl 0 rfl) ?_
        refine g_577 cx hw ha0 k_f_X10_19 dX10_squares_66 (fun v8 e8 h8 => ?_)
        rw [show v8 = v5 from Option.some.inj (e8.symm.trans (((kr_c p7_0 (by decide)).trans e5)))]
        refine lv_lload_n hx hb dX10_squares_69 rfl (lv_at hl 2 rfl) ?_
        refine o_cv hw (oRunV cx hA hw q_X4_put k_m_X10_295 rfl h5 (by decide) (As := [.long 0]) (c_X4_put v5 h5 0) (by decide) rfl hl.1 rfl (Nat.le_of_ble_eq_true rfl) dX10_squares_70 (by decide)) (fun σ9 H locs hp hw => ?_)
        have p10_0 := hp
        have fr := oFr_tr fr p10_0 (by decide)
        refine lv_lload_n hx hb dX10_squares_73 rfl (lv_at hl 2 rfl) ?_
        refine o_ci hw (oRunS cx hA hw q_J13_bitCount_95d88 k_m_X10_349 (As := [.long 0]) (c_J13_bitCount_95d88Z 0 rfl) (by decide) rfl hl.1 rfl (Nat.le_of_ble_eq_true rfl) dX10_squares_74 (by decide)) (fun v12 σ11 H locs hp hw => ?_)
        obtain ⟨p12_0, p12_1⟩ := hp
        rw [p12_0] at hw
        rw [← hQ]
        exact o_ri cx rx hw dX10_squares_77 ⟨fr, (iv_w p12_1 (by decide))⟩
      · --
        have i13 : Iv j10_5 0 63 := iv_lt1 (iv_nle c3) ij10_5 (⟨by decide, by decide⟩ : Iv 64 64 64) (by decide)
        refine lv_iload hx hb dX10_squares_17 (lv_at hl 3 rfl) ?_
        refine o_cl hw (oRunS cx hA hw q_X0_bit k_m_X10_312 (As := [.int j10_5]) (c_X0_bit j10_5) (by decide) rfl hl.1 rfl (Nat.le_of_ble_eq_true rfl) dX10_squares_19 (by decide)) (fun v15 σ14 H locs hp hw => ?_)
        have p15_0 := hp
        rw [p15_0] at hw
        refine lv_lstore (lv' := [(6, .long v15), (0, .ref a0), (1, .long 0), (3, .long 0), (5, .int j10_5)]) hx hb dX10_squares_22 hl (by decide) rfl (fun ls hl => ?_)
        refine lv_lload_n hx hb dX10_squares_24 rfl (lv_at hl 2 rfl) ?_
        refine lv_lload hx hb dX10_squares_25 (lv_at hl 0 rfl) ?_
        refine lv_land hx hb dX10_squares_27 ?_
        refine lv_topl (fun v16 e16 => ?_)
        rw [show v16 = 0 from (e16.trans (lg_zero_and _))]
        refine lv_lconst (v := 0) hx hb dX10_squares_28 (by decide) ?_
        refine W.lcmp hx hb dX10_squares_29 ?_
        refine lv_topi (fun v17 e17 => ?_)
        have i17 : Iv v17 0 0 := (by rw [e17]; exact ⟨by decide, by decide⟩)
        have J_52 : ∀ (H : Heap) (locs : List Loc), oI A L τ cy D s.heap σ H locs → ∀ (ls : Array Slot), lv_has ls 8 [(0, .ref a0), (1, .long 0), (3, .long 0), (5, .int j10_5), (6, .long v15)] → W p l e ({ frames := 3, cells := 0, slots := 0, locals := 66 } : Room) s m args below meth c H locs 0 0 Q (F0 m 52 ls []) := by
          intro  H locs hw     ls hl
          obtain ⟨v18, e18⟩ : ∃ y : Int32, y = j10_5 + 1 := ⟨_, rfl⟩
          have i18 : Iv v18 1 64 := iv_add e18 i13 (⟨by decide, by decide⟩ : Iv 1 1 1) (by decide)
          have x18 : v18.toInt = j10_5.toInt + 1 := ex_add e18 i13 (⟨by decide, by decide⟩ : Iv 1 1 1) (by decide)
          refine lv_iinc (v := v18) (lv' := [(5, .int v18), (0, .ref a0), (1, .long 0), (3, .long 0), (6, .long v15)]) hx hb dX10_squares_52 hl (k := 3) rfl (by rw [e18]; rfl) (by decide) rfl (fun ls hl => ?_)
          refine lv_goto (tgt := 10) hx hb dX10_squares_55 (by decide) ?_
          exact ih_10 v18 (iv_w i18 (by decide)) _ _ hw (ms_up x18 (by decide) (iv_w (a' := 0) (b' := 64) i18 (by decide)).2 hn_10) _ (lv_sub hl [1, 2, 3, 0] rfl)
        refine lv_if_eq (tgt := 52) hx hb dX10_squares_30 (by decide) (fun c19 => ?_) (fun c19 => ?_)
        · --
          exact J_52 _ _ hw _ (lv_sub hl [1, 2, 3, 4, 0] rfl)
        · --
          exact iv_no (iv_ne1 c19 i17 (⟨by decide, by decide⟩ : Iv 0 0 0) (by decide)) (by decide)
  exact J_10 _ 0 (iv_w (⟨by decide, by decide⟩ : Iv 0 0 0) (by decide)) _ _ hw (Nat.lt_succ_self _) _ (lv_sub hl [3, 2, 1, 0] rfl)
set_option maxHeartbeats 4000000 in
set_option maxRecDepth 100000 in
theorem c_X10_cart (a0 : Nat) (ha0 : oA L τ a0 9) (a1 : Int32) (a2 : Int32) (hz : HZ L τ σ) : oMet l A L τ cy D K yX10_cart cX10_cart 8 (some .int) 2 43 [.ref a0, .int a1, .int a2] σ (va_Qi (fun r σ1 => σ1 = σ ∧ Iv r (-1) (-1)) (oPo A L τ cy D) A) := by
  refine oMk (by decide) (Nat.le_of_ble_eq_true rfl) rfl ?_
  intro p e s m args below meth c ls cx rx hA hw hl
  generalize hQ : MQ below _ args s 0 0 A = Q
  have hx := cx.1.1
  have hb := cx.1.2.1
  have hml := cx.1.2.2.1
  have hown := cx.1.2.2.2.1
  have hts := cx.1.2.2.2.2
  have hl : lv_has ls 8 [(0, .ref a0), (1, .int a1), (2, .int a2)] := hl
  refine lv_aload_n hx hb dX10_cart_0 rfl (lv_at hl 0 rfl) ?_
  refine g_578 cx hw ha0 k_f_X10_26 dX10_cart_1 (fun v1 e1 h1 => ?_)
  refine lv_iload_n hx hb dX10_cart_4 rfl (lv_at hl 1 rfl) ?_
  refine o_ci hw (oRunV cx hA hw q_X2_isThere k_m_X10_135 rfl h1 (by decide) (As := [.int a1]) (c_X2_isThere v1 h1 a1 hz) (by decide) rfl hl.1 rfl (Nat.le_of_ble_eq_true rfl) dX10_cart_5 (by decide)) (fun v3 σ2 H locs hp hw => ?_)
  obtain ⟨p3_0, p3_1⟩ := hp
  rw [p3_0] at hw
  refine lv_if_eq (tgt := 22) hx hb dX10_cart_8 (by decide) (fun c4 => ?_) (fun c4 => ?_)
  · --
    refine lv_iconst (v := (-1)) hx hb dX10_cart_22 (by decide) ?_
    rw [← hQ]
    exact o_ri cx rx hw dX10_cart_23 ⟨rfl, (iv_w (⟨by decide, by decide⟩ : Iv (-1) (-1) (-1)) (by decide))⟩
  · --
    exact iv_no (iv_ne1 c4 p3_1 (⟨by decide, by decide⟩ : Iv 0 0 0) (by decide)) (by decide)
set_option maxHeartbeats 4000000 in
set_option maxRecDepth 100000 in
theorem c_X10_joined (a0 : Nat) (ha0 : oA L τ a0 9) (a1 : Int32) : oMet l A L τ cy D K yX10_joined cX10_joined 6 (some .int) 1 21 [.ref a0, .int a1] σ (va_Qi (fun r σ1 => σ1 = σ ∧ Iv r (-1) (-1)) (oPo A L τ cy D) A) := by
  refine oMk (by decide) (Nat.le_of_ble_eq_true rfl) rfl ?_
  intro p e s m args below meth c ls cx rx hA hw hl
  generalize hQ : MQ below _ args s 0 0 A = Q
  have hx := cx.1.1
  have hb := cx.1.2.1
  have hml := cx.1.2.2.1
  have hown := cx.1.2.2.2.1
  have hts := cx.1.2.2.2.2
  have hl : lv_has ls 6 [(0, .ref a0), (1, .int a1)] := hl
  refine lv_aload_n hx hb dX10_joined_0 rfl (lv_at hl 0 rfl) ?_
  refine g_581 cx hw ha0 k_f_X10_49 dX10_joined_1 (fun v1 e1 h1 => ?_)
  refine lv_iload_n hx hb dX10_joined_4 rfl (lv_at hl 1 rfl) ?_
  refine o_ci hw (oRunV cx hA hw q_X6_hasHerd k_m_X10_178 rfl h1 (by decide) (As := [.int a1]) (c_X6_hasHerd v1 h1 a1) (by decide) rfl hl.1 rfl (Nat.le_of_ble_eq_true rfl) dX10_joined_5 (by decide)) (fun v3 σ2 H locs hp hw => ?_)
  obtain ⟨p3_0, p3_1, p3_2⟩ := hp
  rw [p3_0] at hw
  refine lv_if_ne (tgt := 13) hx hb dX10_joined_8 (by decide) (fun c4 => ?_) (fun c4 => ?_)
  · --
    exact iv_no (iv_ne1 c4 p3_1 (⟨by decide, by decide⟩ : Iv 0 0 0) (by decide)) (by decide)
  · --
    refine lv_iconst (v := (-1)) hx hb dX10_joined_11 (by decide) ?_
    rw [← hQ]
    exact o_ri cx rx hw dX10_joined_12 ⟨rfl, (iv_w (⟨by decide, by decide⟩ : Iv (-1) (-1) (-1)) (by decide))⟩
set_option maxHeartbeats 4000000 in
set_option maxRecDepth 100000 in
theorem c_X10_owners (a0 : Nat) (ha0 : oA L τ a0 9) : oMet l A L τ cy D K yX10_owners cX10_owners 7 (some .int) 0 0 [.ref a0] σ (va_Qi (fun r σ1 => σ1 = σ ∧ Iv r (-2) (-2)) (oPo A L τ cy D) A) := by
  refine oMk (by decide) (Nat.le_of_ble_eq_true rfl) rfl ?_
  intro p e s m args below meth c ls cx rx hA hw hl
  generalize hQ : MQ below _ args s 0 0 A = Q
  have hx := cx.1.1
  have hb := cx.1.2.1
  have hml := cx.1.2.2.1
  have hown := cx.1.2.2.2.1
  have hts := cx.1.2.2.2.2
  have hl : lv_has ls 7 [(0, .ref a0)] := hl
  refine lv_aload_n hx hb dX10_owners_0 rfl (lv_at hl 0 rfl) ?_
  refine g_581 cx hw ha0 k_f_X10_49 dX10_owners_1 (fun v1 e1 h1 => ?_)
  refine g_327 cx hw h1 k_f_X10_206 dX10_owners_4 (fun v2 e2 i2 => ?_)
  refine lv_if_ne (tgt := 13) hx hb dX10_owners_7 (by decide) (fun c3 => ?_) (fun c3 => ?_)
  · --
    exact iv_no (iv_ne1 c3 i2 (⟨by decide, by decide⟩ : Iv 0 0 0) (by decide)) (by decide)
  · --
    refine lv_bipush (v := (-2)) hx hb dX10_owners_10 (by decide) ?_
    rw [← hQ]
    exact o_ri cx rx hw dX10_owners_12 ⟨rfl, (iv_w (⟨by decide, by decide⟩ : Iv (-2) (-2) (-2)) (by decide))⟩
set_option maxHeartbeats 4000000 in
set_option maxRecDepth 100000 in
theorem c_X10_least (a0 : Nat) (ha0 : oA L τ a0 9) : oMet l A L τ cy D K yX10_least cX10_least 3 (some .int) 1 23 [.ref a0] σ (va_Qi (fun r σ1 => σ1 = σ ∧ Iv r (-2) (-2)) (oPo A L τ cy D) A) := by
  refine oMk (by decide) (Nat.le_of_ble_eq_true rfl) rfl ?_
  intro p e s m args below meth c ls cx rx hA hw hl
  generalize hQ : MQ below _ args s 0 0 A = Q
  have hx := cx.1.1
  have hb := cx.1.2.1
  have hml := cx.1.2.2.1
  have hown := cx.1.2.2.2.1
  have hts := cx.1.2.2.2.2
  have hl : lv_has ls 3 [(0, .ref a0)] := hl
  refine lv_iconst (v := 0) hx hb dX10_least_0 (by decide) ?_
  refine lv_istore_n (lv' := [(1, .int 0), (0, .ref a0)]) hx hb dX10_least_1 rfl hl (by decide) rfl (fun ls hl => ?_)
  have J_2 : ∀ n2 : Nat, ∀ (j2_1 : Int32) (ij2_1 : Iv j2_1 0 100), ∀ (H : Heap) (locs : List Loc), oI A L τ cy D s.heap σ H locs → (100 - j2_1.toInt).toNat < n2 → ∀ (ls : Array Slot), lv_has ls 3 [(0, .ref a0), (1, .int j2_1)] → W p l e ({ frames := 1, cells := 0, slots := 0, locals := 23 } : Room) s m args below meth c H locs 0 0 Q (F0 m 2 ls []) := by
    intro n2
    induction n2 with
    | zero => intro j2_1 ij2_1 H locs hw  hn_2   ls hl; exact absurd hn_2 (Nat.not_lt_zero _)
    | succ n2 ih_2 =>
      intro j2_1 ij2_1 H locs hw  hn_2   ls hl
      refine lv_iload_n hx hb dX10_least_2 rfl (lv_at hl 1 rfl) ?_
      refine lv_bipush (v := 99) hx hb dX10_least_3 (by decide) ?_
      refine lv_icmp_gt (tgt := 45) hx hb dX10_least_5 (by decide) (fun c1 => ?_) (fun c1 => ?_)
      · --
        have i2 : Iv j2_1 100 100 := iv_lt2 c1 (⟨by decide, by decide⟩ : Iv 99 99 99) ij2_1 (by decide)
        refine lv_bipush (v := (-2)) hx hb dX10_least_45 (by decide) ?_
        rw [← hQ]
        exact o_ri cx rx hw dX10_least_47 ⟨rfl, (iv_w (⟨by decide, by decide⟩ : Iv (-2) (-2) (-2)) (by decide))⟩
      · --
        have i3 : Iv j2_1 0 99 := iv_le1 (iv_nlt c1) ij2_1 (⟨by decide, by decide⟩ : Iv 99 99 99) (by decide)
        refine lv_aload_n hx hb dX10_least_8 rfl (lv_at hl 0 rfl) ?_
        refine g_581 cx hw ha0 k_f_X10_49 dX10_least_9 (fun v4 e4 h4 => ?_)
        refine lv_iload_n hx hb dX10_least_12 rfl (lv_at hl 1 rfl) ?_
        refine o_ci hw (oRunV cx hA hw q_X6_sizeOfMeeting k_m_X10_367 rfl h4 (by decide) (As := [.int j2_1]) (c_X6_sizeOfMeeting v4 h4 j2_1) (by decide) rfl hl.1 rfl (Nat.le_of_ble_eq_true rfl) dX10_least_13 (by decide)) (fun v6 σ5 H locs hp hw => ?_)
        obtain ⟨p6_0, p6_1⟩ := hp
        rw [p6_0] at hw
        refine lv_istore_n (lv' := [(2, .int v6), (0, .ref a0), (1, .int j2_1)]) hx hb dX10_least_16 rfl hl (by decide) rfl (fun ls hl => ?_)
        refine lv_iload_n hx hb dX10_least_17 rfl (lv_at hl 0 rfl) ?_
        refine lv_if_le (tgt := 39) hx hb dX10_least_18 (by decide) (fun c7 => ?_) (fun c7 => ?_)
        · --
          obtain ⟨v8, e8⟩ : ∃ y : Int32, y = j2_1 + 1 := ⟨_, rfl⟩
          have i8 : Iv v8 1 100 := iv_add e8 i3 (⟨by decide, by decide⟩ : Iv 1 1 1) (by decide)
          have x8 : v8.toInt = j2_1.toInt + 1 := ex_add e8 i3 (⟨by decide, by decide⟩ : Iv 1 1 1) (by decide)
          refine lv_iinc (v := v8) (lv' := [(1, .int v8), (2, .int v6), (0, .ref a0)]) hx hb dX10_least_39 hl (k := 2) rfl (by rw [e8]; rfl) (by decide) rfl (fun ls hl => ?_)
          refine lv_goto (tgt := 2) hx hb dX10_least_42 (by decide) ?_
          exact ih_2 v8 (iv_w i8 (by decide)) _ _ hw (ms_up x8 (by decide) (iv_w (a' := 0) (b' := 100) i8 (by decide)).2 hn_2) _ (lv_sub hl [2, 0] rfl)
        · --
          exact iv_no (iv_lt1 (b' := (-1)) (iv_nle c7) (⟨by decide, by decide⟩ : Iv 0 0 0) p6_1 (by decide)) (by decide)
  exact J_2 _ 0 (iv_w (⟨by decide, by decide⟩ : Iv 0 0 0) (by decide)) _ _ hw (Nat.lt_succ_self _) _ (lv_sub hl [1, 0] rfl)
set_option maxHeartbeats 4000000 in
set_option maxRecDepth 100000 in
theorem c_X10_furthest (a0 : Nat) (ha0 : oA L τ a0 9) (a1 : Int32) (hz : HZ L τ σ) : oMet l A L τ cy D K yX10_furthest cX10_furthest 5 (some .int) 2 43 [.ref a0, .int a1] σ (va_Qi (fun r σ1 => σ1 = σ ∧ Iv r (-1) (-1)) (oPo A L τ cy D) A) := by
  refine oMk (by decide) (Nat.le_of_ble_eq_true rfl) rfl ?_
  intro p e s m args below meth c ls cx rx hA hw hl
  generalize hQ : MQ below _ args s 0 0 A = Q
  have hx := cx.1.1
  have hb := cx.1.2.1
  have hml := cx.1.2.2.1
  have hown := cx.1.2.2.2.1
  have hts := cx.1.2.2.2.2
  have hl : lv_has ls 5 [(0, .ref a0), (1, .int a1)] := hl
  refine lv_aload_n hx hb dX10_furthest_0 rfl (lv_at hl 0 rfl) ?_
  refine g_578 cx hw ha0 k_f_X10_26 dX10_furthest_1 (fun v1 e1 h1 => ?_)
  refine lv_iload_n hx hb dX10_furthest_4 rfl (lv_at hl 1 rfl) ?_
  refine o_ci hw (oRunV cx hA hw q_X2_isThere k_m_X10_135 rfl h1 (by decide) (As := [.int a1]) (c_X2_isThere v1 h1 a1 hz) (by decide) rfl hl.1 rfl (Nat.le_of_ble_eq_true rfl) dX10_furthest_5 (by decide)) (fun v3 σ2 H locs hp hw => ?_)
  obtain ⟨p3_0, p3_1⟩ := hp
  rw [p3_0] at hw
  refine lv_if_ne (tgt := 13) hx hb dX10_furthest_8 (by decide) (fun c4 => ?_) (fun c4 => ?_)
  · --
    exact iv_no (iv_ne1 c4 p3_1 (⟨by decide, by decide⟩ : Iv 0 0 0) (by decide)) (by decide)
  · --
    refine lv_iconst (v := (-1)) hx hb dX10_furthest_11 (by decide) ?_
    rw [← hQ]
    exact o_ri cx rx hw dX10_furthest_12 ⟨rfl, (iv_w (⟨by decide, by decide⟩ : Iv (-1) (-1) (-1)) (by decide))⟩
set_option maxHeartbeats 4000000 in
set_option maxRecDepth 100000 in
theorem c_X10_where (a0 : Nat) (ha0 : oA L τ a0 9) (a1 : Int32) (a2 : Int32) (hz : HZ L τ σ) : oMet l A L τ cy D K yX10_where cX10_where 4 (some .int) 1 21 [.ref a0, .int a1, .int a2] σ (va_Qi (fun r σ1 => σ1 = σ ∧ Iv r (-1) (-1)) (oPo A L τ cy D) A) := by
  refine oMk (by decide) (Nat.le_of_ble_eq_true rfl) rfl ?_
  intro p e s m args below meth c ls cx rx hA hw hl
  generalize hQ : MQ below _ args s 0 0 A = Q
  have hx := cx.1.1
  have hb := cx.1.2.1
  have hml := cx.1.2.2.1
  have hown := cx.1.2.2.2.1
  have hts := cx.1.2.2.2.2
  have hl : lv_has ls 4 [(0, .ref a0), (1, .int a1), (2, .int a2)] := hl
  refine lv_aload_n hx hb dX10_where_0 rfl (lv_at hl 0 rfl) ?_
  refine g_581 cx hw ha0 k_f_X10_49 dX10_where_1 (fun v1 e1 h1 => ?_)
  refine lv_iload_n hx hb dX10_where_4 rfl (lv_at hl 1 rfl) ?_
  refine o_ci hw (oRunV cx hA hw q_X6_hasHerd k_m_X10_178 rfl h1 (by decide) (As := [.int a1]) (c_X6_hasHerd v1 h1 a1) (by decide) rfl hl.1 rfl (Nat.le_of_ble_eq_true rfl) dX10_where_5 (by decide)) (fun v3 σ2 H locs hp hw => ?_)
  obtain ⟨p3_0, p3_1, p3_2⟩ := hp
  rw [p3_0] at hw
  refine lv_if_eq (tgt := 21) hx hb dX10_where_8 (by decide) (fun c4 => ?_) (fun c4 => ?_)
  · --
    refine lv_iconst (v := (-1)) hx hb dX10_where_21 (by decide) ?_
    rw [← hQ]
    exact o_ri cx rx hw dX10_where_22 ⟨rfl, (iv_w (⟨by decide, by decide⟩ : Iv (-1) (-1) (-1)) (by decide))⟩
  · --
    exact iv_no (iv_ne1 c4 p3_1 (⟨by decide, by decide⟩ : Iv 0 0 0) (by decide)) (by decide)
abbrev fs_X10_roadin : List Nat := [193, 327, 328, 329, 330, 331, 517]
abbrev ts_X10_roadin : List Nat := [32, 33, 34, 36, 70]
set_option maxHeartbeats 4000000 in
set_option maxRecDepth 100000 in
theorem c_X10_roadin (a0 : Nat) (ha0 : oA L τ a0 9) (a1 : Int32) (hz : HZ L τ σ) : oMet l A L τ cy D K yX10_roadin cX10_roadin 4 (some .int) 6 139 [.ref a0, .int a1] σ (va_Qi (fun r σ1 => oFr τ fs_X10_roadin ts_X10_roadin σ σ1 ∧ Iv r (-1) 0 ∧ (((0 ≤ a1.toInt ∧ a1.toInt ≤ 100) ∧ r.toInt = 0) ∨ (¬ (0 ≤ a1.toInt ∧ a1.toInt ≤ 100) ∧ r.toInt = -1))) (oPo A L τ cy D) A) := by
  refine oMk (by decide) (Nat.le_of_ble_eq_true rfl) rfl ?_
  intro p e s m args below meth c ls cx rx hA hw hl
  generalize hQ : MQ below _ args s 0 0 A = Q
  have hx := cx.1.1
  have hb := cx.1.2.1
  have hml := cx.1.2.2.1
  have hown := cx.1.2.2.2.1
  have hts := cx.1.2.2.2.2
  have hl : lv_has ls 4 [(0, .ref a0), (1, .int a1)] := hl
  have fr : oFr τ fs_X10_roadin ts_X10_roadin σ σ := oFr_rf
  refine lv_iload_n hx hb dX10_roadin_0 rfl (lv_at hl 1 rfl) ?_
  refine lv_if_lt (tgt := 10) hx hb dX10_roadin_1 (by decide) (fun c1 => ?_) (fun c1 => ?_)
  · --
    have i2 : Iv a1 (-2147483648) (-1) := iv_lt1 c1 (iv_top a1) (⟨by decide, by decide⟩ : Iv 0 0 0) (by decide)
    refine lv_iconst (v := (-1)) hx hb dX10_roadin_10 (by decide) ?_
    rw [← hQ]
    exact o_ri cx rx hw dX10_roadin_11 ⟨fr, (iv_w (⟨by decide, by decide⟩ : Iv (-1) (-1) (-1)) (by decide)), (by exact (by have : (0 : Int32).toInt = 0 := (by decide); have : (60 : Int32).toInt = 60 := (by decide); have : (100 : Int32).toInt = 100 := (by decide); have := (i2).1; have := (i2).2; have : (a1 : Int32).toInt < (0 : Int32).toInt := iv_lt.mp c1; have : ((-1) : Int32).toInt = (-1) := (by decide); have : (0 : Int32).toInt = 0 := (by decide); omega))⟩
  · --
    have i3 : Iv a1 0 2147483647 := iv_le2 (iv_nlt c1) (⟨by decide, by decide⟩ : Iv 0 0 0) (iv_top a1) (by decide)
    refine lv_iload_n hx hb dX10_roadin_4 rfl (lv_at hl 1 rfl) ?_
    refine lv_bipush (v := 100) hx hb dX10_roadin_5 (by decide) ?_
    refine lv_icmp_le (tgt := 12) hx hb dX10_roadin_7 (by decide) (fun c4 => ?_) (fun c4 => ?_)
    · --
      have i5 : Iv a1 0 100 := iv_le1 c4 i3 (⟨by decide, by decide⟩ : Iv 100 100 100) (by decide)
      refine lv_aload_n hx hb dX10_roadin_12 rfl (lv_at hl 0 rfl) ?_
      refine g_583 cx hw ha0 k_f_X10_61 dX10_roadin_13 (fun v6 e6 h6 => ?_)
      refine lv_iload_n hx hb dX10_roadin_16 rfl (lv_at hl 1 rfl) ?_
      refine o_cr hw (oRunV cx hA hw q_X1_lookOn k_m_X10_373 rfl h6 (by decide) (As := [.int a1]) (c_X1_lookOn v6 h6 a1 hz) (by decide) rfl hl.1 rfl (Nat.le_of_ble_eq_true rfl) dX10_roadin_17 (by decide)) (fun v8 σ7 H locs hp hw => ?_)
      obtain ⟨p8_0, p8_1⟩ := hp
      have fr := oFr_tr fr p8_0 (by decide)
      refine lv_aload_n hx hb dX10_roadin_20 rfl (lv_at hl 0 rfl) ?_
      refine g_580 cx hw ha0 k_f_X10_42 dX10_roadin_21 (fun v9 e9 h9 => ?_)
      refine g_514 cx hw h9 k_f_X10_167 dX10_roadin_24 (fun v10 e10 => ?_)
      have z10 : v10.toInt = (σ7.1 514 v9).toInt := congrArg Int32.toInt e10
      refine o_cl hw (oRunV cx hA hw q_X6_roadCells k_m_X10_370 rfl p8_1 (by decide) (As := [.int v10]) (c_X6_roadCells v8 p8_1 v10) (by decide) rfl hl.1 rfl (Nat.le_of_ble_eq_true rfl) dX10_roadin_27 (by decide)) (fun v12 σ11 H locs hp hw => ?_)
      obtain ⟨p12_0, p12_1⟩ := hp
      rw [p12_0] at hw
      rw [p12_1]
      refine lv_lstore_n (lv' := [(2, .long 0), (0, .ref a0), (1, .int a1)]) hx hb dX10_roadin_30 rfl hl (by decide) rfl (fun ls hl => ?_)
      refine lv_aload_n hx hb dX10_roadin_31 rfl (lv_at hl 1 rfl) ?_
      refine g_577 cx hw ha0 k_f_X10_19 dX10_roadin_32 (fun v13 e13 h13 => ?_)
      refine o_cv hw (oRunV cx hA hw q_X4_start k_m_X10_292 rfl h13 (by decide) (As := []) (c_X4_start v13 h13) (by decide) rfl hl.1 rfl (Nat.le_of_ble_eq_true rfl) dX10_roadin_35 (by decide)) (fun σ14 H locs hp hw => ?_)
      have p15_0 := hp
      have fr := oFr_tr fr p15_0 (by decide)
      refine lv_aload_n hx hb dX10_roadin_38 rfl (lv_at hl 1 rfl) ?_
      refine g_577 cx hw ha0 k_f_X10_19 dX10_roadin_39 (fun v16 e16 h16 => ?_)
      rw [show v16 = v13 from Option.some.inj (e16.symm.trans (((kr_c p15_0 (by decide)).trans e13)))]
      refine lv_lload_n hx hb dX10_roadin_42 rfl (lv_at hl 0 rfl) ?_
      refine o_cv hw (oRunV cx hA hw q_X4_put k_m_X10_295 rfl h13 (by decide) (As := [.long 0]) (c_X4_put v13 h13 0) (by decide) rfl hl.1 rfl (Nat.le_of_ble_eq_true rfl) dX10_roadin_43 (by decide)) (fun σ17 H locs hp hw => ?_)
      have p18_0 := hp
      have fr := oFr_tr fr p18_0 (by decide)
      refine lv_aload_n hx hb dX10_roadin_46 rfl (lv_at hl 1 rfl) ?_
      refine g_577 cx hw ha0 k_f_X10_19 dX10_roadin_47 (fun v19 e19 h19 => ?_)
      rw [show v19 = v13 from Option.some.inj (e19.symm.trans (((kr_c p18_0 (by decide)).trans ((kr_c p15_0 (by decide)).trans e13))))]
      refine lv_aload_n hx hb dX10_roadin_50 rfl (lv_at hl 1 rfl) ?_
      refine o_cl hw (oRunV cx hA hw q_X10_roadNow k_m_X10_335 rfl ha0 (by decide) (As := []) (c_X10_roadNow a0 ha0) (by decide) rfl hl.1 rfl (Nat.le_of_ble_eq_true rfl) dX10_roadin_51 (by decide)) (fun v21 σ20 H locs hp hw => ?_)
      obtain ⟨p21_0, p21_1⟩ := hp
      rw [p21_0] at hw
      rw [p21_1]
      refine lv_lload_n hx hb dX10_roadin_54 rfl (lv_at hl 0 rfl) ?_
      refine lv_ldc2 (v := (-1)) hx hb hown (hts _ k_k_X10_347) dX10_roadin_55 ?_
      refine lv_lxor hx hb dX10_roadin_58 ?_
      refine lv_topl (fun v22 e22 => ?_)
      rw [show v22 = (-1) from (by rw [e22]; decide)]
      refine lv_land hx hb dX10_roadin_59 ?_
      refine lv_topl (fun v23 e23 => ?_)
      rw [show v23 = 0 from (by rw [e23]; decide)]
      refine o_cv hw (oRunV cx hA hw q_X4_put k_m_X10_295 rfl h13 (by decide) (As := [.long 0]) (c_X4_put v13 h13 0) (by decide) rfl hl.1 rfl (Nat.le_of_ble_eq_true rfl) dX10_roadin_60 (by decide)) (fun σ24 H locs hp hw => ?_)
      have p25_0 := hp
      have fr := oFr_tr fr p25_0 (by decide)
      refine lv_lload_n hx hb dX10_roadin_63 rfl (lv_at hl 0 rfl) ?_
      refine o_ci hw (oRunS cx hA hw q_J13_bitCount_95d88 k_m_X10_349 (As := [.long 0]) (c_J13_bitCount_95d88Z 0 rfl) (by decide) rfl hl.1 rfl (Nat.le_of_ble_eq_true rfl) dX10_roadin_64 (by decide)) (fun v27 σ26 H locs hp hw => ?_)
      obtain ⟨p27_0, p27_1⟩ := hp
      rw [p27_0] at hw
      rw [← hQ]
      exact o_ri cx rx hw dX10_roadin_67 ⟨fr, (iv_w p27_1 (by decide)), (by exact (by have : (0 : Int32).toInt = 0 := (by decide); have : (60 : Int32).toInt = 60 := (by decide); have : (100 : Int32).toInt = 100 := (by decide); have := (i5).1; have := (i5).2; have := (p27_1).1; have := (p27_1).2; have : (σ24.1 514 v9).toInt = (v10 : Int32).toInt := congrArg Int32.toInt (show σ24.1 514 v9 = v10 from ((kp_c p25_0 (by decide)).trans ((kp_c p18_0 (by decide)).trans ((kp_c p15_0 (by decide)).trans e10.symm)))); have : (0 : Int32).toInt ≤ (a1 : Int32).toInt := iv_le.mp (iv_nlt c1); have : (a1 : Int32).toInt ≤ (100 : Int32).toInt := iv_le.mp c4; have : (0 : Int32).toInt = 0 := (by decide); have : (100 : Int32).toInt = 100 := (by decide); omega))⟩
    · --
      have i28 : Iv a1 101 2147483647 := iv_lt2 (iv_nle c4) (⟨by decide, by decide⟩ : Iv 100 100 100) i3 (by decide)
      refine lv_iconst (v := (-1)) hx hb dX10_roadin_10 (by decide) ?_
      rw [← hQ]
      exact o_ri cx rx hw dX10_roadin_11 ⟨fr, (iv_w (⟨by decide, by decide⟩ : Iv (-1) (-1) (-1)) (by decide)), (by exact (by have : (0 : Int32).toInt = 0 := (by decide); have : (60 : Int32).toInt = 60 := (by decide); have : (100 : Int32).toInt = 100 := (by decide); have := (i28).1; have := (i28).2; have : (0 : Int32).toInt ≤ (a1 : Int32).toInt := iv_le.mp (iv_nlt c1); have : (100 : Int32).toInt < (a1 : Int32).toInt := iv_lt.mp (iv_nle c4); have : ((-1) : Int32).toInt = (-1) := (by decide); have : (0 : Int32).toInt = 0 := (by decide); have : (100 : Int32).toInt = 100 := (by decide); omega))⟩
set_option maxHeartbeats 4000000 in
set_option maxRecDepth 100000 in
theorem c_X10_market (a0 : Nat) (ha0 : oA L τ a0 9) (a1 : Int32) (a2 : Int32) (hz : HZ L τ σ) : oMet l A L τ cy D K yX10_market cX10_market 10 (some .int) 2 43 [.ref a0, .int a1, .int a2] σ (va_Qi (fun r σ1 => σ1 = σ ∧ Iv r (-1) (-1)) (oPo A L τ cy D) A) := by
  refine oMk (by decide) (Nat.le_of_ble_eq_true rfl) rfl ?_
  intro p e s m args below meth c ls cx rx hA hw hl
  generalize hQ : MQ below _ args s 0 0 A = Q
  have hx := cx.1.1
  have hb := cx.1.2.1
  have hml := cx.1.2.2.1
  have hown := cx.1.2.2.2.1
  have hts := cx.1.2.2.2.2
  have hl : lv_has ls 10 [(0, .ref a0), (1, .int a1), (2, .int a2)] := hl
  refine lv_aload_n hx hb dX10_market_0 rfl (lv_at hl 0 rfl) ?_
  refine g_578 cx hw ha0 k_f_X10_26 dX10_market_1 (fun v1 e1 h1 => ?_)
  refine lv_iload_n hx hb dX10_market_4 rfl (lv_at hl 1 rfl) ?_
  refine o_ci hw (oRunV cx hA hw q_X2_isThere k_m_X10_135 rfl h1 (by decide) (As := [.int a1]) (c_X2_isThere v1 h1 a1 hz) (by decide) rfl hl.1 rfl (Nat.le_of_ble_eq_true rfl) dX10_market_5 (by decide)) (fun v3 σ2 H locs hp hw => ?_)
  obtain ⟨p3_0, p3_1⟩ := hp
  rw [p3_0] at hw
  refine lv_if_eq (tgt := 22) hx hb dX10_market_8 (by decide) (fun c4 => ?_) (fun c4 => ?_)
  · --
    refine lv_iconst (v := (-1)) hx hb dX10_market_22 (by decide) ?_
    rw [← hQ]
    exact o_ri cx rx hw dX10_market_23 ⟨rfl, (iv_w (⟨by decide, by decide⟩ : Iv (-1) (-1) (-1)) (by decide))⟩
  · --
    exact iv_no (iv_ne1 c4 p3_1 (⟨by decide, by decide⟩ : Iv 0 0 0) (by decide)) (by decide)
set_option maxHeartbeats 4000000 in
set_option maxRecDepth 100000 in
theorem c_X10_trodden (a0 : Nat) (ha0 : oA L τ a0 9) (a1 : Int32) (hz : HZ L τ σ) : oMet l A L τ cy D K yX10_trodden cX10_trodden 4 (some .int) 2 43 [.ref a0, .int a1] σ (va_Qi (fun r σ1 => σ1 = σ ∧ Iv r (-1) (-1)) (oPo A L τ cy D) A) := by
  refine oMk (by decide) (Nat.le_of_ble_eq_true rfl) rfl ?_
  intro p e s m args below meth c ls cx rx hA hw hl
  generalize hQ : MQ below _ args s 0 0 A = Q
  have hx := cx.1.1
  have hb := cx.1.2.1
  have hml := cx.1.2.2.1
  have hown := cx.1.2.2.2.1
  have hts := cx.1.2.2.2.2
  have hl : lv_has ls 4 [(0, .ref a0), (1, .int a1)] := hl
  refine lv_aload_n hx hb dX10_trodden_0 rfl (lv_at hl 0 rfl) ?_
  refine g_578 cx hw ha0 k_f_X10_26 dX10_trodden_1 (fun v1 e1 h1 => ?_)
  refine lv_iload_n hx hb dX10_trodden_4 rfl (lv_at hl 1 rfl) ?_
  refine o_ci hw (oRunV cx hA hw q_X2_isThere k_m_X10_135 rfl h1 (by decide) (As := [.int a1]) (c_X2_isThere v1 h1 a1 hz) (by decide) rfl hl.1 rfl (Nat.le_of_ble_eq_true rfl) dX10_trodden_5 (by decide)) (fun v3 σ2 H locs hp hw => ?_)
  obtain ⟨p3_0, p3_1⟩ := hp
  rw [p3_0] at hw
  refine lv_if_ne (tgt := 13) hx hb dX10_trodden_8 (by decide) (fun c4 => ?_) (fun c4 => ?_)
  · --
    exact iv_no (iv_ne1 c4 p3_1 (⟨by decide, by decide⟩ : Iv 0 0 0) (by decide)) (by decide)
  · --
    refine lv_iconst (v := (-1)) hx hb dX10_trodden_11 (by decide) ?_
    rw [← hQ]
    exact o_ri cx rx hw dX10_trodden_12 ⟨rfl, (iv_w (⟨by decide, by decide⟩ : Iv (-1) (-1) (-1)) (by decide))⟩
abbrev fs_X10_meets : List Nat := [327, 328, 329, 330, 331, 517]
abbrev ts_X10_meets : List Nat := [32, 33, 34, 70]
set_option maxHeartbeats 4000000 in
set_option maxRecDepth 100000 in
theorem c_X10_meets (a0 : Nat) (ha0 : oA L τ a0 9) (hz : HZ L τ σ) : oMet l A L τ cy D K yX10_meets cX10_meets 4 (some .int) 4 101 [.ref a0] σ (va_Qi (fun r σ1 => oFr τ fs_X10_meets ts_X10_meets σ σ1 ∧ Iv r (-2) (-2)) (oPo A L τ cy D) A) := by
  refine oMk (by decide) (Nat.le_of_ble_eq_true rfl) rfl ?_
  intro p e s m args below meth c ls cx rx hA hw hl
  generalize hQ : MQ below _ args s 0 0 A = Q
  have hx := cx.1.1
  have hb := cx.1.2.1
  have hml := cx.1.2.2.1
  have hown := cx.1.2.2.2.1
  have hts := cx.1.2.2.2.2
  have hl : lv_has ls 4 [(0, .ref a0)] := hl
  have fr : oFr τ fs_X10_meets ts_X10_meets σ σ := oFr_rf
  refine lv_aload_n hx hb dX10_meets_0 rfl (lv_at hl 0 rfl) ?_
  refine g_583 cx hw ha0 k_f_X10_61 dX10_meets_1 (fun v1 e1 h1 => ?_)
  refine o_cr hw (oRunV cx hA hw q_X1_begin k_m_X10_377 rfl h1 (by decide) (As := []) (c_X1_begin v1 h1) (by decide) rfl hl.1 rfl (Nat.le_of_ble_eq_true rfl) dX10_meets_4 (by decide)) (fun v3 σ2 H locs hp hw => ?_)
  obtain ⟨p3_0, p3_1⟩ := hp
  have fr := oFr_tr fr p3_0 (by decide)
  refine lv_astore_n (lv' := [(1, .ref v3), (0, .ref a0)]) hx hb dX10_meets_7 rfl hl (by decide) rfl (fun ls hl => ?_)
  refine lv_iconst (v := 0) hx hb dX10_meets_8 (by decide) ?_
  refine lv_istore_n (lv' := [(2, .int 0), (1, .ref v3), (0, .ref a0)]) hx hb dX10_meets_9 rfl hl (by decide) rfl (fun ls hl => ?_)
  have frE_10 := fr
  have J_10 : ∀ n10 : Nat, ∀ (j10_2 : Int32) (ij10_2 : Iv j10_2 0 101), ∀ (σ_10 : oSt) (H : Heap) (locs : List Loc), oI A L τ cy D s.heap σ_10 H locs → oFr τ fs_X10_meets ts_X10_meets σ σ_10 → (101 - j10_2.toInt).toNat < n10 → ∀ (ls : Array Slot), lv_has ls 4 [(0, .ref a0), (1, .ref v3), (2, .int j10_2)] → W p l e ({ frames := 4, cells := 0, slots := 0, locals := 101 } : Room) s m args below meth c H locs 0 0 Q (F0 m 10 ls []) := by
    intro n10
    induction n10 with
    | zero => intro j10_2 ij10_2 σ_10 H locs hw fr   hn_10   ls hl; exact absurd hn_10 (Nat.not_lt_zero _)
    | succ n10 ih_10 =>
      intro j10_2 ij10_2 σ_10 H locs hw fr   hn_10   ls hl
      have fr_10 := fr
      refine lv_iload_n hx hb dX10_meets_10 rfl (lv_at hl 2 rfl) ?_
      refine lv_bipush (v := 100) hx hb dX10_meets_11 (by decide) ?_
      refine lv_icmp_gt (tgt := 69) hx hb dX10_meets_13 (by decide) (fun c4 => ?_) (fun c4 => ?_)
      · --
        have i5 : Iv j10_2 101 101 := iv_lt2 c4 (⟨by decide, by decide⟩ : Iv 100 100 100) ij10_2 (by decide)
        refine lv_bipush (v := (-2)) hx hb dX10_meets_69 (by decide) ?_
        rw [← hQ]
        exact o_ri cx rx hw dX10_meets_71 ⟨fr, (iv_w (⟨by decide, by decide⟩ : Iv (-2) (-2) (-2)) (by decide))⟩
      · --
        have i6 : Iv j10_2 0 100 := iv_le1 (iv_nlt c4) ij10_2 (⟨by decide, by decide⟩ : Iv 100 100 100) (by decide)
        refine lv_iload_n hx hb dX10_meets_16 rfl (lv_at hl 2 rfl) ?_
        have frE_29 := fr
        have J_29 : ∀ (σ_29 : oSt) (H : Heap) (locs : List Loc), oI A L τ cy D s.heap σ_29 H locs → oFr τ fs_X10_meets ts_X10_meets σ σ_29 → ∀ (ls : Array Slot), lv_has ls 4 [(0, .ref a0), (1, .ref v3), (2, .int j10_2)] → W p l e ({ frames := 4, cells := 0, slots := 0, locals := 101 } : Room) s m args below meth c H locs 0 0 Q (F0 m 29 ls []) := by
          intro  σ_29 H locs hw fr      ls hl
          have fr_29 := fr
          refine lv_aload_n hx hb dX10_meets_29 rfl (lv_at hl 1 rfl) ?_
          refine lv_aload_n hx hb dX10_meets_30 rfl (lv_at hl 0 rfl) ?_
          refine g_580 cx hw ha0 k_f_X10_42 dX10_meets_31 (fun v7 e7 h7 => ?_)
          refine g_514 cx hw h7 k_f_X10_167 dX10_meets_34 (fun v8 e8 => ?_)
          refine o_ci hw (oRunV cx hA hw q_X6_sizeOfMeeting k_m_X10_367 rfl p3_1 (by decide) (As := [.int v8]) (c_X6_sizeOfMeeting v3 p3_1 v8) (by decide) rfl hl.1 rfl (Nat.le_of_ble_eq_true rfl) dX10_meets_37 (by decide)) (fun v10 σ9 H locs hp hw => ?_)
          obtain ⟨p10_0, p10_1⟩ := hp
          rw [p10_0] at hw
          refine lv_istore_n (lv' := [(3, .int v10), (0, .ref a0), (1, .ref v3), (2, .int j10_2)]) hx hb dX10_meets_40 rfl hl (by decide) rfl (fun ls hl => ?_)
          refine lv_iload_n hx hb dX10_meets_41 rfl (lv_at hl 0 rfl) ?_
          refine lv_if_le (tgt := 63) hx hb dX10_meets_42 (by decide) (fun c11 => ?_) (fun c11 => ?_)
          · --
            obtain ⟨v12, e12⟩ : ∃ y : Int32, y = j10_2 + 1 := ⟨_, rfl⟩
            have i12 : Iv v12 1 101 := iv_add e12 i6 (⟨by decide, by decide⟩ : Iv 1 1 1) (by decide)
            have x12 : v12.toInt = j10_2.toInt + 1 := ex_add e12 i6 (⟨by decide, by decide⟩ : Iv 1 1 1) (by decide)
            refine lv_iinc (v := v12) (lv' := [(2, .int v12), (3, .int v10), (0, .ref a0), (1, .ref v3)]) hx hb dX10_meets_63 hl (k := 3) rfl (by rw [e12]; rfl) (by decide) rfl (fun ls hl => ?_)
            refine lv_goto (tgt := 10) hx hb dX10_meets_66 (by decide) ?_
            exact ih_10 v12 (iv_w i12 (by decide)) σ_29 _ _ hw fr (ms_up x12 (by decide) (iv_w (a' := 0) (b' := 101) i12 (by decide)).2 hn_10) _ (lv_sub hl [2, 3, 0] rfl)
          · --
            exact iv_no (iv_lt1 (b' := (-1)) (iv_nle c11) (⟨by decide, by decide⟩ : Iv 0 0 0) p10_1 (by decide)) (by decide)
        refine lv_if_le (tgt := 29) hx hb dX10_meets_17 (by decide) (fun c13 => ?_) (fun c13 => ?_)
        · --
          have i14 : Iv j10_2 0 0 := iv_le1 c13 i6 (⟨by decide, by decide⟩ : Iv 0 0 0) (by decide)
          exact J_29 σ_10 _ _ hw fr _ (lv_sub hl [0, 1, 2] rfl)
        · --
          have i15 : Iv j10_2 1 100 := iv_lt2 (iv_nle c13) (⟨by decide, by decide⟩ : Iv 0 0 0) i6 (by decide)
          refine lv_aload_n hx hb dX10_meets_20 rfl (lv_at hl 0 rfl) ?_
          refine g_580 cx hw ha0 k_f_X10_42 dX10_meets_21 (fun v16 e16 h16 => ?_)
          refine lv_aload_n hx hb dX10_meets_24 rfl (lv_at hl 1 rfl) ?_
          refine o_ci hw (oRunV cx hA hw q_X9_pass k_m_X10_269 rfl h16 (by decide) (As := [.ref v3]) (c_X9_pass v16 h16 v3 p3_1 (hz_fr hz fr (by decide))) (by decide) rfl hl.1 rfl (Nat.le_of_ble_eq_true rfl) dX10_meets_25 (by decide)) (fun v18 σ17 H locs hp hw => ?_)
          obtain ⟨p18_0, p18_1⟩ := hp
          have fr := oFr_tr fr p18_0 (by decide)
          refine lv_pop hx hb dX10_meets_28 rfl ?_
          exact J_29 σ17 _ _ hw fr _ (lv_sub hl [0, 1, 2] rfl)
  exact J_10 _ 0 (iv_w (⟨by decide, by decide⟩ : Iv 0 0 0) (by decide)) σ2 _ _ hw fr (Nat.lt_succ_self _) _ (lv_sub hl [2, 1, 0] rfl)
set_option maxHeartbeats 4000000 in
set_option maxRecDepth 100000 in
theorem c_X10_round (a0 : Nat) (ha0 : oA L τ a0 9) (a1 : Int32) (hz : HZ L τ σ) : oMet l A L τ cy D K yX10_round cX10_round 4 (some .int) 1 21 [.ref a0, .int a1] σ (va_Qi (fun r σ1 => σ1 = σ ∧ Iv r (-1) (-1)) (oPo A L τ cy D) A) := by
  refine oMk (by decide) (Nat.le_of_ble_eq_true rfl) rfl ?_
  intro p e s m args below meth c ls cx rx hA hw hl
  generalize hQ : MQ below _ args s 0 0 A = Q
  have hx := cx.1.1
  have hb := cx.1.2.1
  have hml := cx.1.2.2.1
  have hown := cx.1.2.2.2.1
  have hts := cx.1.2.2.2.2
  have hl : lv_has ls 4 [(0, .ref a0), (1, .int a1)] := hl
  refine lv_aload_n hx hb dX10_round_0 rfl (lv_at hl 0 rfl) ?_
  refine g_581 cx hw ha0 k_f_X10_49 dX10_round_1 (fun v1 e1 h1 => ?_)
  refine lv_iload_n hx hb dX10_round_4 rfl (lv_at hl 1 rfl) ?_
  refine o_ci hw (oRunV cx hA hw q_X6_hasHerd k_m_X10_178 rfl h1 (by decide) (As := [.int a1]) (c_X6_hasHerd v1 h1 a1) (by decide) rfl hl.1 rfl (Nat.le_of_ble_eq_true rfl) dX10_round_5 (by decide)) (fun v3 σ2 H locs hp hw => ?_)
  obtain ⟨p3_0, p3_1, p3_2⟩ := hp
  rw [p3_0] at hw
  refine lv_if_ne (tgt := 13) hx hb dX10_round_8 (by decide) (fun c4 => ?_) (fun c4 => ?_)
  · --
    exact iv_no (iv_ne1 c4 p3_1 (⟨by decide, by decide⟩ : Iv 0 0 0) (by decide)) (by decide)
  · --
    refine lv_iconst (v := (-1)) hx hb dX10_round_11 (by decide) ?_
    rw [← hQ]
    exact o_ri cx rx hw dX10_round_12 ⟨rfl, (iv_w (⟨by decide, by decide⟩ : Iv (-1) (-1) (-1)) (by decide))⟩
set_option maxHeartbeats 4000000 in
set_option maxRecDepth 100000 in
theorem c_X10_lure (a0 : Nat) (ha0 : oA L τ a0 9) (a1 : Int32) (a2 : Int32) (hz : HZ L τ σ) : oMet l A L τ cy D K yX10_lure cX10_lure 5 (some .int) 2 43 [.ref a0, .int a1, .int a2] σ (va_Qi (fun r σ1 => σ1 = σ ∧ Iv r (-1) (-1)) (oPo A L τ cy D) A) := by
  refine oMk (by decide) (Nat.le_of_ble_eq_true rfl) rfl ?_
  intro p e s m args below meth c ls cx rx hA hw hl
  generalize hQ : MQ below _ args s 0 0 A = Q
  have hx := cx.1.1
  have hb := cx.1.2.1
  have hml := cx.1.2.2.1
  have hown := cx.1.2.2.2.1
  have hts := cx.1.2.2.2.2
  have hl : lv_has ls 5 [(0, .ref a0), (1, .int a1), (2, .int a2)] := hl
  refine lv_aload_n hx hb dX10_lure_0 rfl (lv_at hl 0 rfl) ?_
  refine g_578 cx hw ha0 k_f_X10_26 dX10_lure_1 (fun v1 e1 h1 => ?_)
  refine lv_iload_n hx hb dX10_lure_4 rfl (lv_at hl 1 rfl) ?_
  refine o_ci hw (oRunV cx hA hw q_X2_isThere k_m_X10_135 rfl h1 (by decide) (As := [.int a1]) (c_X2_isThere v1 h1 a1 hz) (by decide) rfl hl.1 rfl (Nat.le_of_ble_eq_true rfl) dX10_lure_5 (by decide)) (fun v3 σ2 H locs hp hw => ?_)
  obtain ⟨p3_0, p3_1⟩ := hp
  rw [p3_0] at hw
  refine lv_if_eq (tgt := 22) hx hb dX10_lure_8 (by decide) (fun c4 => ?_) (fun c4 => ?_)
  · --
    refine lv_iconst (v := (-1)) hx hb dX10_lure_22 (by decide) ?_
    rw [← hQ]
    exact o_ri cx rx hw dX10_lure_23 ⟨rfl, (iv_w (⟨by decide, by decide⟩ : Iv (-1) (-1) (-1)) (by decide))⟩
  · --
    exact iv_no (iv_ne1 c4 p3_1 (⟨by decide, by decide⟩ : Iv 0 0 0) (by decide)) (by decide)
set_option maxHeartbeats 4000000 in
set_option maxRecDepth 100000 in
theorem c_X10_hedge (a0 : Nat) (ha0 : oA L τ a0 9) (a1 : Int32) (a2 : Int32) (hz : HZ L τ σ) : oMet l A L τ cy D K yX10_hedge cX10_hedge 3 (some .int) 2 43 [.ref a0, .int a1, .int a2] σ (va_Qi (fun r σ1 => σ1 = σ ∧ Iv r (-1) (-1)) (oPo A L τ cy D) A) := by
  refine oMk (by decide) (Nat.le_of_ble_eq_true rfl) rfl ?_
  intro p e s m args below meth c ls cx rx hA hw hl
  generalize hQ : MQ below _ args s 0 0 A = Q
  have hx := cx.1.1
  have hb := cx.1.2.1
  have hml := cx.1.2.2.1
  have hown := cx.1.2.2.2.1
  have hts := cx.1.2.2.2.2
  have hl : lv_has ls 3 [(0, .ref a0), (1, .int a1), (2, .int a2)] := hl
  refine lv_aload_n hx hb dX10_hedge_0 rfl (lv_at hl 0 rfl) ?_
  refine g_578 cx hw ha0 k_f_X10_26 dX10_hedge_1 (fun v1 e1 h1 => ?_)
  refine lv_iload_n hx hb dX10_hedge_4 rfl (lv_at hl 1 rfl) ?_
  refine o_ci hw (oRunV cx hA hw q_X2_isThere k_m_X10_135 rfl h1 (by decide) (As := [.int a1]) (c_X2_isThere v1 h1 a1 hz) (by decide) rfl hl.1 rfl (Nat.le_of_ble_eq_true rfl) dX10_hedge_5 (by decide)) (fun v3 σ2 H locs hp hw => ?_)
  obtain ⟨p3_0, p3_1⟩ := hp
  rw [p3_0] at hw
  refine lv_if_eq (tgt := 22) hx hb dX10_hedge_8 (by decide) (fun c4 => ?_) (fun c4 => ?_)
  · --
    refine lv_iconst (v := (-1)) hx hb dX10_hedge_22 (by decide) ?_
    rw [← hQ]
    exact o_ri cx rx hw dX10_hedge_23 ⟨rfl, (iv_w (⟨by decide, by decide⟩ : Iv (-1) (-1) (-1)) (by decide))⟩
  · --
    exact iv_no (iv_ne1 c4 p3_1 (⟨by decide, by decide⟩ : Iv 0 0 0) (by decide)) (by decide)
set_option maxHeartbeats 4000000 in
set_option maxRecDepth 100000 in
theorem c_X10_gates (a0 : Nat) (ha0 : oA L τ a0 9) (a1 : Int32) (a2 : Int32) (a3 : Int32) (hz : HZ L τ σ) : oMet l A L τ cy D K yX10_gates cX10_gates 10 (some .int) 1 21 [.ref a0, .int a1, .int a2, .int a3] σ (va_Qi (fun r σ1 => σ1 = σ ∧ Iv r (-1) (-1)) (oPo A L τ cy D) A) := by
  refine oMk (by decide) (Nat.le_of_ble_eq_true rfl) rfl ?_
  intro p e s m args below meth c ls cx rx hA hw hl
  generalize hQ : MQ below _ args s 0 0 A = Q
  have hx := cx.1.1
  have hb := cx.1.2.1
  have hml := cx.1.2.2.1
  have hown := cx.1.2.2.2.1
  have hts := cx.1.2.2.2.2
  have hl : lv_has ls 10 [(0, .ref a0), (1, .int a1), (2, .int a2), (3, .int a3)] := hl
  refine lv_aload_n hx hb dX10_gates_0 rfl (lv_at hl 0 rfl) ?_
  refine g_581 cx hw ha0 k_f_X10_49 dX10_gates_1 (fun v1 e1 h1 => ?_)
  refine lv_iload_n hx hb dX10_gates_4 rfl (lv_at hl 1 rfl) ?_
  refine o_ci hw (oRunV cx hA hw q_X6_hasHerd k_m_X10_178 rfl h1 (by decide) (As := [.int a1]) (c_X6_hasHerd v1 h1 a1) (by decide) rfl hl.1 rfl (Nat.le_of_ble_eq_true rfl) dX10_gates_5 (by decide)) (fun v3 σ2 H locs hp hw => ?_)
  obtain ⟨p3_0, p3_1, p3_2⟩ := hp
  rw [p3_0] at hw
  refine lv_if_eq (tgt := 33) hx hb dX10_gates_8 (by decide) (fun c4 => ?_) (fun c4 => ?_)
  · --
    refine lv_iconst (v := (-1)) hx hb dX10_gates_33 (by decide) ?_
    rw [← hQ]
    exact o_ri cx rx hw dX10_gates_34 ⟨rfl, (iv_w (⟨by decide, by decide⟩ : Iv (-1) (-1) (-1)) (by decide))⟩
  · --
    exact iv_no (iv_ne1 c4 p3_1 (⟨by decide, by decide⟩ : Iv 0 0 0) (by decide)) (by decide)
set_option maxHeartbeats 4000000 in
set_option maxRecDepth 100000 in
theorem c_X10_ways (a0 : Nat) (ha0 : oA L τ a0 9) (a1 : Int32) (a2 : Int32) (a3 : Int32) (hz : HZ L τ σ) : oMet l A L τ cy D K yX10_ways cX10_ways 7 (some .int) 2 43 [.ref a0, .int a1, .int a2, .int a3] σ (va_Qi (fun r σ1 => σ1 = σ ∧ Iv r (-1) (-1)) (oPo A L τ cy D) A) := by
  refine oMk (by decide) (Nat.le_of_ble_eq_true rfl) rfl ?_
  intro p e s m args below meth c ls cx rx hA hw hl
  generalize hQ : MQ below _ args s 0 0 A = Q
  have hx := cx.1.1
  have hb := cx.1.2.1
  have hml := cx.1.2.2.1
  have hown := cx.1.2.2.2.1
  have hts := cx.1.2.2.2.2
  have hl : lv_has ls 7 [(0, .ref a0), (1, .int a1), (2, .int a2), (3, .int a3)] := hl
  refine lv_aload_n hx hb dX10_ways_0 rfl (lv_at hl 0 rfl) ?_
  refine g_578 cx hw ha0 k_f_X10_26 dX10_ways_1 (fun v1 e1 h1 => ?_)
  refine lv_iload_n hx hb dX10_ways_4 rfl (lv_at hl 1 rfl) ?_
  refine o_ci hw (oRunV cx hA hw q_X2_isThere k_m_X10_135 rfl h1 (by decide) (As := [.int a1]) (c_X2_isThere v1 h1 a1 hz) (by decide) rfl hl.1 rfl (Nat.le_of_ble_eq_true rfl) dX10_ways_5 (by decide)) (fun v3 σ2 H locs hp hw => ?_)
  obtain ⟨p3_0, p3_1⟩ := hp
  rw [p3_0] at hw
  refine lv_if_eq (tgt := 32) hx hb dX10_ways_8 (by decide) (fun c4 => ?_) (fun c4 => ?_)
  · --
    refine lv_iconst (v := (-1)) hx hb dX10_ways_32 (by decide) ?_
    rw [← hQ]
    exact o_ri cx rx hw dX10_ways_33 ⟨rfl, (iv_w (⟨by decide, by decide⟩ : Iv (-1) (-1) (-1)) (by decide))⟩
  · --
    exact iv_no (iv_ne1 c4 p3_1 (⟨by decide, by decide⟩ : Iv 0 0 0) (by decide)) (by decide)
abbrev fs_X10_bride : List Nat := [385, 386, 387]
abbrev ts_X10_bride : List Nat := []
set_option maxHeartbeats 4000000 in
set_option maxRecDepth 100000 in
theorem c_X10_bride (a0 : Nat) (ha0 : oA L τ a0 9) (hb576_385 : ∀ b, σ.2.2.2.2 576 a0 = some b → Iv (σ.1 385 b) 0 0) : oMet l A L τ cy D K yX10_bride cX10_bride 3 (some .int) 5 110 [.ref a0] σ (va_Qi (fun r σ1 => oFr τ fs_X10_bride ts_X10_bride σ σ1 ∧ Iv r (-1) (-1) ∧ (∀ b, σ.2.2.2.2 576 a0 = some b → Iv (σ1.1 385 b) 0 0)) (oPo A L τ cy D) A) := by
  refine oMk (by decide) (Nat.le_of_ble_eq_true rfl) rfl ?_
  intro p e s m args below meth c ls cx rx hA hw hl
  generalize hQ : MQ below _ args s 0 0 A = Q
  have hx := cx.1.1
  have hb := cx.1.2.1
  have hml := cx.1.2.2.1
  have hown := cx.1.2.2.2.1
  have hts := cx.1.2.2.2.2
  have hl : lv_has ls 3 [(0, .ref a0)] := hl
  have fr : oFr τ fs_X10_bride ts_X10_bride σ σ := oFr_rf
  obtain ⟨b576, hF576, hb576⟩ := hw.2.2.2.2.2 576 a0 6 (by rw [ha0.2]; rfl) ha0.1
  have zb576_385 := hb576_385 b576 hF576
  refine lv_aload_n hx hb dX10_bride_0 rfl (lv_at hl 0 rfl) ?_
  refine g_576 cx hw ha0 k_f_X10_10 dX10_bride_1 (fun v1 e1 h1 => ?_)
  rw [show v1 = b576 from Option.some.inj (e1.symm.trans (hF576))]
  refine lv_bipush (v := 80) hx hb dX10_bride_4 (by decide) ?_
  refine o_cv hw (oRunV cx hA hw q_X7_begin k_m_X10_220 rfl hb576 (by decide) (As := [.int 80]) (c_X7_begin b576 hb576 80) (by decide) rfl hl.1 rfl (Nat.le_of_ble_eq_true rfl) dX10_bride_6 (by decide)) (fun σ2 H locs hp hw => ?_)
  obtain ⟨p3_0, p3_1⟩ := hp
  have fr := oFr_tr fr p3_0 (by decide)
  refine lv_aload_n hx hb dX10_bride_9 rfl (lv_at hl 0 rfl) ?_
  have i4 : Iv (σ2.1 386 b576) 0 0 := (by have := (zb576_385).1; have := (zb576_385).2; have : (σ2.1 385 b576).toInt = ((σ.1 385 b576) : Int32).toInt := congrArg Int32.toInt (show σ2.1 385 b576 = (σ.1 385 b576) from ((kp_c p3_0 (by decide)).trans rfl)); have : (80 : Int32).toInt = 80 := (by decide); exact ⟨by omega, by omega⟩)
  have i5 : Iv (σ2.1 387 b576) 0 80 := (by have := (zb576_385).1; have := (zb576_385).2; have := (i4).1; have := (i4).2; have : (σ2.1 385 b576).toInt = ((σ.1 385 b576) : Int32).toInt := congrArg Int32.toInt (show σ2.1 385 b576 = (σ.1 385 b576) from ((kp_c p3_0 (by decide)).trans rfl)); have : (80 : Int32).toInt = 80 := (by decide); exact ⟨by omega, by omega⟩)
  refine o_ci hw (oRunV cx hA hw q_X10_faultOfSightings k_m_X10_435 rfl ha0 (by decide) (As := []) (c_X10_faultOfSightings a0 ha0 (fun b q => by rw [show b = b576 from Option.some.inj (q.symm.trans (((kr_c p3_0 (by decide)).trans hF576)))]; exact kn_iv (((kp_c p3_0 (by decide)).trans rfl)) (iv_w zb576_385 (by decide))) (fun b q => by rw [show b = b576 from Option.some.inj (q.symm.trans (((kr_c p3_0 (by decide)).trans hF576)))]; exact kn_iv (rfl) (iv_w i4 (by decide))) (fun b q => by rw [show b = b576 from Option.some.inj (q.symm.trans (((kr_c p3_0 (by decide)).trans hF576)))]; exact kn_iv (rfl) (iv_w i5 (by decide)))) (by decide) rfl hl.1 rfl (Nat.le_of_ble_eq_true rfl) dX10_bride_10 (by decide)) (fun v7 σ6 H locs hp hw => ?_)
  obtain ⟨p7_0, p7_1⟩ := hp
  have fr := oFr_tr fr p7_0 (by decide)
  refine lv_istore_n (lv' := [(1, .int v7), (0, .ref a0)]) hx hb dX10_bride_13 rfl hl (by decide) rfl (fun ls hl => ?_)
  refine lv_iload_n hx hb dX10_bride_14 rfl (lv_at hl 0 rfl) ?_
  refine lv_if_ne (tgt := 25) hx hb dX10_bride_15 (by decide) (fun c8 => ?_) (fun c8 => ?_)
  · --
    refine lv_iload_n hx hb dX10_bride_25 rfl (lv_at hl 0 rfl) ?_
    refine lv_istore_n (lv' := [(2, .int v7), (1, .int v7), (0, .ref a0)]) hx hb dX10_bride_26 rfl hl (by decide) rfl (fun ls hl => ?_)
    refine lv_aload_n hx hb dX10_bride_27 rfl (lv_at hl 2 rfl) ?_
    refine g_576 cx hw ha0 k_f_X10_10 dX10_bride_28 (fun v9 e9 h9 => ?_)
    rw [show v9 = b576 from Option.some.inj (e9.symm.trans (((kr_c p7_0 (by decide)).trans ((kr_c p3_0 (by decide)).trans hF576))))]
    refine o_cv hw (oRunV cx hA hw q_X7_empty k_m_X10_93 rfl hb576 (by decide) (As := []) (c_X7_empty b576 hb576) (by decide) rfl hl.1 rfl (Nat.le_of_ble_eq_true rfl) dX10_bride_31 (by decide)) (fun σ10 H locs hp hw => ?_)
    obtain ⟨p11_0, p11_1⟩ := hp
    have fr := oFr_tr fr p11_0 (by decide)
    refine lv_iload_n hx hb dX10_bride_34 rfl (lv_at hl 0 rfl) ?_
    rw [← hQ]
    exact o_ri cx rx hw dX10_bride_35 ⟨fr, (iv_w p7_1 (by decide)), (by intro b hb9; rw [show b = b576 from Option.some.inj (hb9.symm.trans ((kr_c fr (by decide)).symm.trans (((kr_c p11_0 (by decide)).trans ((kr_c p7_0 (by decide)).trans ((kr_c p3_0 (by decide)).trans hF576))))))]; exact (kn_iv (rfl) (iv_w p11_1 (by decide))))⟩
  · --
    exact iv_no (iv_eq1 (lo := 0) (hi := (-1)) c8 p7_1 (⟨by decide, by decide⟩ : Iv 0 0 0) (by decide)) (by decide)
set_option maxHeartbeats 4000000 in
set_option maxRecDepth 100000 in
theorem c_X10_lost (a0 : Nat) (ha0 : oA L τ a0 9) (a1 : Int32) (a2 : Int32) (a3 : Int32) (hz : HZ L τ σ) : oMet l A L τ cy D K yX10_lost cX10_lost 6 (some .int) 2 43 [.ref a0, .int a1, .int a2, .int a3] σ (va_Qi (fun r σ1 => σ1 = σ ∧ Iv r (-1) (-1)) (oPo A L τ cy D) A) := by
  refine oMk (by decide) (Nat.le_of_ble_eq_true rfl) rfl ?_
  intro p e s m args below meth c ls cx rx hA hw hl
  generalize hQ : MQ below _ args s 0 0 A = Q
  have hx := cx.1.1
  have hb := cx.1.2.1
  have hml := cx.1.2.2.1
  have hown := cx.1.2.2.2.1
  have hts := cx.1.2.2.2.2
  have hl : lv_has ls 6 [(0, .ref a0), (1, .int a1), (2, .int a2), (3, .int a3)] := hl
  refine lv_aload_n hx hb dX10_lost_0 rfl (lv_at hl 0 rfl) ?_
  refine g_578 cx hw ha0 k_f_X10_26 dX10_lost_1 (fun v1 e1 h1 => ?_)
  refine lv_iload_n hx hb dX10_lost_4 rfl (lv_at hl 1 rfl) ?_
  refine o_ci hw (oRunV cx hA hw q_X2_isThere k_m_X10_135 rfl h1 (by decide) (As := [.int a1]) (c_X2_isThere v1 h1 a1 hz) (by decide) rfl hl.1 rfl (Nat.le_of_ble_eq_true rfl) dX10_lost_5 (by decide)) (fun v3 σ2 H locs hp hw => ?_)
  obtain ⟨p3_0, p3_1⟩ := hp
  rw [p3_0] at hw
  refine lv_if_eq (tgt := 32) hx hb dX10_lost_8 (by decide) (fun c4 => ?_) (fun c4 => ?_)
  · --
    refine lv_iconst (v := (-1)) hx hb dX10_lost_32 (by decide) ?_
    rw [← hQ]
    exact o_ri cx rx hw dX10_lost_33 ⟨rfl, (iv_w (⟨by decide, by decide⟩ : Iv (-1) (-1) (-1)) (by decide))⟩
  · --
    exact iv_no (iv_ne1 c4 p3_1 (⟨by decide, by decide⟩ : Iv 0 0 0) (by decide)) (by decide)
set_option maxHeartbeats 4000000 in
set_option maxRecDepth 100000 in
theorem c_X10_letter (a0 : Nat) (ha0 : oA L τ a0 9) (a1 : Int32) (hz : HZ L τ σ) : oMet l A L τ cy D K yX10_letter cX10_letter 5 (some .int) 2 43 [.ref a0, .int a1] σ (va_Qi (fun r σ1 => σ1 = σ ∧ Iv r (-1) (-1)) (oPo A L τ cy D) A) := by
  refine oMk (by decide) (Nat.le_of_ble_eq_true rfl) rfl ?_
  intro p e s m args below meth c ls cx rx hA hw hl
  generalize hQ : MQ below _ args s 0 0 A = Q
  have hx := cx.1.1
  have hb := cx.1.2.1
  have hml := cx.1.2.2.1
  have hown := cx.1.2.2.2.1
  have hts := cx.1.2.2.2.2
  have hl : lv_has ls 5 [(0, .ref a0), (1, .int a1)] := hl
  refine lv_aload_n hx hb dX10_letter_0 rfl (lv_at hl 0 rfl) ?_
  refine g_578 cx hw ha0 k_f_X10_26 dX10_letter_1 (fun v1 e1 h1 => ?_)
  refine lv_iload_n hx hb dX10_letter_4 rfl (lv_at hl 1 rfl) ?_
  refine o_ci hw (oRunV cx hA hw q_X2_isThere k_m_X10_135 rfl h1 (by decide) (As := [.int a1]) (c_X2_isThere v1 h1 a1 hz) (by decide) rfl hl.1 rfl (Nat.le_of_ble_eq_true rfl) dX10_letter_5 (by decide)) (fun v3 σ2 H locs hp hw => ?_)
  obtain ⟨p3_0, p3_1⟩ := hp
  rw [p3_0] at hw
  refine lv_if_ne (tgt := 13) hx hb dX10_letter_8 (by decide) (fun c4 => ?_) (fun c4 => ?_)
  · --
    exact iv_no (iv_ne1 c4 p3_1 (⟨by decide, by decide⟩ : Iv 0 0 0) (by decide)) (by decide)
  · --
    refine lv_iconst (v := (-1)) hx hb dX10_letter_11 (by decide) ?_
    rw [← hQ]
    exact o_ri cx rx hw dX10_letter_12 ⟨rfl, (iv_w (⟨by decide, by decide⟩ : Iv (-1) (-1) (-1)) (by decide))⟩
abbrev fs_X10_snow : List Nat := [588, 589]
abbrev ts_X10_snow : List Nat := []
set_option maxHeartbeats 4000000 in
set_option maxRecDepth 100000 in
theorem c_X10_snow (a0 : Nat) (ha0 : oA L τ a0 9) : oMet l A L τ cy D K yX10_snow cX10_snow 1 (some .int) 3 66 [.ref a0] σ (va_Qi (fun r σ1 => oFr τ fs_X10_snow ts_X10_snow σ σ1 ∧ Iv r 0 0) (oPo A L τ cy D) A) := by
  refine oMk (by decide) (Nat.le_of_ble_eq_true rfl) rfl ?_
  intro p e s m args below meth c ls cx rx hA hw hl
  generalize hQ : MQ below _ args s 0 0 A = Q
  have hx := cx.1.1
  have hb := cx.1.2.1
  have hml := cx.1.2.2.1
  have hown := cx.1.2.2.2.1
  have hts := cx.1.2.2.2.2
  have hl : lv_has ls 1 [(0, .ref a0)] := hl
  have fr : oFr τ fs_X10_snow ts_X10_snow σ σ := oFr_rf
  refine lv_aload_n hx hb dX10_snow_0 rfl (lv_at hl 0 rfl) ?_
  refine lv_iconst (v := 1) hx hb dX10_snow_1 (by decide) ?_
  refine p_588 cx hw ha0 (iv_w (⟨by decide, by decide⟩ : Iv 1 1 1) (by decide)) k_f_X10_117 dX10_snow_2 (fun σ1 H locs eσ1 hw => ?_)
  have fr := oFr_i fr eσ1 (by decide)
  refine lv_aload_n hx hb dX10_snow_5 rfl (lv_at hl 0 rfl) ?_
  refine lv_aload_n hx hb dX10_snow_6 rfl (lv_at hl 0 rfl) ?_
  refine o_cl hw (oRunV cx hA hw q_X10_roadNow k_m_X10_335 rfl ha0 (by decide) (As := []) (c_X10_roadNow a0 ha0) (by decide) rfl hl.1 rfl (Nat.le_of_ble_eq_true rfl) dX10_snow_7 (by decide)) (fun v3 σ2 H locs hp hw => ?_)
  obtain ⟨p3_0, p3_1⟩ := hp
  rw [p3_0] at hw
  rw [p3_1]
  refine p_589 cx hw ha0 k_f_X10_452 dX10_snow_10 (fun σ4 H locs eσ4 hw => ?_)
  have fr := oFr_l fr eσ4 (by decide)
  refine lv_aload_n hx hb dX10_snow_13 rfl (lv_at hl 0 rfl) ?_
  refine g_589 cx hw ha0 k_f_X10_452 dX10_snow_14 (fun v5 e5 => ?_)
  rw [show v5 = 0 from e5.trans ((rfl).trans (kl_s eσ4))]
  refine o_ci hw (oRunS cx hA hw q_J13_bitCount_95d88 k_m_X10_349 (As := [.long 0]) (c_J13_bitCount_95d88Z 0 rfl) (by decide) rfl hl.1 rfl (Nat.le_of_ble_eq_true rfl) dX10_snow_17 (by decide)) (fun v7 σ6 H locs hp hw => ?_)
  obtain ⟨p7_0, p7_1⟩ := hp
  rw [p7_0] at hw
  rw [← hQ]
  exact o_ri cx rx hw dX10_snow_20 ⟨fr, (iv_w p7_1 (by decide))⟩
set_option maxHeartbeats 4000000 in
set_option maxRecDepth 100000 in
theorem c_X10_thaw (a0 : Nat) (ha0 : oA L τ a0 9) (hf588 : Iv (σ.1 588 a0) 0 0) : oMet l A L τ cy D K yX10_thaw cX10_thaw 3 (some .int) 0 0 [.ref a0] σ (va_Qi (fun r σ1 => σ1 = σ ∧ Iv r (-2) (-2)) (oPo A L τ cy D) A) := by
  refine oMk (by decide) (Nat.le_of_ble_eq_true rfl) rfl ?_
  intro p e s m args below meth c ls cx rx hA hw hl
  generalize hQ : MQ below _ args s 0 0 A = Q
  have hx := cx.1.1
  have hb := cx.1.2.1
  have hml := cx.1.2.2.1
  have hown := cx.1.2.2.2.1
  have hts := cx.1.2.2.2.2
  have hl : lv_has ls 3 [(0, .ref a0)] := hl
  refine lv_aload_n hx hb dX10_thaw_0 rfl (lv_at hl 0 rfl) ?_
  refine g_588 cx hw ha0 k_f_X10_117 dX10_thaw_1 (fun v1 e1 => ?_)
  rw [show v1 = (σ.1 588 a0) from e1.trans rfl]
  refine lv_if_ne (tgt := 10) hx hb dX10_thaw_4 (by decide) (fun c2 => ?_) (fun c2 => ?_)
  · --
    exact iv_no (iv_ne1 c2 hf588 (⟨by decide, by decide⟩ : Iv 0 0 0) (by decide)) (by decide)
  · --
    refine lv_bipush (v := (-2)) hx hb dX10_thaw_7 (by decide) ?_
    rw [← hQ]
    exact o_ri cx rx hw dX10_thaw_9 ⟨rfl, (iv_w (⟨by decide, by decide⟩ : Iv (-2) (-2) (-2)) (by decide))⟩
set_option maxHeartbeats 4000000 in
set_option maxRecDepth 100000 in
theorem c_X10_season (a0 : Nat) (ha0 : oA L τ a0 9) (a1 : Int32) (a2 : Int32) (hz : HZ L τ σ) : oMet l A L τ cy D K yX10_season cX10_season 8 (some .int) 0 0 [.ref a0, .int a1, .int a2] σ (va_Qi (fun r σ1 => σ1 = σ ∧ Iv r (-1) (-1)) (oPo A L τ cy D) A) := by
  refine oMk (by decide) (Nat.le_of_ble_eq_true rfl) rfl ?_
  intro p e s m args below meth c ls cx rx hA hw hl
  generalize hQ : MQ below _ args s 0 0 A = Q
  have hx := cx.1.1
  have hb := cx.1.2.1
  have hml := cx.1.2.2.1
  have hown := cx.1.2.2.2.1
  have hts := cx.1.2.2.2.2
  have hl : lv_has ls 8 [(0, .ref a0), (1, .int a1), (2, .int a2)] := hl
  refine lv_aload_n hx hb dX10_season_0 rfl (lv_at hl 0 rfl) ?_
  refine g_578 cx hw ha0 k_f_X10_26 dX10_season_1 (fun v1 e1 h1 => ?_)
  refine g_64 cx hw h1 k_f_X10_121 dX10_season_4 (fun v2 e2 i2 => ?_)
  refine lv_aload_n hx hb dX10_season_7 rfl (lv_at hl 0 rfl) ?_
  refine g_578 cx hw ha0 k_f_X10_26 dX10_season_8 (fun v3 e3 h3 => ?_)
  rw [show v3 = v1 from Option.some.inj (e3.symm.trans (e1))]
  refine g_65 cx hw h1 k_f_X10_124 dX10_season_11 (fun v4 e4 i4 => ?_)
  refine lv_imul hx hb dX10_season_14 ?_
  refine lv_topi (fun v5 e5 => ?_)
  have i5 : Iv v5 0 0 := iv_mul e5 i2 i4 (by decide)
  refine lv_istore_n (lv' := [(3, .int v5), (0, .ref a0), (1, .int a1), (2, .int a2)]) hx hb dX10_season_15 rfl hl (by decide) rfl (fun ls hl => ?_)
  refine lv_iload_n hx hb dX10_season_16 rfl (lv_at hl 3 rfl) ?_
  refine lv_iconst (v := 1) hx hb dX10_season_17 (by decide) ?_
  refine lv_icmp_lt (tgt := 32) hx hb dX10_season_18 (by decide) (fun c6 => ?_) (fun c6 => ?_)
  · --
    have i7 : Iv a2 (-2147483648) 0 := iv_lt1 c6 (iv_top a2) (⟨by decide, by decide⟩ : Iv 1 1 1) (by decide)
    refine lv_iconst (v := (-1)) hx hb dX10_season_32 (by decide) ?_
    rw [← hQ]
    exact o_ri cx rx hw dX10_season_33 ⟨rfl, (iv_w (⟨by decide, by decide⟩ : Iv (-1) (-1) (-1)) (by decide))⟩
  · --
    have i8 : Iv a2 1 2147483647 := iv_le2 (iv_nlt c6) (⟨by decide, by decide⟩ : Iv 1 1 1) (iv_top a2) (by decide)
    refine lv_iload_n hx hb dX10_season_21 rfl (lv_at hl 3 rfl) ?_
    refine lv_bipush (v := 60) hx hb dX10_season_22 (by decide) ?_
    refine lv_icmp_gt (tgt := 32) hx hb dX10_season_24 (by decide) (fun c9 => ?_) (fun c9 => ?_)
    · --
      have i10 : Iv a2 61 2147483647 := iv_lt2 c9 (⟨by decide, by decide⟩ : Iv 60 60 60) i8 (by decide)
      refine lv_iconst (v := (-1)) hx hb dX10_season_32 (by decide) ?_
      rw [← hQ]
      exact o_ri cx rx hw dX10_season_33 ⟨rfl, (iv_w (⟨by decide, by decide⟩ : Iv (-1) (-1) (-1)) (by decide))⟩
    · --
      have i11 : Iv a2 1 60 := iv_le1 (iv_nlt c9) i8 (⟨by decide, by decide⟩ : Iv 60 60 60) (by decide)
      refine lv_iload_n hx hb dX10_season_27 rfl (lv_at hl 0 rfl) ?_
      refine lv_iconst (v := 1) hx hb dX10_season_28 (by decide) ?_
      refine lv_icmp_ge (tgt := 34) hx hb dX10_season_29 (by decide) (fun c12 => ?_) (fun c12 => ?_)
      · --
        exact iv_no (iv_le1 (b' := 0) c12 (⟨by decide, by decide⟩ : Iv 1 1 1) i5 (by decide)) (by decide)
      · --
        refine lv_iconst (v := (-1)) hx hb dX10_season_32 (by decide) ?_
        rw [← hQ]
        exact o_ri cx rx hw dX10_season_33 ⟨rfl, (iv_w (⟨by decide, by decide⟩ : Iv (-1) (-1) (-1)) (by decide))⟩
abbrev fs_X10_keep : List Nat := [327, 328, 329, 330, 331, 587]
abbrev ts_X10_keep : List Nat := [32, 33, 34, 70]
set_option maxHeartbeats 4000000 in
set_option maxRecDepth 100000 in
theorem c_X10_keep (a0 : Nat) (ha0 : oA L τ a0 9) (a1 : Int32) : oMet l A L τ cy D K yX10_keep cX10_keep 2 (some .boolean) 2 81 [.ref a0, .int a1] σ (va_Qi (fun r σ1 => oFr τ fs_X10_keep ts_X10_keep σ σ1 ∧ Iv r 0 1 ∧ ((0 ≤ a1.toInt ∧ a1.toInt ≤ 1 ∧ r.toInt = 1) ∨ ((a1.toInt < 0 ∨ 1 < a1.toInt) ∧ r.toInt = 0))) (oPo A L τ cy D) A) := by
  refine oMk (by decide) (Nat.le_of_ble_eq_true rfl) rfl ?_
  intro p e s m args below meth c ls cx rx hA hw hl
  generalize hQ : MQ below _ args s 0 0 A = Q
  have hx := cx.1.1
  have hb := cx.1.2.1
  have hml := cx.1.2.2.1
  have hown := cx.1.2.2.2.1
  have hts := cx.1.2.2.2.2
  have hl : lv_has ls 2 [(0, .ref a0), (1, .int a1)] := hl
  have fr : oFr τ fs_X10_keep ts_X10_keep σ σ := oFr_rf
  refine lv_iload_n hx hb dX10_keep_0 rfl (lv_at hl 1 rfl) ?_
  refine lv_if_lt (tgt := 9) hx hb dX10_keep_1 (by decide) (fun c1 => ?_) (fun c1 => ?_)
  · --
    have i2 : Iv a1 (-2147483648) (-1) := iv_lt1 c1 (iv_top a1) (⟨by decide, by decide⟩ : Iv 0 0 0) (by decide)
    refine lv_iconst (v := 0) hx hb dX10_keep_9 (by decide) ?_
    rw [← hQ]
    exact o_rz cx rx hw (iv_nz01 (iv_w (⟨by decide, by decide⟩ : Iv 0 0 0) (by decide))) dX10_keep_10 ⟨fr, (iv_w (⟨by decide, by decide⟩ : Iv 0 0 0) (by decide)), (by exact (by have := (i2).1; have := (i2).2; have : (a1 : Int32).toInt < (0 : Int32).toInt := iv_lt.mp c1; have : (0 : Int32).toInt = 0 := (by decide); omega))⟩
  · --
    have i3 : Iv a1 0 2147483647 := iv_le2 (iv_nlt c1) (⟨by decide, by decide⟩ : Iv 0 0 0) (iv_top a1) (by decide)
    refine lv_iload_n hx hb dX10_keep_4 rfl (lv_at hl 1 rfl) ?_
    refine lv_iconst (v := 2) hx hb dX10_keep_5 (by decide) ?_
    refine lv_icmp_lt (tgt := 11) hx hb dX10_keep_6 (by decide) (fun c4 => ?_) (fun c4 => ?_)
    · --
      have i5 : Iv a1 0 1 := iv_lt1 c4 i3 (⟨by decide, by decide⟩ : Iv 2 2 2) (by decide)
      refine lv_aload_n hx hb dX10_keep_11 rfl (lv_at hl 0 rfl) ?_
      refine g_586 cx hw ha0 k_f_X10_79 dX10_keep_12 (fun v6 e6 h6 => ?_)
      refine lv_iload_n hx hb dX10_keep_15 rfl (lv_at hl 1 rfl) ?_
      refine o_aald cx hw h6 (by decide) rfl (iv_in i5 (by decide)) (by decide) dX10_keep_16 (fun v7 e7 h7 => ?_)
      refine lv_aload_n hx hb dX10_keep_17 rfl (lv_at hl 0 rfl) ?_
      refine g_581 cx hw ha0 k_f_X10_49 dX10_keep_18 (fun v8 e8 h8 => ?_)
      refine o_cv hw (oRunV cx hA hw q_X6_copyFrom k_m_X10_131 rfl h7 (by decide) (As := [.ref v8]) (c_X6_copyFrom v7 h7 v8 h8) (by decide) rfl hl.1 rfl (Nat.le_of_ble_eq_true rfl) dX10_keep_21 (by decide)) (fun σ9 H locs hp hw => ?_)
      have p10_0 := hp
      have fr := oFr_tr fr p10_0 (by decide)
      refine lv_aload_n hx hb dX10_keep_24 rfl (lv_at hl 0 rfl) ?_
      refine lv_dup hx hb dX10_keep_25 rfl ?_
      refine g_587 cx hw ha0 k_f_X10_114 dX10_keep_26 (fun v11 e11 => ?_)
      have z11 : v11.toInt = (σ9.1 587 a0).toInt := congrArg Int32.toInt e11
      refine lv_iconst (v := 1) hx hb dX10_keep_29 (by decide) ?_
      refine lv_iload_n hx hb dX10_keep_30 rfl (lv_at hl 1 rfl) ?_
      refine lv_ishl hx hb dX10_keep_31 ?_
      refine lv_topi (fun v12 e12 => ?_)
      have i12 : Iv v12 1 32 := iv_shl1 e12 i5 (by decide)
      refine lv_ior hx hb dX10_keep_32 ?_
      refine lv_topi (fun v13 e13 => ?_)
      refine p_587 cx hw ha0 k_f_X10_114 dX10_keep_33 (fun σ14 H locs eσ14 hw => ?_)
      have fr := oFr_i fr eσ14 (by decide)
      refine lv_iconst (v := 1) hx hb dX10_keep_36 (by decide) ?_
      rw [← hQ]
      exact o_rz cx rx hw (iv_nz01 (iv_w (⟨by decide, by decide⟩ : Iv 1 1 1) (by decide))) dX10_keep_37 ⟨fr, (iv_w (⟨by decide, by decide⟩ : Iv 1 1 1) (by decide)), (by exact (by have := (i5).1; have := (i5).2; have := (i12).1; have := (i12).2; have : (σ14.1 587 a0).toInt = (v13 : Int32).toInt := congrArg Int32.toInt (show σ14.1 587 a0 = v13 from (kp_s eσ14)); have : (0 : Int32).toInt ≤ (a1 : Int32).toInt := iv_le.mp (iv_nlt c1); have : (a1 : Int32).toInt < (2 : Int32).toInt := iv_lt.mp c4; have : (0 : Int32).toInt = 0 := (by decide); have : (1 : Int32).toInt = 1 := (by decide); have : (2 : Int32).toInt = 2 := (by decide); omega))⟩
    · --
      have i15 : Iv a1 2 2147483647 := iv_le2 (iv_nlt c4) (⟨by decide, by decide⟩ : Iv 2 2 2) i3 (by decide)
      refine lv_iconst (v := 0) hx hb dX10_keep_9 (by decide) ?_
      rw [← hQ]
      exact o_rz cx rx hw (iv_nz01 (iv_w (⟨by decide, by decide⟩ : Iv 0 0 0) (by decide))) dX10_keep_10 ⟨fr, (iv_w (⟨by decide, by decide⟩ : Iv 0 0 0) (by decide)), (by exact (by have := (i15).1; have := (i15).2; have : (0 : Int32).toInt ≤ (a1 : Int32).toInt := iv_le.mp (iv_nlt c1); have : (2 : Int32).toInt ≤ (a1 : Int32).toInt := iv_le.mp (iv_nlt c4); have : (0 : Int32).toInt = 0 := (by decide); have : (2 : Int32).toInt = 2 := (by decide); omega))⟩
set_option maxHeartbeats 4000000 in
set_option maxRecDepth 100000 in
theorem c_X10_again (a0 : Nat) (ha0 : oA L τ a0 9) (a1 : Int32) (hf587 : Iv (σ.1 587 a0) 0 0) : oMet l A L τ cy D K yX10_again cX10_again 2 (some .boolean) 0 0 [.ref a0, .int a1] σ (va_Qi (fun r σ1 => σ1 = σ ∧ Iv r 0 0) (oPo A L τ cy D) A) := by
  refine oMk (by decide) (Nat.le_of_ble_eq_true rfl) rfl ?_
  intro p e s m args below meth c ls cx rx hA hw hl
  generalize hQ : MQ below _ args s 0 0 A = Q
  have hx := cx.1.1
  have hb := cx.1.2.1
  have hml := cx.1.2.2.1
  have hown := cx.1.2.2.2.1
  have hts := cx.1.2.2.2.2
  have hl : lv_has ls 2 [(0, .ref a0), (1, .int a1)] := hl
  refine lv_iload_n hx hb dX10_again_0 rfl (lv_at hl 1 rfl) ?_
  refine lv_if_lt (tgt := 20) hx hb dX10_again_1 (by decide) (fun c1 => ?_) (fun c1 => ?_)
  · --
    have i2 : Iv a1 (-2147483648) (-1) := iv_lt1 c1 (iv_top a1) (⟨by decide, by decide⟩ : Iv 0 0 0) (by decide)
    refine lv_iconst (v := 0) hx hb dX10_again_20 (by decide) ?_
    rw [← hQ]
    exact o_rz cx rx hw (iv_nz01 (iv_w (⟨by decide, by decide⟩ : Iv 0 0 0) (by decide))) dX10_again_21 ⟨rfl, (iv_w (⟨by decide, by decide⟩ : Iv 0 0 0) (by decide))⟩
  · --
    have i3 : Iv a1 0 2147483647 := iv_le2 (iv_nlt c1) (⟨by decide, by decide⟩ : Iv 0 0 0) (iv_top a1) (by decide)
    refine lv_iload_n hx hb dX10_again_4 rfl (lv_at hl 1 rfl) ?_
    refine lv_iconst (v := 2) hx hb dX10_again_5 (by decide) ?_
    refine lv_icmp_ge (tgt := 20) hx hb dX10_again_6 (by decide) (fun c4 => ?_) (fun c4 => ?_)
    · --
      have i5 : Iv a1 2 2147483647 := iv_le2 c4 (⟨by decide, by decide⟩ : Iv 2 2 2) i3 (by decide)
      refine lv_iconst (v := 0) hx hb dX10_again_20 (by decide) ?_
      rw [← hQ]
      exact o_rz cx rx hw (iv_nz01 (iv_w (⟨by decide, by decide⟩ : Iv 0 0 0) (by decide))) dX10_again_21 ⟨rfl, (iv_w (⟨by decide, by decide⟩ : Iv 0 0 0) (by decide))⟩
    · --
      have i6 : Iv a1 0 1 := iv_lt1 (iv_nle c4) i3 (⟨by decide, by decide⟩ : Iv 2 2 2) (by decide)
      refine lv_aload_n hx hb dX10_again_9 rfl (lv_at hl 0 rfl) ?_
      refine g_587 cx hw ha0 k_f_X10_114 dX10_again_10 (fun v7 e7 => ?_)
      rw [show v7 = (σ.1 587 a0) from e7.trans rfl]
      refine lv_iload_n hx hb dX10_again_13 rfl (lv_at hl 1 rfl) ?_
      refine lv_ishr hx hb dX10_again_14 ?_
      refine lv_topi (fun v8 e8 => ?_)
      have i8 : Iv v8 0 0 := iv_shr_0 e8 hf587
      refine lv_iconst (v := 1) hx hb dX10_again_15 (by decide) ?_
      refine lv_iand hx hb dX10_again_16 ?_
      refine lv_topi (fun v9 e9 => ?_)
      have i9 : Iv v9 0 0 := iv_and0 e9 i8
      refine lv_if_ne (tgt := 22) hx hb dX10_again_17 (by decide) (fun c10 => ?_) (fun c10 => ?_)
      · --
        exact iv_no (iv_ne1 c10 i9 (⟨by decide, by decide⟩ : Iv 0 0 0) (by decide)) (by decide)
      · --
        refine lv_iconst (v := 0) hx hb dX10_again_20 (by decide) ?_
        rw [← hQ]
        exact o_rz cx rx hw (iv_nz01 (iv_w (⟨by decide, by decide⟩ : Iv 0 0 0) (by decide))) dX10_again_21 ⟨rfl, (iv_w (⟨by decide, by decide⟩ : Iv 0 0 0) (by decide))⟩
end OM
