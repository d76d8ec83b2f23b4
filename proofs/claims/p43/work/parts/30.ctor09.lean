section OM
variable {l : Launch} {A : Nat → Prop} {L : List Nat} {τ : Nat → Nat} {cy : Nat → ClassId} {D : va_G} {K : (Nat → Nat) × (Nat → Nat)} {σ : oSt}
set_option maxHeartbeats 4000000 in
set_option maxRecDepth 100000 in
theorem c_X10_init (a0 : Nat) (ha0 : oA L τ a0 25) (hz : ∀ j, σ.1 j a0 = 0) (hzl : ∀ j, σ.2.1 j a0 = 0) : oMetI l A L τ cy D K yX10_init cX10_init 2 7 174 143 5804 [.ref a0] σ (va_Qv (fun u : oW3 => a0 ∈ u.1 ∧ u.2.1 a0 = 9 ∧ (∃ b, u.2.2.2.2.2.2 576 a0 = some b ∧ u.2.2.1 385 b = 0) ∧ (∃ b, u.2.2.2.2.2.2 580 a0 = some b ∧ u.2.2.1 514 b = 12 ∧ u.2.2.1 515 b = 6) ∧ (∃ b, u.2.2.2.2.2.2 581 a0 = some b ∧ u.2.2.1 327 b = 0) ∧ (∃ b, u.2.2.2.2.2.2 578 a0 = some b ∧ u.2.2.1 64 b = 0 ∧ u.2.2.1 65 b = 0) ∧ u.2.2.1 587 a0 = 0 ∧ u.2.2.1 588 a0 = 0 ∧ NV u.2.2 a0 0) (oPo3 A cy D) A) := by
  refine oMkI (by decide) (Nat.le_of_ble_eq_true rfl) rfl rfl ?_
  intro p e s m args below meth c ls cx rx hin hA hw hl
  generalize hQ : MQ below _ args s 143 5804 A = Q
  have hx := cx.1.1
  have hb := cx.1.2.1
  have hml := cx.1.2.2.1
  have hown := cx.1.2.2.2.1
  have hts := cx.1.2.2.2.2
  have hl : lv_has ls 2 [(0, .ref a0)] := hl
  have k1 : σ.1 587 a0 = 0 := hz 587
  have k2 : σ.1 588 a0 = 0 := hz 588
  refine lv_aload_n hx hb dX10_init_0 rfl (lv_at hl 0 rfl) ?_
  refine W.objInit hx hb hown (hts _ k_m_X10_1) (hts _ k_oi) (hts _ k_oc) rfl (by rw [hml]; exact hl.1) rfl dX10_init_1 (Nat.le_of_ble_eq_true rfl) (Nat.le_of_ble_eq_true rfl) ?_
  show W p l e _ s m args below meth c _ _ _ _ Q (F0 m 4 ls [])
  refine lv_aload_n hx hb dX10_init_4 rfl (lv_at hl 0 rfl) ?_
  refine o_new cx hA hw 6 (by decide) rfl fiX7 tyX7 tyX7_ok dfX7 k_c_X10_7 k_n_X7 k_i_X7 (by decide) (by decide) dX10_init_5 (fun q3 L τ σ5 H g4 hw => ?_)
  have h6 : oA L τ a0 25 := oG_a g4 ha0
  have k7 : σ5.1 587 a0 = 0 := (oG_i g4 ha0).trans k1
  have k8 : σ5.1 588 a0 = 0 := (oG_i g4 ha0).trans k2
  have h9 : oA L τ q3 22 := oG_q g4
  refine lv_dup hx hb dX10_init_8 rfl ?_
  refine o_cI hw (oRunIN cx hA hw q_X7_init cx.2.2.2.2.2.2.2.2.2.1 (As := []) (c_X7_init q3 h9 (fun j => oG_zi g4) (fun j => oG_zl g4) ) (by decide) rfl hl.1 rfl (Nat.le_of_ble_eq_true rfl) dX10_init_9 (by decide)) (fun L τ σ10 H locs hp hw => ?_)
  obtain ⟨y11, t12, fy11_385, fy11_386, fy11_387⟩ := hp
  have h13 : oA L τ a0 25 := oX_a y11 h6 (rw_ne h6 h9 (by decide))
  have k14 : σ10.1 587 a0 = 0 := (oX_ki y11 h6 (rw_ne h6 h9 (by decide))).trans k7
  have k15 : σ10.1 588 a0 = 0 := (oX_ki y11 h6 (rw_ne h6 h9 (by decide))).trans k8
  have h16 : oA L τ q3 6 := oX_q y11 h9 t12
  refine o_putrF cx hw 9 0 rfl fiX10 tyX10 tyX10_ok nmX10 h13 (by decide) (by decide) rfl (by decide) rfl rfl rfl rfl hin rfl rfl k_f_X10_10 dX10_init_12 (fun σ18 H locs e17 hw => ?_)
  have k19 : σ18.1 587 a0 = 0 := (kp_r e17).trans k14
  have k20 : σ18.1 588 a0 = 0 := (kp_r e17).trans k15
  have k21 : σ18.1 385 q3 = 0 := (kp_r e17).trans fy11_385
  have k22 : σ18.1 386 q3 = 0 := (kp_r e17).trans fy11_386
  have k23 : σ18.1 387 q3 = 80 := (kp_r e17).trans fy11_387
  have k24 : σ18.2.2.2.2 576 a0 = some q3 := kr_s e17
  refine lv_aload_n hx hb dX10_init_15 rfl (lv_at hl 0 rfl) ?_
  refine o_new cx hA hw 3 (by decide) rfl fiX4 tyX4 tyX4_ok dfX4 k_c_X10_16 k_n_X4 k_i_X4 (by decide) (by decide) dX10_init_16 (fun q25 L τ σ27 H g26 hw => ?_)
  have h28 : oA L τ a0 25 := oG_a g26 h13
  have h29 : oA L τ q3 6 := oG_a g26 h16
  have k30 : σ27.1 587 a0 = 0 := (oG_i g26 h13).trans k19
  have k31 : σ27.1 588 a0 = 0 := (oG_i g26 h13).trans k20
  have k32 : σ27.1 385 q3 = 0 := (oG_i g26 h16).trans k21
  have k33 : σ27.1 386 q3 = 0 := (oG_i g26 h16).trans k22
  have k34 : σ27.1 387 q3 = 80 := (oG_i g26 h16).trans k23
  have k35 : σ27.2.2.2.2 576 a0 = some q3 := (oG_r g26 h13).trans k24
  have h36 : oA L τ q25 19 := oG_q g26
  refine lv_dup hx hb dX10_init_19 rfl ?_
  refine o_cI hw (oRunIN cx hA hw q_X4_init cx.2.2.2.2.2.2.2.2.2.2.1 (As := []) (c_X4_init q25 h36 (fun j => oG_zi g26) (fun j => oG_zl g26) ) (by decide) rfl hl.1 rfl (Nat.le_of_ble_eq_true rfl) dX10_init_20 (by decide)) (fun L τ σ37 H locs hp hw => ?_)
  obtain ⟨y38, t39, fy38_193⟩ := hp
  have h40 : oA L τ a0 25 := oX_a y38 h28 (rw_ne h28 h36 (by decide))
  have h41 : oA L τ q3 6 := oX_a y38 h29 (rw_ne h29 h36 (by decide))
  have k42 : σ37.1 587 a0 = 0 := (oX_ki y38 h28 (rw_ne h28 h36 (by decide))).trans k30
  have k43 : σ37.1 588 a0 = 0 := (oX_ki y38 h28 (rw_ne h28 h36 (by decide))).trans k31
  have k44 : σ37.1 385 q3 = 0 := (oX_ki y38 h29 (rw_ne h29 h36 (by decide))).trans k32
  have k45 : σ37.1 386 q3 = 0 := (oX_ki y38 h29 (rw_ne h29 h36 (by decide))).trans k33
  have k46 : σ37.1 387 q3 = 80 := (oX_ki y38 h29 (rw_ne h29 h36 (by decide))).trans k34
  have k47 : σ37.2.2.2.2 576 a0 = some q3 := (oX_kr y38 h28 (rw_ne h28 h36 (by decide))).trans k35
  have h48 : oA L τ q25 3 := oX_q y38 h36 t39
  refine o_putrF cx hw 9 1 rfl fiX10 tyX10 tyX10_ok nmX10 h40 (by decide) (by decide) rfl (by decide) rfl rfl rfl rfl hin rfl rfl k_f_X10_19 dX10_init_23 (fun σ50 H locs e49 hw => ?_)
  have k51 : σ50.1 587 a0 = 0 := (kp_r e49).trans k42
  have k52 : σ50.1 588 a0 = 0 := (kp_r e49).trans k43
  have k53 : σ50.1 385 q3 = 0 := (kp_r e49).trans k44
  have k54 : σ50.1 386 q3 = 0 := (kp_r e49).trans k45
  have k55 : σ50.1 387 q3 = 80 := (kp_r e49).trans k46
  have k56 : σ50.1 193 q25 = 0 := (kp_r e49).trans fy38_193
  have k57 : σ50.2.2.2.2 576 a0 = some q3 := (kr_r e49 (by decide)).trans k47
  have k58 : σ50.2.2.2.2 577 a0 = some q25 := kr_s e49
  refine lv_aload_n hx hb dX10_init_26 rfl (lv_at hl 0 rfl) ?_
  refine o_new cx hA hw 1 (by decide) rfl fiX2 tyX2 tyX2_ok dfX2 k_c_X10_23 k_n_X2 k_i_X2 (by decide) (by decide) dX10_init_27 (fun q59 L τ σ61 H g60 hw => ?_)
  have h62 : oA L τ a0 25 := oG_a g60 h40
  have h63 : oA L τ q3 6 := oG_a g60 h41
  have h64 : oA L τ q25 3 := oG_a g60 h48
  have k65 : σ61.1 587 a0 = 0 := (oG_i g60 h40).trans k51
  have k66 : σ61.1 588 a0 = 0 := (oG_i g60 h40).trans k52
  have k67 : σ61.1 385 q3 = 0 := (oG_i g60 h41).trans k53
  have k68 : σ61.1 386 q3 = 0 := (oG_i g60 h41).trans k54
  have k69 : σ61.1 387 q3 = 80 := (oG_i g60 h41).trans k55
  have k70 : σ61.1 193 q25 = 0 := (oG_i g60 h48).trans k56
  have k71 : σ61.2.2.2.2 576 a0 = some q3 := (oG_r g60 h40).trans k57
  have k72 : σ61.2.2.2.2 577 a0 = some q25 := (oG_r g60 h40).trans k58
  have h73 : oA L τ q59 17 := oG_q g60
  refine lv_dup hx hb dX10_init_30 rfl ?_
  refine o_cI hw (oRunIN cx hA hw q_X2_init cx.2.2.2.2.2.2.2.2.2.2.2.1 (As := []) (c_X2_init q59 h73 (fun j => oG_zi g60) (fun j => oG_zl g60) ) (by decide) rfl hl.1 rfl (Nat.le_of_ble_eq_true rfl) dX10_init_31 (by decide)) (fun L τ σ74 H locs hp hw => ?_)
  obtain ⟨y75, t76, fy75_64, fy75_65, fy75_66⟩ := hp
  have h77 : oA L τ a0 25 := oX_a y75 h62 (rw_ne h62 h73 (by decide))
  have h78 : oA L τ q3 6 := oX_a y75 h63 (rw_ne h63 h73 (by decide))
  have h79 : oA L τ q25 3 := oX_a y75 h64 (rw_ne h64 h73 (by decide))
  have k80 : σ74.1 587 a0 = 0 := (oX_ki y75 h62 (rw_ne h62 h73 (by decide))).trans k65
  have k81 : σ74.1 588 a0 = 0 := (oX_ki y75 h62 (rw_ne h62 h73 (by decide))).trans k66
  have k82 : σ74.1 385 q3 = 0 := (oX_ki y75 h63 (rw_ne h63 h73 (by decide))).trans k67
  have k83 : σ74.1 386 q3 = 0 := (oX_ki y75 h63 (rw_ne h63 h73 (by decide))).trans k68
  have k84 : σ74.1 387 q3 = 80 := (oX_ki y75 h63 (rw_ne h63 h73 (by decide))).trans k69
  have k85 : σ74.1 193 q25 = 0 := (oX_ki y75 h64 (rw_ne h64 h73 (by decide))).trans k70
  have k86 : σ74.2.2.2.2 576 a0 = some q3 := (oX_kr y75 h62 (rw_ne h62 h73 (by decide))).trans k71
  have k87 : σ74.2.2.2.2 577 a0 = some q25 := (oX_kr y75 h62 (rw_ne h62 h73 (by decide))).trans k72
  have h88 : oA L τ q59 1 := oX_q y75 h73 t76
  refine o_putrF cx hw 9 2 rfl fiX10 tyX10 tyX10_ok nmX10 h77 (by decide) (by decide) rfl (by decide) rfl rfl rfl rfl hin rfl rfl k_f_X10_26 dX10_init_34 (fun σ90 H locs e89 hw => ?_)
  have k91 : σ90.1 587 a0 = 0 := (kp_r e89).trans k80
  have k92 : σ90.1 588 a0 = 0 := (kp_r e89).trans k81
  have k93 : σ90.1 385 q3 = 0 := (kp_r e89).trans k82
  have k94 : σ90.1 386 q3 = 0 := (kp_r e89).trans k83
  have k95 : σ90.1 387 q3 = 80 := (kp_r e89).trans k84
  have k96 : σ90.1 193 q25 = 0 := (kp_r e89).trans k85
  have k97 : σ90.1 64 q59 = 0 := (kp_r e89).trans fy75_64
  have k98 : σ90.1 65 q59 = 0 := (kp_r e89).trans fy75_65
  have k99 : σ90.1 66 q59 = 0 := (kp_r e89).trans fy75_66
  have k100 : σ90.2.2.2.2 576 a0 = some q3 := (kr_r e89 (by decide)).trans k86
  have k101 : σ90.2.2.2.2 577 a0 = some q25 := (kr_r e89 (by decide)).trans k87
  have k102 : σ90.2.2.2.2 578 a0 = some q59 := kr_s e89
  refine lv_aload_n hx hb dX10_init_37 rfl (lv_at hl 0 rfl) ?_
  refine o_new cx hA hw 4 (by decide) rfl fiX5 tyX5 tyX5_ok dfX5 k_c_X10_30 k_n_X5 k_i_X5 (by decide) (by decide) dX10_init_38 (fun q103 L τ σ105 H g104 hw => ?_)
  have h106 : oA L τ a0 25 := oG_a g104 h77
  have h107 : oA L τ q3 6 := oG_a g104 h78
  have h108 : oA L τ q25 3 := oG_a g104 h79
  have h109 : oA L τ q59 1 := oG_a g104 h88
  have k110 : σ105.1 587 a0 = 0 := (oG_i g104 h77).trans k91
  have k111 : σ105.1 588 a0 = 0 := (oG_i g104 h77).trans k92
  have k112 : σ105.1 385 q3 = 0 := (oG_i g104 h78).trans k93
  have k113 : σ105.1 386 q3 = 0 := (oG_i g104 h78).trans k94
  have k114 : σ105.1 387 q3 = 80 := (oG_i g104 h78).trans k95
  have k115 : σ105.1 193 q25 = 0 := (oG_i g104 h79).trans k96
  have k116 : σ105.1 64 q59 = 0 := (oG_i g104 h88).trans k97
  have k117 : σ105.1 65 q59 = 0 := (oG_i g104 h88).trans k98
  have k118 : σ105.1 66 q59 = 0 := (oG_i g104 h88).trans k99
  have k119 : σ105.2.2.2.2 576 a0 = some q3 := (oG_r g104 h77).trans k100
  have k120 : σ105.2.2.2.2 577 a0 = some q25 := (oG_r g104 h77).trans k101
  have k121 : σ105.2.2.2.2 578 a0 = some q59 := (oG_r g104 h77).trans k102
  have h122 : oA L τ q103 20 := oG_q g104
  refine lv_dup hx hb dX10_init_41 rfl ?_
  refine o_cI hw (oRunIN cx hA hw q_X5_init cx.2.2.2.2.2.2.2.2.2.2.2.2.1 (As := []) (c_X5_init q103 h122 (fun j => oG_zi g104) (fun j => oG_zl g104) ) (by decide) rfl hl.1 rfl (Nat.le_of_ble_eq_true rfl) dX10_init_42 (by decide)) (fun L τ σ123 H locs hp hw => ?_)
  obtain ⟨y124, t125, fy124_257, fy124_259, fy124_261, fy124_263, fy124_264, fy124_265⟩ := hp
  have h126 : oA L τ a0 25 := oX_a y124 h106 (rw_ne h106 h122 (by decide))
  have h127 : oA L τ q3 6 := oX_a y124 h107 (rw_ne h107 h122 (by decide))
  have h128 : oA L τ q25 3 := oX_a y124 h108 (rw_ne h108 h122 (by decide))
  have h129 : oA L τ q59 1 := oX_a y124 h109 (rw_ne h109 h122 (by decide))
  have k130 : σ123.1 587 a0 = 0 := (oX_ki y124 h106 (rw_ne h106 h122 (by decide))).trans k110
  have k131 : σ123.1 588 a0 = 0 := (oX_ki y124 h106 (rw_ne h106 h122 (by decide))).trans k111
  have k132 : σ123.1 385 q3 = 0 := (oX_ki y124 h107 (rw_ne h107 h122 (by decide))).trans k112
  have k133 : σ123.1 386 q3 = 0 := (oX_ki y124 h107 (rw_ne h107 h122 (by decide))).trans k113
  have k134 : σ123.1 387 q3 = 80 := (oX_ki y124 h107 (rw_ne h107 h122 (by decide))).trans k114
  have k135 : σ123.1 193 q25 = 0 := (oX_ki y124 h108 (rw_ne h108 h122 (by decide))).trans k115
  have k136 : σ123.1 64 q59 = 0 := (oX_ki y124 h109 (rw_ne h109 h122 (by decide))).trans k116
  have k137 : σ123.1 65 q59 = 0 := (oX_ki y124 h109 (rw_ne h109 h122 (by decide))).trans k117
  have k138 : σ123.1 66 q59 = 0 := (oX_ki y124 h109 (rw_ne h109 h122 (by decide))).trans k118
  have k139 : σ123.2.2.2.2 576 a0 = some q3 := (oX_kr y124 h106 (rw_ne h106 h122 (by decide))).trans k119
  have k140 : σ123.2.2.2.2 577 a0 = some q25 := (oX_kr y124 h106 (rw_ne h106 h122 (by decide))).trans k120
  have k141 : σ123.2.2.2.2 578 a0 = some q59 := (oX_kr y124 h106 (rw_ne h106 h122 (by decide))).trans k121
  have h142 : oA L τ q103 4 := oX_q y124 h122 t125
  refine o_putrF cx hw 9 3 rfl fiX10 tyX10 tyX10_ok nmX10 h126 (by decide) (by decide) rfl (by decide) rfl rfl rfl rfl hin rfl rfl k_f_X10_33 dX10_init_45 (fun σ144 H locs e143 hw => ?_)
  have k145 : σ144.1 587 a0 = 0 := (kp_r e143).trans k130
  have k146 : σ144.1 588 a0 = 0 := (kp_r e143).trans k131
  have k147 : σ144.1 385 q3 = 0 := (kp_r e143).trans k132
  have k148 : σ144.1 386 q3 = 0 := (kp_r e143).trans k133
  have k149 : σ144.1 387 q3 = 80 := (kp_r e143).trans k134
  have k150 : σ144.1 193 q25 = 0 := (kp_r e143).trans k135
  have k151 : σ144.1 64 q59 = 0 := (kp_r e143).trans k136
  have k152 : σ144.1 65 q59 = 0 := (kp_r e143).trans k137
  have k153 : σ144.1 66 q59 = 0 := (kp_r e143).trans k138
  have k154 : σ144.1 257 q103 = 0 := (kp_r e143).trans fy124_257
  have k155 : σ144.1 259 q103 = 0 := (kp_r e143).trans fy124_259
  have k156 : σ144.1 261 q103 = 0 := (kp_r e143).trans fy124_261
  have k157 : σ144.1 263 q103 = 0 := (kp_r e143).trans fy124_263
  have k158 : σ144.1 264 q103 = 0 := (kp_r e143).trans fy124_264
  have k159 : σ144.1 265 q103 = 0 := (kp_r e143).trans fy124_265
  have k160 : σ144.2.2.2.2 576 a0 = some q3 := (kr_r e143 (by decide)).trans k139
  have k161 : σ144.2.2.2.2 577 a0 = some q25 := (kr_r e143 (by decide)).trans k140
  have k162 : σ144.2.2.2.2 578 a0 = some q59 := (kr_r e143 (by decide)).trans k141
  have k163 : σ144.2.2.2.2 579 a0 = some q103 := kr_s e143
  refine lv_aload_n hx hb dX10_init_48 rfl (lv_at hl 0 rfl) ?_
  refine o_new cx hA hw 8 (by decide) rfl fiX9 tyX9 tyX9_ok dfX9 k_c_X10_37 k_n_X9 k_i_X9 (by decide) (by decide) dX10_init_49 (fun q164 L τ σ166 H g165 hw => ?_)
  have h167 : oA L τ a0 25 := oG_a g165 h126
  have h168 : oA L τ q3 6 := oG_a g165 h127
  have h169 : oA L τ q25 3 := oG_a g165 h128
  have h170 : oA L τ q59 1 := oG_a g165 h129
  have h171 : oA L τ q103 4 := oG_a g165 h142
  have k172 : σ166.1 587 a0 = 0 := (oG_i g165 h126).trans k145
  have k173 : σ166.1 588 a0 = 0 := (oG_i g165 h126).trans k146
  have k174 : σ166.1 385 q3 = 0 := (oG_i g165 h127).trans k147
  have k175 : σ166.1 386 q3 = 0 := (oG_i g165 h127).trans k148
  have k176 : σ166.1 387 q3 = 80 := (oG_i g165 h127).trans k149
  have k177 : σ166.1 193 q25 = 0 := (oG_i g165 h128).trans k150
  have k178 : σ166.1 64 q59 = 0 := (oG_i g165 h129).trans k151
  have k179 : σ166.1 65 q59 = 0 := (oG_i g165 h129).trans k152
  have k180 : σ166.1 66 q59 = 0 := (oG_i g165 h129).trans k153
  have k181 : σ166.1 257 q103 = 0 := (oG_i g165 h142).trans k154
  have k182 : σ166.1 259 q103 = 0 := (oG_i g165 h142).trans k155
  have k183 : σ166.1 261 q103 = 0 := (oG_i g165 h142).trans k156
  have k184 : σ166.1 263 q103 = 0 := (oG_i g165 h142).trans k157
  have k185 : σ166.1 264 q103 = 0 := (oG_i g165 h142).trans k158
  have k186 : σ166.1 265 q103 = 0 := (oG_i g165 h142).trans k159
  have k187 : σ166.2.2.2.2 576 a0 = some q3 := (oG_r g165 h126).trans k160
  have k188 : σ166.2.2.2.2 577 a0 = some q25 := (oG_r g165 h126).trans k161
  have k189 : σ166.2.2.2.2 578 a0 = some q59 := (oG_r g165 h126).trans k162
  have k190 : σ166.2.2.2.2 579 a0 = some q103 := (oG_r g165 h126).trans k163
  have h191 : oA L τ q164 24 := oG_q g165
  refine lv_dup hx hb dX10_init_52 rfl ?_
  refine lv_aload_n hx hb dX10_init_53 rfl (lv_at hl 0 rfl) ?_
  refine o_getK cx hw 9 2 rfl fiX10 h167 (by decide) rfl (by decide) rfl rfl k_f_X10_26 (j := 578) rfl k189 dX10_init_54 ?_
  refine lv_aload_n hx hb dX10_init_57 rfl (lv_at hl 0 rfl) ?_
  refine o_getK cx hw 9 3 rfl fiX10 h167 (by decide) rfl (by decide) rfl rfl k_f_X10_33 (j := 579) rfl k190 dX10_init_58 ?_
  refine o_cI hw (oRunI cx hA hw q_X9_init k_m_X10_39 (As := [.ref q59, .ref q103]) (c_X9_init q164 h191 (fun j => oG_zi g165) (fun j => oG_zl g165) q59 h170 q103 h171) (by decide) rfl hl.1 rfl (Nat.le_of_ble_eq_true rfl) dX10_init_61 (by decide)) (fun L τ σ192 H locs hp hw => ?_)
  obtain ⟨y193, t194, fy193_514, fy193_515⟩ := hp
  have h195 : oA L τ a0 25 := oX_a y193 h167 (rw_ne h167 h191 (by decide))
  have h196 : oA L τ q3 6 := oX_a y193 h168 (rw_ne h168 h191 (by decide))
  have h197 : oA L τ q25 3 := oX_a y193 h169 (rw_ne h169 h191 (by decide))
  have h198 : oA L τ q59 1 := oX_a y193 h170 (rw_ne h170 h191 (by decide))
  have h199 : oA L τ q103 4 := oX_a y193 h171 (rw_ne h171 h191 (by decide))
  have k200 : σ192.1 587 a0 = 0 := (oX_ki y193 h167 (rw_ne h167 h191 (by decide))).trans k172
  have k201 : σ192.1 588 a0 = 0 := (oX_ki y193 h167 (rw_ne h167 h191 (by decide))).trans k173
  have k202 : σ192.1 385 q3 = 0 := (oX_ki y193 h168 (rw_ne h168 h191 (by decide))).trans k174
  have k203 : σ192.1 386 q3 = 0 := (oX_ki y193 h168 (rw_ne h168 h191 (by decide))).trans k175
  have k204 : σ192.1 387 q3 = 80 := (oX_ki y193 h168 (rw_ne h168 h191 (by decide))).trans k176
  have k205 : σ192.1 193 q25 = 0 := (oX_ki y193 h169 (rw_ne h169 h191 (by decide))).trans k177
  have k206 : σ192.1 64 q59 = 0 := (oX_ki y193 h170 (rw_ne h170 h191 (by decide))).trans k178
  have k207 : σ192.1 65 q59 = 0 := (oX_ki y193 h170 (rw_ne h170 h191 (by decide))).trans k179
  have k208 : σ192.1 66 q59 = 0 := (oX_ki y193 h170 (rw_ne h170 h191 (by decide))).trans k180
  have k209 : σ192.1 257 q103 = 0 := (oX_ki y193 h171 (rw_ne h171 h191 (by decide))).trans k181
  have k210 : σ192.1 259 q103 = 0 := (oX_ki y193 h171 (rw_ne h171 h191 (by decide))).trans k182
  have k211 : σ192.1 261 q103 = 0 := (oX_ki y193 h171 (rw_ne h171 h191 (by decide))).trans k183
  have k212 : σ192.1 263 q103 = 0 := (oX_ki y193 h171 (rw_ne h171 h191 (by decide))).trans k184
  have k213 : σ192.1 264 q103 = 0 := (oX_ki y193 h171 (rw_ne h171 h191 (by decide))).trans k185
  have k214 : σ192.1 265 q103 = 0 := (oX_ki y193 h171 (rw_ne h171 h191 (by decide))).trans k186
  have k215 : σ192.2.2.2.2 576 a0 = some q3 := (oX_kr y193 h167 (rw_ne h167 h191 (by decide))).trans k187
  have k216 : σ192.2.2.2.2 577 a0 = some q25 := (oX_kr y193 h167 (rw_ne h167 h191 (by decide))).trans k188
  have k217 : σ192.2.2.2.2 578 a0 = some q59 := (oX_kr y193 h167 (rw_ne h167 h191 (by decide))).trans k189
  have k218 : σ192.2.2.2.2 579 a0 = some q103 := (oX_kr y193 h167 (rw_ne h167 h191 (by decide))).trans k190
  have h219 : oA L τ q164 8 := oX_q y193 h191 t194
  refine o_putrF cx hw 9 4 rfl fiX10 tyX10 tyX10_ok nmX10 h195 (by decide) (by decide) rfl (by decide) rfl rfl rfl rfl hin rfl rfl k_f_X10_42 dX10_init_64 (fun σ221 H locs e220 hw => ?_)
  have k222 : σ221.1 587 a0 = 0 := (kp_r e220).trans k200
  have k223 : σ221.1 588 a0 = 0 := (kp_r e220).trans k201
  have k224 : σ221.1 385 q3 = 0 := (kp_r e220).trans k202
  have k225 : σ221.1 386 q3 = 0 := (kp_r e220).trans k203
  have k226 : σ221.1 387 q3 = 80 := (kp_r e220).trans k204
  have k227 : σ221.1 193 q25 = 0 := (kp_r e220).trans k205
  have k228 : σ221.1 64 q59 = 0 := (kp_r e220).trans k206
  have k229 : σ221.1 65 q59 = 0 := (kp_r e220).trans k207
  have k230 : σ221.1 66 q59 = 0 := (kp_r e220).trans k208
  have k231 : σ221.1 257 q103 = 0 := (kp_r e220).trans k209
  have k232 : σ221.1 259 q103 = 0 := (kp_r e220).trans k210
  have k233 : σ221.1 261 q103 = 0 := (kp_r e220).trans k211
  have k234 : σ221.1 263 q103 = 0 := (kp_r e220).trans k212
  have k235 : σ221.1 264 q103 = 0 := (kp_r e220).trans k213
  have k236 : σ221.1 265 q103 = 0 := (kp_r e220).trans k214
  have k237 : σ221.1 514 q164 = 12 := (kp_r e220).trans fy193_514
  have k238 : σ221.1 515 q164 = 6 := (kp_r e220).trans fy193_515
  have k239 : σ221.2.2.2.2 576 a0 = some q3 := (kr_r e220 (by decide)).trans k215
  have k240 : σ221.2.2.2.2 577 a0 = some q25 := (kr_r e220 (by decide)).trans k216
  have k241 : σ221.2.2.2.2 578 a0 = some q59 := (kr_r e220 (by decide)).trans k217
  have k242 : σ221.2.2.2.2 579 a0 = some q103 := (kr_r e220 (by decide)).trans k218
  have k243 : σ221.2.2.2.2 580 a0 = some q164 := kr_s e220
  refine lv_aload_n hx hb dX10_init_67 rfl (lv_at hl 0 rfl) ?_
  refine o_new cx hA hw 5 (by decide) rfl fiX6 tyX6 tyX6_ok dfX6 k_c_X10_46 k_n_X6 k_i_X6 (by decide) (by decide) dX10_init_68 (fun q244 L τ σ246 H g245 hw => ?_)
  have h247 : oA L τ a0 25 := oG_a g245 h195
  have h248 : oA L τ q3 6 := oG_a g245 h196
  have h249 : oA L τ q25 3 := oG_a g245 h197
  have h250 : oA L τ q59 1 := oG_a g245 h198
  have h251 : oA L τ q103 4 := oG_a g245 h199
  have h252 : oA L τ q164 8 := oG_a g245 h219
  have k253 : σ246.1 587 a0 = 0 := (oG_i g245 h195).trans k222
  have k254 : σ246.1 588 a0 = 0 := (oG_i g245 h195).trans k223
  have k255 : σ246.1 385 q3 = 0 := (oG_i g245 h196).trans k224
  have k256 : σ246.1 386 q3 = 0 := (oG_i g245 h196).trans k225
  have k257 : σ246.1 387 q3 = 80 := (oG_i g245 h196).trans k226
  have k258 : σ246.1 193 q25 = 0 := (oG_i g245 h197).trans k227
  have k259 : σ246.1 64 q59 = 0 := (oG_i g245 h198).trans k228
  have k260 : σ246.1 65 q59 = 0 := (oG_i g245 h198).trans k229
  have k261 : σ246.1 66 q59 = 0 := (oG_i g245 h198).trans k230
  have k262 : σ246.1 257 q103 = 0 := (oG_i g245 h199).trans k231
  have k263 : σ246.1 259 q103 = 0 := (oG_i g245 h199).trans k232
  have k264 : σ246.1 261 q103 = 0 := (oG_i g245 h199).trans k233
  have k265 : σ246.1 263 q103 = 0 := (oG_i g245 h199).trans k234
  have k266 : σ246.1 264 q103 = 0 := (oG_i g245 h199).trans k235
  have k267 : σ246.1 265 q103 = 0 := (oG_i g245 h199).trans k236
  have k268 : σ246.1 514 q164 = 12 := (oG_i g245 h219).trans k237
  have k269 : σ246.1 515 q164 = 6 := (oG_i g245 h219).trans k238
  have k270 : σ246.2.2.2.2 576 a0 = some q3 := (oG_r g245 h195).trans k239
  have k271 : σ246.2.2.2.2 577 a0 = some q25 := (oG_r g245 h195).trans k240
  have k272 : σ246.2.2.2.2 578 a0 = some q59 := (oG_r g245 h195).trans k241
  have k273 : σ246.2.2.2.2 579 a0 = some q103 := (oG_r g245 h195).trans k242
  have k274 : σ246.2.2.2.2 580 a0 = some q164 := (oG_r g245 h195).trans k243
  have h275 : oA L τ q244 21 := oG_q g245
  refine lv_dup hx hb dX10_init_71 rfl ?_
  refine o_cI hw (oRunI cx hA hw q_X6_init k_m_X10_48 (As := []) (c_X6_init q244 h275 (fun j => oG_zi g245) (fun j => oG_zl g245) ) (by decide) rfl hl.1 rfl (Nat.le_of_ble_eq_true rfl) dX10_init_72 (by decide)) (fun L τ σ276 H locs hp hw => ?_)
  obtain ⟨y277, t278, fy277_327, fy277_328, fy277_329, fy277_330, fy277_331⟩ := hp
  have h279 : oA L τ a0 25 := oX_a y277 h247 (rw_ne h247 h275 (by decide))
  have h280 : oA L τ q3 6 := oX_a y277 h248 (rw_ne h248 h275 (by decide))
  have h281 : oA L τ q25 3 := oX_a y277 h249 (rw_ne h249 h275 (by decide))
  have h282 : oA L τ q59 1 := oX_a y277 h250 (rw_ne h250 h275 (by decide))
  have h283 : oA L τ q103 4 := oX_a y277 h251 (rw_ne h251 h275 (by decide))
  have h284 : oA L τ q164 8 := oX_a y277 h252 (rw_ne h252 h275 (by decide))
  have k285 : σ276.1 587 a0 = 0 := (oX_ki y277 h247 (rw_ne h247 h275 (by decide))).trans k253
  have k286 : σ276.1 588 a0 = 0 := (oX_ki y277 h247 (rw_ne h247 h275 (by decide))).trans k254
  have k287 : σ276.1 385 q3 = 0 := (oX_ki y277 h248 (rw_ne h248 h275 (by decide))).trans k255
  have k288 : σ276.1 386 q3 = 0 := (oX_ki y277 h248 (rw_ne h248 h275 (by decide))).trans k256
  have k289 : σ276.1 387 q3 = 80 := (oX_ki y277 h248 (rw_ne h248 h275 (by decide))).trans k257
  have k290 : σ276.1 193 q25 = 0 := (oX_ki y277 h249 (rw_ne h249 h275 (by decide))).trans k258
  have k291 : σ276.1 64 q59 = 0 := (oX_ki y277 h250 (rw_ne h250 h275 (by decide))).trans k259
  have k292 : σ276.1 65 q59 = 0 := (oX_ki y277 h250 (rw_ne h250 h275 (by decide))).trans k260
  have k293 : σ276.1 66 q59 = 0 := (oX_ki y277 h250 (rw_ne h250 h275 (by decide))).trans k261
  have k294 : σ276.1 257 q103 = 0 := (oX_ki y277 h251 (rw_ne h251 h275 (by decide))).trans k262
  have k295 : σ276.1 259 q103 = 0 := (oX_ki y277 h251 (rw_ne h251 h275 (by decide))).trans k263
  have k296 : σ276.1 261 q103 = 0 := (oX_ki y277 h251 (rw_ne h251 h275 (by decide))).trans k264
  have k297 : σ276.1 263 q103 = 0 := (oX_ki y277 h251 (rw_ne h251 h275 (by decide))).trans k265
  have k298 : σ276.1 264 q103 = 0 := (oX_ki y277 h251 (rw_ne h251 h275 (by decide))).trans k266
  have k299 : σ276.1 265 q103 = 0 := (oX_ki y277 h251 (rw_ne h251 h275 (by decide))).trans k267
  have k300 : σ276.1 514 q164 = 12 := (oX_ki y277 h252 (rw_ne h252 h275 (by decide))).trans k268
  have k301 : σ276.1 515 q164 = 6 := (oX_ki y277 h252 (rw_ne h252 h275 (by decide))).trans k269
  have k302 : σ276.2.2.2.2 576 a0 = some q3 := (oX_kr y277 h247 (rw_ne h247 h275 (by decide))).trans k270
  have k303 : σ276.2.2.2.2 577 a0 = some q25 := (oX_kr y277 h247 (rw_ne h247 h275 (by decide))).trans k271
  have k304 : σ276.2.2.2.2 578 a0 = some q59 := (oX_kr y277 h247 (rw_ne h247 h275 (by decide))).trans k272
  have k305 : σ276.2.2.2.2 579 a0 = some q103 := (oX_kr y277 h247 (rw_ne h247 h275 (by decide))).trans k273
  have k306 : σ276.2.2.2.2 580 a0 = some q164 := (oX_kr y277 h247 (rw_ne h247 h275 (by decide))).trans k274
  have h307 : oA L τ q244 5 := oX_q y277 h275 t278
  refine o_putrF cx hw 9 5 rfl fiX10 tyX10 tyX10_ok nmX10 h279 (by decide) (by decide) rfl (by decide) rfl rfl rfl rfl hin rfl rfl k_f_X10_49 dX10_init_75 (fun σ309 H locs e308 hw => ?_)
  have k310 : σ309.1 587 a0 = 0 := (kp_r e308).trans k285
  have k311 : σ309.1 588 a0 = 0 := (kp_r e308).trans k286
  have k312 : σ309.1 385 q3 = 0 := (kp_r e308).trans k287
  have k313 : σ309.1 386 q3 = 0 := (kp_r e308).trans k288
  have k314 : σ309.1 387 q3 = 80 := (kp_r e308).trans k289
  have k315 : σ309.1 193 q25 = 0 := (kp_r e308).trans k290
  have k316 : σ309.1 64 q59 = 0 := (kp_r e308).trans k291
  have k317 : σ309.1 65 q59 = 0 := (kp_r e308).trans k292
  have k318 : σ309.1 66 q59 = 0 := (kp_r e308).trans k293
  have k319 : σ309.1 257 q103 = 0 := (kp_r e308).trans k294
  have k320 : σ309.1 259 q103 = 0 := (kp_r e308).trans k295
  have k321 : σ309.1 261 q103 = 0 := (kp_r e308).trans k296
  have k322 : σ309.1 263 q103 = 0 := (kp_r e308).trans k297
  have k323 : σ309.1 264 q103 = 0 := (kp_r e308).trans k298
  have k324 : σ309.1 265 q103 = 0 := (kp_r e308).trans k299
  have k325 : σ309.1 514 q164 = 12 := (kp_r e308).trans k300
  have k326 : σ309.1 515 q164 = 6 := (kp_r e308).trans k301
  have k327 : σ309.1 327 q244 = 0 := (kp_r e308).trans fy277_327
  have k328 : σ309.1 328 q244 = 0 := (kp_r e308).trans fy277_328
  have k329 : σ309.1 329 q244 = 0 := (kp_r e308).trans fy277_329
  have k330 : σ309.1 330 q244 = 0 := (kp_r e308).trans fy277_330
  have k331 : σ309.1 331 q244 = 0 := (kp_r e308).trans fy277_331
  have k332 : σ309.2.2.2.2 576 a0 = some q3 := (kr_r e308 (by decide)).trans k302
  have k333 : σ309.2.2.2.2 577 a0 = some q25 := (kr_r e308 (by decide)).trans k303
  have k334 : σ309.2.2.2.2 578 a0 = some q59 := (kr_r e308 (by decide)).trans k304
  have k335 : σ309.2.2.2.2 579 a0 = some q103 := (kr_r e308 (by decide)).trans k305
  have k336 : σ309.2.2.2.2 580 a0 = some q164 := (kr_r e308 (by decide)).trans k306
  have k337 : σ309.2.2.2.2 581 a0 = some q244 := kr_s e308
  refine lv_aload_n hx hb dX10_init_78 rfl (lv_at hl 0 rfl) ?_
  refine o_new cx hA hw 5 (by decide) rfl fiX6 tyX6 tyX6_ok dfX6 k_c_X10_46 k_n_X6 k_i_X6 (by decide) (by decide) dX10_init_79 (fun q338 L τ σ340 H g339 hw => ?_)
  have h341 : oA L τ a0 25 := oG_a g339 h279
  have h342 : oA L τ q3 6 := oG_a g339 h280
  have h343 : oA L τ q25 3 := oG_a g339 h281
  have h344 : oA L τ q59 1 := oG_a g339 h282
  have h345 : oA L τ q103 4 := oG_a g339 h283
  have h346 : oA L τ q164 8 := oG_a g339 h284
  have h347 : oA L τ q244 5 := oG_a g339 h307
  have k348 : σ340.1 587 a0 = 0 := (oG_i g339 h279).trans k310
  have k349 : σ340.1 588 a0 = 0 := (oG_i g339 h279).trans k311
  have k350 : σ340.1 385 q3 = 0 := (oG_i g339 h280).trans k312
  have k351 : σ340.1 386 q3 = 0 := (oG_i g339 h280).trans k313
  have k352 : σ340.1 387 q3 = 80 := (oG_i g339 h280).trans k314
  have k353 : σ340.1 193 q25 = 0 := (oG_i g339 h281).trans k315
  have k354 : σ340.1 64 q59 = 0 := (oG_i g339 h282).trans k316
  have k355 : σ340.1 65 q59 = 0 := (oG_i g339 h282).trans k317
  have k356 : σ340.1 66 q59 = 0 := (oG_i g339 h282).trans k318
  have k357 : σ340.1 257 q103 = 0 := (oG_i g339 h283).trans k319
  have k358 : σ340.1 259 q103 = 0 := (oG_i g339 h283).trans k320
  have k359 : σ340.1 261 q103 = 0 := (oG_i g339 h283).trans k321
  have k360 : σ340.1 263 q103 = 0 := (oG_i g339 h283).trans k322
  have k361 : σ340.1 264 q103 = 0 := (oG_i g339 h283).trans k323
  have k362 : σ340.1 265 q103 = 0 := (oG_i g339 h283).trans k324
  have k363 : σ340.1 514 q164 = 12 := (oG_i g339 h284).trans k325
  have k364 : σ340.1 515 q164 = 6 := (oG_i g339 h284).trans k326
  have k365 : σ340.1 327 q244 = 0 := (oG_i g339 h307).trans k327
  have k366 : σ340.1 328 q244 = 0 := (oG_i g339 h307).trans k328
  have k367 : σ340.1 329 q244 = 0 := (oG_i g339 h307).trans k329
  have k368 : σ340.1 330 q244 = 0 := (oG_i g339 h307).trans k330
  have k369 : σ340.1 331 q244 = 0 := (oG_i g339 h307).trans k331
  have k370 : σ340.2.2.2.2 576 a0 = some q3 := (oG_r g339 h279).trans k332
  have k371 : σ340.2.2.2.2 577 a0 = some q25 := (oG_r g339 h279).trans k333
  have k372 : σ340.2.2.2.2 578 a0 = some q59 := (oG_r g339 h279).trans k334
  have k373 : σ340.2.2.2.2 579 a0 = some q103 := (oG_r g339 h279).trans k335
  have k374 : σ340.2.2.2.2 580 a0 = some q164 := (oG_r g339 h279).trans k336
  have k375 : σ340.2.2.2.2 581 a0 = some q244 := (oG_r g339 h279).trans k337
  have ne376 : q244 ≠ q338 := oG_ne g339 h307
  have h377 : oA L τ q338 21 := oG_q g339
  refine lv_dup hx hb dX10_init_82 rfl ?_
  refine o_cI hw (oRunI cx hA hw q_X6_init k_m_X10_48 (As := []) (c_X6_init q338 h377 (fun j => oG_zi g339) (fun j => oG_zl g339) ) (by decide) rfl hl.1 rfl (Nat.le_of_ble_eq_true rfl) dX10_init_83 (by decide)) (fun L τ σ378 H locs hp hw => ?_)
  obtain ⟨y379, t380, fy379_327, fy379_328, fy379_329, fy379_330, fy379_331⟩ := hp
  have h381 : oA L τ a0 25 := oX_a y379 h341 (rw_ne h341 h377 (by decide))
  have h382 : oA L τ q3 6 := oX_a y379 h342 (rw_ne h342 h377 (by decide))
  have h383 : oA L τ q25 3 := oX_a y379 h343 (rw_ne h343 h377 (by decide))
  have h384 : oA L τ q59 1 := oX_a y379 h344 (rw_ne h344 h377 (by decide))
  have h385 : oA L τ q103 4 := oX_a y379 h345 (rw_ne h345 h377 (by decide))
  have h386 : oA L τ q164 8 := oX_a y379 h346 (rw_ne h346 h377 (by decide))
  have h387 : oA L τ q244 5 := oX_a y379 h347 (rw_ne h347 h377 (by decide))
  have k388 : σ378.1 587 a0 = 0 := (oX_ki y379 h341 (rw_ne h341 h377 (by decide))).trans k348
  have k389 : σ378.1 588 a0 = 0 := (oX_ki y379 h341 (rw_ne h341 h377 (by decide))).trans k349
  have k390 : σ378.1 385 q3 = 0 := (oX_ki y379 h342 (rw_ne h342 h377 (by decide))).trans k350
  have k391 : σ378.1 386 q3 = 0 := (oX_ki y379 h342 (rw_ne h342 h377 (by decide))).trans k351
  have k392 : σ378.1 387 q3 = 80 := (oX_ki y379 h342 (rw_ne h342 h377 (by decide))).trans k352
  have k393 : σ378.1 193 q25 = 0 := (oX_ki y379 h343 (rw_ne h343 h377 (by decide))).trans k353
  have k394 : σ378.1 64 q59 = 0 := (oX_ki y379 h344 (rw_ne h344 h377 (by decide))).trans k354
  have k395 : σ378.1 65 q59 = 0 := (oX_ki y379 h344 (rw_ne h344 h377 (by decide))).trans k355
  have k396 : σ378.1 66 q59 = 0 := (oX_ki y379 h344 (rw_ne h344 h377 (by decide))).trans k356
  have k397 : σ378.1 257 q103 = 0 := (oX_ki y379 h345 (rw_ne h345 h377 (by decide))).trans k357
  have k398 : σ378.1 259 q103 = 0 := (oX_ki y379 h345 (rw_ne h345 h377 (by decide))).trans k358
  have k399 : σ378.1 261 q103 = 0 := (oX_ki y379 h345 (rw_ne h345 h377 (by decide))).trans k359
  have k400 : σ378.1 263 q103 = 0 := (oX_ki y379 h345 (rw_ne h345 h377 (by decide))).trans k360
  have k401 : σ378.1 264 q103 = 0 := (oX_ki y379 h345 (rw_ne h345 h377 (by decide))).trans k361
  have k402 : σ378.1 265 q103 = 0 := (oX_ki y379 h345 (rw_ne h345 h377 (by decide))).trans k362
  have k403 : σ378.1 514 q164 = 12 := (oX_ki y379 h346 (rw_ne h346 h377 (by decide))).trans k363
  have k404 : σ378.1 515 q164 = 6 := (oX_ki y379 h346 (rw_ne h346 h377 (by decide))).trans k364
  have k405 : σ378.1 327 q244 = 0 := (oX_ki y379 h347 (rw_ne h347 h377 (by decide))).trans k365
  have k406 : σ378.1 328 q244 = 0 := (oX_ki y379 h347 (rw_ne h347 h377 (by decide))).trans k366
  have k407 : σ378.1 329 q244 = 0 := (oX_ki y379 h347 (rw_ne h347 h377 (by decide))).trans k367
  have k408 : σ378.1 330 q244 = 0 := (oX_ki y379 h347 (rw_ne h347 h377 (by decide))).trans k368
  have k409 : σ378.1 331 q244 = 0 := (oX_ki y379 h347 (rw_ne h347 h377 (by decide))).trans k369
  have k410 : σ378.2.2.2.2 576 a0 = some q3 := (oX_kr y379 h341 (rw_ne h341 h377 (by decide))).trans k370
  have k411 : σ378.2.2.2.2 577 a0 = some q25 := (oX_kr y379 h341 (rw_ne h341 h377 (by decide))).trans k371
  have k412 : σ378.2.2.2.2 578 a0 = some q59 := (oX_kr y379 h341 (rw_ne h341 h377 (by decide))).trans k372
  have k413 : σ378.2.2.2.2 579 a0 = some q103 := (oX_kr y379 h341 (rw_ne h341 h377 (by decide))).trans k373
  have k414 : σ378.2.2.2.2 580 a0 = some q164 := (oX_kr y379 h341 (rw_ne h341 h377 (by decide))).trans k374
  have k415 : σ378.2.2.2.2 581 a0 = some q244 := (oX_kr y379 h341 (rw_ne h341 h377 (by decide))).trans k375
  have h416 : oA L τ q338 5 := oX_q y379 h377 t380
  refine o_putrF cx hw 9 6 rfl fiX10 tyX10 tyX10_ok nmX10 h381 (by decide) (by decide) rfl (by decide) rfl rfl rfl rfl hin rfl rfl k_f_X10_53 dX10_init_86 (fun σ418 H locs e417 hw => ?_)
  have k419 : σ418.1 587 a0 = 0 := (kp_r e417).trans k388
  have k420 : σ418.1 588 a0 = 0 := (kp_r e417).trans k389
  have k421 : σ418.1 385 q3 = 0 := (kp_r e417).trans k390
  have k422 : σ418.1 386 q3 = 0 := (kp_r e417).trans k391
  have k423 : σ418.1 387 q3 = 80 := (kp_r e417).trans k392
  have k424 : σ418.1 193 q25 = 0 := (kp_r e417).trans k393
  have k425 : σ418.1 64 q59 = 0 := (kp_r e417).trans k394
  have k426 : σ418.1 65 q59 = 0 := (kp_r e417).trans k395
  have k427 : σ418.1 66 q59 = 0 := (kp_r e417).trans k396
  have k428 : σ418.1 257 q103 = 0 := (kp_r e417).trans k397
  have k429 : σ418.1 259 q103 = 0 := (kp_r e417).trans k398
  have k430 : σ418.1 261 q103 = 0 := (kp_r e417).trans k399
  have k431 : σ418.1 263 q103 = 0 := (kp_r e417).trans k400
  have k432 : σ418.1 264 q103 = 0 := (kp_r e417).trans k401
  have k433 : σ418.1 265 q103 = 0 := (kp_r e417).trans k402
  have k434 : σ418.1 514 q164 = 12 := (kp_r e417).trans k403
  have k435 : σ418.1 515 q164 = 6 := (kp_r e417).trans k404
  have k436 : σ418.1 327 q244 = 0 := (kp_r e417).trans k405
  have k437 : σ418.1 328 q244 = 0 := (kp_r e417).trans k406
  have k438 : σ418.1 329 q244 = 0 := (kp_r e417).trans k407
  have k439 : σ418.1 330 q244 = 0 := (kp_r e417).trans k408
  have k440 : σ418.1 331 q244 = 0 := (kp_r e417).trans k409
  have k441 : σ418.1 327 q338 = 0 := (kp_r e417).trans fy379_327
  have k442 : σ418.1 328 q338 = 0 := (kp_r e417).trans fy379_328
  have k443 : σ418.1 329 q338 = 0 := (kp_r e417).trans fy379_329
  have k444 : σ418.1 330 q338 = 0 := (kp_r e417).trans fy379_330
  have k445 : σ418.1 331 q338 = 0 := (kp_r e417).trans fy379_331
  have k446 : σ418.2.2.2.2 576 a0 = some q3 := (kr_r e417 (by decide)).trans k410
  have k447 : σ418.2.2.2.2 577 a0 = some q25 := (kr_r e417 (by decide)).trans k411
  have k448 : σ418.2.2.2.2 578 a0 = some q59 := (kr_r e417 (by decide)).trans k412
  have k449 : σ418.2.2.2.2 579 a0 = some q103 := (kr_r e417 (by decide)).trans k413
  have k450 : σ418.2.2.2.2 580 a0 = some q164 := (kr_r e417 (by decide)).trans k414
  have k451 : σ418.2.2.2.2 581 a0 = some q244 := (kr_r e417 (by decide)).trans k415
  have k452 : σ418.2.2.2.2 582 a0 = some q338 := kr_s e417
  refine lv_aload_n hx hb dX10_init_89 rfl (lv_at hl 0 rfl) ?_
  refine o_new cx hA hw 0 (by decide) rfl fiX1 tyX1 tyX1_ok dfX1 k_c_X10_56 k_n_X1 k_i_X1 (by decide) (by decide) dX10_init_90 (fun q453 L τ σ455 H g454 hw => ?_)
  have h456 : oA L τ a0 25 := oG_a g454 h381
  have h457 : oA L τ q3 6 := oG_a g454 h382
  have h458 : oA L τ q25 3 := oG_a g454 h383
  have h459 : oA L τ q59 1 := oG_a g454 h384
  have h460 : oA L τ q103 4 := oG_a g454 h385
  have h461 : oA L τ q164 8 := oG_a g454 h386
  have h462 : oA L τ q244 5 := oG_a g454 h387
  have h463 : oA L τ q338 5 := oG_a g454 h416
  have k464 : σ455.1 587 a0 = 0 := (oG_i g454 h381).trans k419
  have k465 : σ455.1 588 a0 = 0 := (oG_i g454 h381).trans k420
  have k466 : σ455.1 385 q3 = 0 := (oG_i g454 h382).trans k421
  have k467 : σ455.1 386 q3 = 0 := (oG_i g454 h382).trans k422
  have k468 : σ455.1 387 q3 = 80 := (oG_i g454 h382).trans k423
  have k469 : σ455.1 193 q25 = 0 := (oG_i g454 h383).trans k424
  have k470 : σ455.1 64 q59 = 0 := (oG_i g454 h384).trans k425
  have k471 : σ455.1 65 q59 = 0 := (oG_i g454 h384).trans k426
  have k472 : σ455.1 66 q59 = 0 := (oG_i g454 h384).trans k427
  have k473 : σ455.1 257 q103 = 0 := (oG_i g454 h385).trans k428
  have k474 : σ455.1 259 q103 = 0 := (oG_i g454 h385).trans k429
  have k475 : σ455.1 261 q103 = 0 := (oG_i g454 h385).trans k430
  have k476 : σ455.1 263 q103 = 0 := (oG_i g454 h385).trans k431
  have k477 : σ455.1 264 q103 = 0 := (oG_i g454 h385).trans k432
  have k478 : σ455.1 265 q103 = 0 := (oG_i g454 h385).trans k433
  have k479 : σ455.1 514 q164 = 12 := (oG_i g454 h386).trans k434
  have k480 : σ455.1 515 q164 = 6 := (oG_i g454 h386).trans k435
  have k481 : σ455.1 327 q244 = 0 := (oG_i g454 h387).trans k436
  have k482 : σ455.1 328 q244 = 0 := (oG_i g454 h387).trans k437
  have k483 : σ455.1 329 q244 = 0 := (oG_i g454 h387).trans k438
  have k484 : σ455.1 330 q244 = 0 := (oG_i g454 h387).trans k439
  have k485 : σ455.1 331 q244 = 0 := (oG_i g454 h387).trans k440
  have k486 : σ455.1 327 q338 = 0 := (oG_i g454 h416).trans k441
  have k487 : σ455.1 328 q338 = 0 := (oG_i g454 h416).trans k442
  have k488 : σ455.1 329 q338 = 0 := (oG_i g454 h416).trans k443
  have k489 : σ455.1 330 q338 = 0 := (oG_i g454 h416).trans k444
  have k490 : σ455.1 331 q338 = 0 := (oG_i g454 h416).trans k445
  have k491 : σ455.2.2.2.2 576 a0 = some q3 := (oG_r g454 h381).trans k446
  have k492 : σ455.2.2.2.2 577 a0 = some q25 := (oG_r g454 h381).trans k447
  have k493 : σ455.2.2.2.2 578 a0 = some q59 := (oG_r g454 h381).trans k448
  have k494 : σ455.2.2.2.2 579 a0 = some q103 := (oG_r g454 h381).trans k449
  have k495 : σ455.2.2.2.2 580 a0 = some q164 := (oG_r g454 h381).trans k450
  have k496 : σ455.2.2.2.2 581 a0 = some q244 := (oG_r g454 h381).trans k451
  have k497 : σ455.2.2.2.2 582 a0 = some q338 := (oG_r g454 h381).trans k452
  have h498 : oA L τ q453 16 := oG_q g454
  refine lv_dup hx hb dX10_init_93 rfl ?_
  refine lv_aload_n hx hb dX10_init_94 rfl (lv_at hl 0 rfl) ?_
  refine o_getK cx hw 9 5 rfl fiX10 h456 (by decide) rfl (by decide) rfl rfl k_f_X10_49 (j := 581) rfl k496 dX10_init_95 ?_
  refine lv_aload_n hx hb dX10_init_98 rfl (lv_at hl 0 rfl) ?_
  refine o_getK cx hw 9 2 rfl fiX10 h456 (by decide) rfl (by decide) rfl rfl k_f_X10_26 (j := 578) rfl k493 dX10_init_99 ?_
  refine lv_aload_n hx hb dX10_init_102 rfl (lv_at hl 0 rfl) ?_
  refine o_getK cx hw 9 4 rfl fiX10 h456 (by decide) rfl (by decide) rfl rfl k_f_X10_42 (j := 580) rfl k495 dX10_init_103 ?_
  refine o_cI hw (oRunI cx hA hw q_X1_init k_m_X10_58 (As := [.ref q244, .ref q59, .ref q164]) (c_X1_init q453 h498 (fun j => oG_zi g454) (fun j => oG_zl g454) q244 h462 q59 h459 q164 h461) (by decide) rfl hl.1 rfl (Nat.le_of_ble_eq_true rfl) dX10_init_106 (by decide)) (fun L τ σ499 H locs hp hw => ?_)
  obtain ⟨y500, t501, fy500_6, fy500_7, xy500_0⟩ := hp
  have h502 : oA L τ a0 25 := oX_a y500 h456 (rw_ne h456 h498 (by decide))
  have h503 : oA L τ q3 6 := oX_a y500 h457 (rw_ne h457 h498 (by decide))
  have h504 : oA L τ q25 3 := oX_a y500 h458 (rw_ne h458 h498 (by decide))
  have h505 : oA L τ q59 1 := oX_a y500 h459 (rw_ne h459 h498 (by decide))
  have h506 : oA L τ q103 4 := oX_a y500 h460 (rw_ne h460 h498 (by decide))
  have h507 : oA L τ q164 8 := oX_a y500 h461 (rw_ne h461 h498 (by decide))
  have h508 : oA L τ q244 5 := oX_a y500 h462 (rw_ne h462 h498 (by decide))
  have h509 : oA L τ q338 5 := oX_a y500 h463 (rw_ne h463 h498 (by decide))
  have k510 : σ499.1 587 a0 = 0 := (oX_ki y500 h456 (rw_ne h456 h498 (by decide))).trans k464
  have k511 : σ499.1 588 a0 = 0 := (oX_ki y500 h456 (rw_ne h456 h498 (by decide))).trans k465
  have k512 : σ499.1 385 q3 = 0 := (oX_ki y500 h457 (rw_ne h457 h498 (by decide))).trans k466
  have k513 : σ499.1 386 q3 = 0 := (oX_ki y500 h457 (rw_ne h457 h498 (by decide))).trans k467
  have k514 : σ499.1 387 q3 = 80 := (oX_ki y500 h457 (rw_ne h457 h498 (by decide))).trans k468
  have k515 : σ499.1 193 q25 = 0 := (oX_ki y500 h458 (rw_ne h458 h498 (by decide))).trans k469
  have k516 : σ499.1 64 q59 = 0 := (oX_ki y500 h459 (rw_ne h459 h498 (by decide))).trans k470
  have k517 : σ499.1 65 q59 = 0 := (oX_ki y500 h459 (rw_ne h459 h498 (by decide))).trans k471
  have k518 : σ499.1 66 q59 = 0 := (oX_ki y500 h459 (rw_ne h459 h498 (by decide))).trans k472
  have k519 : σ499.1 257 q103 = 0 := (oX_ki y500 h460 (rw_ne h460 h498 (by decide))).trans k473
  have k520 : σ499.1 259 q103 = 0 := (oX_ki y500 h460 (rw_ne h460 h498 (by decide))).trans k474
  have k521 : σ499.1 261 q103 = 0 := (oX_ki y500 h460 (rw_ne h460 h498 (by decide))).trans k475
  have k522 : σ499.1 263 q103 = 0 := (oX_ki y500 h460 (rw_ne h460 h498 (by decide))).trans k476
  have k523 : σ499.1 264 q103 = 0 := (oX_ki y500 h460 (rw_ne h460 h498 (by decide))).trans k477
  have k524 : σ499.1 265 q103 = 0 := (oX_ki y500 h460 (rw_ne h460 h498 (by decide))).trans k478
  have k525 : σ499.1 514 q164 = 12 := (oX_ki y500 h461 (rw_ne h461 h498 (by decide))).trans k479
  have k526 : σ499.1 515 q164 = 6 := (oX_ki y500 h461 (rw_ne h461 h498 (by decide))).trans k480
  have k527 : σ499.1 327 q244 = 0 := (oX_ki y500 h462 (rw_ne h462 h498 (by decide))).trans k481
  have k528 : σ499.1 328 q244 = 0 := (oX_ki y500 h462 (rw_ne h462 h498 (by decide))).trans k482
  have k529 : σ499.1 329 q244 = 0 := (oX_ki y500 h462 (rw_ne h462 h498 (by decide))).trans k483
  have k530 : σ499.1 330 q244 = 0 := (oX_ki y500 h462 (rw_ne h462 h498 (by decide))).trans k484
  have k531 : σ499.1 331 q244 = 0 := (oX_ki y500 h462 (rw_ne h462 h498 (by decide))).trans k485
  have k532 : σ499.1 327 q338 = 0 := (oX_ki y500 h463 (rw_ne h463 h498 (by decide))).trans k486
  have k533 : σ499.1 328 q338 = 0 := (oX_ki y500 h463 (rw_ne h463 h498 (by decide))).trans k487
  have k534 : σ499.1 329 q338 = 0 := (oX_ki y500 h463 (rw_ne h463 h498 (by decide))).trans k488
  have k535 : σ499.1 330 q338 = 0 := (oX_ki y500 h463 (rw_ne h463 h498 (by decide))).trans k489
  have k536 : σ499.1 331 q338 = 0 := (oX_ki y500 h463 (rw_ne h463 h498 (by decide))).trans k490
  have k537 : σ499.2.2.2.2 576 a0 = some q3 := (oX_kr y500 h456 (rw_ne h456 h498 (by decide))).trans k491
  have k538 : σ499.2.2.2.2 577 a0 = some q25 := (oX_kr y500 h456 (rw_ne h456 h498 (by decide))).trans k492
  have k539 : σ499.2.2.2.2 578 a0 = some q59 := (oX_kr y500 h456 (rw_ne h456 h498 (by decide))).trans k493
  have k540 : σ499.2.2.2.2 579 a0 = some q103 := (oX_kr y500 h456 (rw_ne h456 h498 (by decide))).trans k494
  have k541 : σ499.2.2.2.2 580 a0 = some q164 := (oX_kr y500 h456 (rw_ne h456 h498 (by decide))).trans k495
  have k542 : σ499.2.2.2.2 581 a0 = some q244 := (oX_kr y500 h456 (rw_ne h456 h498 (by decide))).trans k496
  have k543 : σ499.2.2.2.2 582 a0 = some q338 := (oX_kr y500 h456 (rw_ne h456 h498 (by decide))).trans k497
  have h544 : oA L τ q453 0 := oX_q y500 h498 t501
  refine o_putrF cx hw 9 7 rfl fiX10 tyX10 tyX10_ok nmX10 h502 (by decide) (by decide) rfl (by decide) rfl rfl rfl rfl hin rfl rfl k_f_X10_61 dX10_init_109 (fun σ546 H locs e545 hw => ?_)
  have k547 : σ546.1 587 a0 = 0 := (kp_r e545).trans k510
  have k548 : σ546.1 588 a0 = 0 := (kp_r e545).trans k511
  have k549 : σ546.1 385 q3 = 0 := (kp_r e545).trans k512
  have k550 : σ546.1 386 q3 = 0 := (kp_r e545).trans k513
  have k551 : σ546.1 387 q3 = 80 := (kp_r e545).trans k514
  have k552 : σ546.1 193 q25 = 0 := (kp_r e545).trans k515
  have k553 : σ546.1 64 q59 = 0 := (kp_r e545).trans k516
  have k554 : σ546.1 65 q59 = 0 := (kp_r e545).trans k517
  have k555 : σ546.1 66 q59 = 0 := (kp_r e545).trans k518
  have k556 : σ546.1 257 q103 = 0 := (kp_r e545).trans k519
  have k557 : σ546.1 259 q103 = 0 := (kp_r e545).trans k520
  have k558 : σ546.1 261 q103 = 0 := (kp_r e545).trans k521
  have k559 : σ546.1 263 q103 = 0 := (kp_r e545).trans k522
  have k560 : σ546.1 264 q103 = 0 := (kp_r e545).trans k523
  have k561 : σ546.1 265 q103 = 0 := (kp_r e545).trans k524
  have k562 : σ546.1 514 q164 = 12 := (kp_r e545).trans k525
  have k563 : σ546.1 515 q164 = 6 := (kp_r e545).trans k526
  have k564 : σ546.1 327 q244 = 0 := (kp_r e545).trans k527
  have k565 : σ546.1 328 q244 = 0 := (kp_r e545).trans k528
  have k566 : σ546.1 329 q244 = 0 := (kp_r e545).trans k529
  have k567 : σ546.1 330 q244 = 0 := (kp_r e545).trans k530
  have k568 : σ546.1 331 q244 = 0 := (kp_r e545).trans k531
  have k569 : σ546.1 327 q338 = 0 := (kp_r e545).trans k532
  have k570 : σ546.1 328 q338 = 0 := (kp_r e545).trans k533
  have k571 : σ546.1 329 q338 = 0 := (kp_r e545).trans k534
  have k572 : σ546.1 330 q338 = 0 := (kp_r e545).trans k535
  have k573 : σ546.1 331 q338 = 0 := (kp_r e545).trans k536
  have k574 : σ546.1 6 q453 = 0 := (kp_r e545).trans fy500_6
  have k575 : σ546.1 7 q453 = 0 := (kp_r e545).trans fy500_7
  have k576 : σ546.2.2.2.2 576 a0 = some q3 := (kr_r e545 (by decide)).trans k537
  have k577 : σ546.2.2.2.2 577 a0 = some q25 := (kr_r e545 (by decide)).trans k538
  have k578 : σ546.2.2.2.2 578 a0 = some q59 := (kr_r e545 (by decide)).trans k539
  have k579 : σ546.2.2.2.2 579 a0 = some q103 := (kr_r e545 (by decide)).trans k540
  have k580 : σ546.2.2.2.2 580 a0 = some q164 := (kr_r e545 (by decide)).trans k541
  have k581 : σ546.2.2.2.2 581 a0 = some q244 := (kr_r e545 (by decide)).trans k542
  have k582 : σ546.2.2.2.2 582 a0 = some q338 := (kr_r e545 (by decide)).trans k543
  have k583 : σ546.2.2.2.2 0 q453 = some q244 := (kr_r e545 (by decide)).trans xy500_0
  have k584 : σ546.2.2.2.2 583 a0 = some q453 := kr_s e545
  refine lv_aload_n hx hb dX10_init_112 rfl (lv_at hl 0 rfl) ?_
  refine o_new cx hA hw 7 (by decide) rfl fiX8 tyX8 tyX8_ok dfX8 k_c_X10_65 k_n_X8 k_i_X8 (by decide) (by decide) dX10_init_113 (fun q585 L τ σ587 H g586 hw => ?_)
  have h588 : oA L τ a0 25 := oG_a g586 h502
  have h589 : oA L τ q3 6 := oG_a g586 h503
  have h590 : oA L τ q25 3 := oG_a g586 h504
  have h591 : oA L τ q59 1 := oG_a g586 h505
  have h592 : oA L τ q103 4 := oG_a g586 h506
  have h593 : oA L τ q164 8 := oG_a g586 h507
  have h594 : oA L τ q244 5 := oG_a g586 h508
  have h595 : oA L τ q338 5 := oG_a g586 h509
  have h596 : oA L τ q453 0 := oG_a g586 h544
  have k597 : σ587.1 587 a0 = 0 := (oG_i g586 h502).trans k547
  have k598 : σ587.1 588 a0 = 0 := (oG_i g586 h502).trans k548
  have k599 : σ587.1 385 q3 = 0 := (oG_i g586 h503).trans k549
  have k600 : σ587.1 386 q3 = 0 := (oG_i g586 h503).trans k550
  have k601 : σ587.1 387 q3 = 80 := (oG_i g586 h503).trans k551
  have k602 : σ587.1 193 q25 = 0 := (oG_i g586 h504).trans k552
  have k603 : σ587.1 64 q59 = 0 := (oG_i g586 h505).trans k553
  have k604 : σ587.1 65 q59 = 0 := (oG_i g586 h505).trans k554
  have k605 : σ587.1 66 q59 = 0 := (oG_i g586 h505).trans k555
  have k606 : σ587.1 257 q103 = 0 := (oG_i g586 h506).trans k556
  have k607 : σ587.1 259 q103 = 0 := (oG_i g586 h506).trans k557
  have k608 : σ587.1 261 q103 = 0 := (oG_i g586 h506).trans k558
  have k609 : σ587.1 263 q103 = 0 := (oG_i g586 h506).trans k559
  have k610 : σ587.1 264 q103 = 0 := (oG_i g586 h506).trans k560
  have k611 : σ587.1 265 q103 = 0 := (oG_i g586 h506).trans k561
  have k612 : σ587.1 514 q164 = 12 := (oG_i g586 h507).trans k562
  have k613 : σ587.1 515 q164 = 6 := (oG_i g586 h507).trans k563
  have k614 : σ587.1 327 q244 = 0 := (oG_i g586 h508).trans k564
  have k615 : σ587.1 328 q244 = 0 := (oG_i g586 h508).trans k565
  have k616 : σ587.1 329 q244 = 0 := (oG_i g586 h508).trans k566
  have k617 : σ587.1 330 q244 = 0 := (oG_i g586 h508).trans k567
  have k618 : σ587.1 331 q244 = 0 := (oG_i g586 h508).trans k568
  have k619 : σ587.1 327 q338 = 0 := (oG_i g586 h509).trans k569
  have k620 : σ587.1 328 q338 = 0 := (oG_i g586 h509).trans k570
  have k621 : σ587.1 329 q338 = 0 := (oG_i g586 h509).trans k571
  have k622 : σ587.1 330 q338 = 0 := (oG_i g586 h509).trans k572
  have k623 : σ587.1 331 q338 = 0 := (oG_i g586 h509).trans k573
  have k624 : σ587.1 6 q453 = 0 := (oG_i g586 h544).trans k574
  have k625 : σ587.1 7 q453 = 0 := (oG_i g586 h544).trans k575
  have k626 : σ587.2.2.2.2 576 a0 = some q3 := (oG_r g586 h502).trans k576
  have k627 : σ587.2.2.2.2 577 a0 = some q25 := (oG_r g586 h502).trans k577
  have k628 : σ587.2.2.2.2 578 a0 = some q59 := (oG_r g586 h502).trans k578
  have k629 : σ587.2.2.2.2 579 a0 = some q103 := (oG_r g586 h502).trans k579
  have k630 : σ587.2.2.2.2 580 a0 = some q164 := (oG_r g586 h502).trans k580
  have k631 : σ587.2.2.2.2 581 a0 = some q244 := (oG_r g586 h502).trans k581
  have k632 : σ587.2.2.2.2 582 a0 = some q338 := (oG_r g586 h502).trans k582
  have k633 : σ587.2.2.2.2 0 q453 = some q244 := (oG_r g586 h544).trans k583
  have k634 : σ587.2.2.2.2 583 a0 = some q453 := (oG_r g586 h502).trans k584
  have h635 : oA L τ q585 23 := oG_q g586
  refine lv_dup hx hb dX10_init_116 rfl ?_
  refine o_cI hw (oRunIN cx hA hw q_X8_init cx.2.2.2.2.2.2.2.2.2.2.2.2.2.1 (As := []) (c_X8_init q585 h635 (fun j => oG_zi g586) (fun j => oG_zl g586) ) (by decide) rfl hl.1 rfl (Nat.le_of_ble_eq_true rfl) dX10_init_117 (by decide)) (fun L τ σ636 H locs hp hw => ?_)
  obtain ⟨y637, t638⟩ := hp
  have h639 : oA L τ a0 25 := oX_a y637 h588 (rw_ne h588 h635 (by decide))
  have h640 : oA L τ q3 6 := oX_a y637 h589 (rw_ne h589 h635 (by decide))
  have h641 : oA L τ q25 3 := oX_a y637 h590 (rw_ne h590 h635 (by decide))
  have h642 : oA L τ q59 1 := oX_a y637 h591 (rw_ne h591 h635 (by decide))
  have h643 : oA L τ q103 4 := oX_a y637 h592 (rw_ne h592 h635 (by decide))
  have h644 : oA L τ q164 8 := oX_a y637 h593 (rw_ne h593 h635 (by decide))
  have h645 : oA L τ q244 5 := oX_a y637 h594 (rw_ne h594 h635 (by decide))
  have h646 : oA L τ q338 5 := oX_a y637 h595 (rw_ne h595 h635 (by decide))
  have h647 : oA L τ q453 0 := oX_a y637 h596 (rw_ne h596 h635 (by decide))
  have k648 : σ636.1 587 a0 = 0 := (oX_ki y637 h588 (rw_ne h588 h635 (by decide))).trans k597
  have k649 : σ636.1 588 a0 = 0 := (oX_ki y637 h588 (rw_ne h588 h635 (by decide))).trans k598
  have k650 : σ636.1 385 q3 = 0 := (oX_ki y637 h589 (rw_ne h589 h635 (by decide))).trans k599
  have k651 : σ636.1 386 q3 = 0 := (oX_ki y637 h589 (rw_ne h589 h635 (by decide))).trans k600
  have k652 : σ636.1 387 q3 = 80 := (oX_ki y637 h589 (rw_ne h589 h635 (by decide))).trans k601
  have k653 : σ636.1 193 q25 = 0 := (oX_ki y637 h590 (rw_ne h590 h635 (by decide))).trans k602
  have k654 : σ636.1 64 q59 = 0 := (oX_ki y637 h591 (rw_ne h591 h635 (by decide))).trans k603
  have k655 : σ636.1 65 q59 = 0 := (oX_ki y637 h591 (rw_ne h591 h635 (by decide))).trans k604
  have k656 : σ636.1 66 q59 = 0 := (oX_ki y637 h591 (rw_ne h591 h635 (by decide))).trans k605
  have k657 : σ636.1 257 q103 = 0 := (oX_ki y637 h592 (rw_ne h592 h635 (by decide))).trans k606
  have k658 : σ636.1 259 q103 = 0 := (oX_ki y637 h592 (rw_ne h592 h635 (by decide))).trans k607
  have k659 : σ636.1 261 q103 = 0 := (oX_ki y637 h592 (rw_ne h592 h635 (by decide))).trans k608
  have k660 : σ636.1 263 q103 = 0 := (oX_ki y637 h592 (rw_ne h592 h635 (by decide))).trans k609
  have k661 : σ636.1 264 q103 = 0 := (oX_ki y637 h592 (rw_ne h592 h635 (by decide))).trans k610
  have k662 : σ636.1 265 q103 = 0 := (oX_ki y637 h592 (rw_ne h592 h635 (by decide))).trans k611
  have k663 : σ636.1 514 q164 = 12 := (oX_ki y637 h593 (rw_ne h593 h635 (by decide))).trans k612
  have k664 : σ636.1 515 q164 = 6 := (oX_ki y637 h593 (rw_ne h593 h635 (by decide))).trans k613
  have k665 : σ636.1 327 q244 = 0 := (oX_ki y637 h594 (rw_ne h594 h635 (by decide))).trans k614
  have k666 : σ636.1 328 q244 = 0 := (oX_ki y637 h594 (rw_ne h594 h635 (by decide))).trans k615
  have k667 : σ636.1 329 q244 = 0 := (oX_ki y637 h594 (rw_ne h594 h635 (by decide))).trans k616
  have k668 : σ636.1 330 q244 = 0 := (oX_ki y637 h594 (rw_ne h594 h635 (by decide))).trans k617
  have k669 : σ636.1 331 q244 = 0 := (oX_ki y637 h594 (rw_ne h594 h635 (by decide))).trans k618
  have k670 : σ636.1 327 q338 = 0 := (oX_ki y637 h595 (rw_ne h595 h635 (by decide))).trans k619
  have k671 : σ636.1 328 q338 = 0 := (oX_ki y637 h595 (rw_ne h595 h635 (by decide))).trans k620
  have k672 : σ636.1 329 q338 = 0 := (oX_ki y637 h595 (rw_ne h595 h635 (by decide))).trans k621
  have k673 : σ636.1 330 q338 = 0 := (oX_ki y637 h595 (rw_ne h595 h635 (by decide))).trans k622
  have k674 : σ636.1 331 q338 = 0 := (oX_ki y637 h595 (rw_ne h595 h635 (by decide))).trans k623
  have k675 : σ636.1 6 q453 = 0 := (oX_ki y637 h596 (rw_ne h596 h635 (by decide))).trans k624
  have k676 : σ636.1 7 q453 = 0 := (oX_ki y637 h596 (rw_ne h596 h635 (by decide))).trans k625
  have k677 : σ636.2.2.2.2 576 a0 = some q3 := (oX_kr y637 h588 (rw_ne h588 h635 (by decide))).trans k626
  have k678 : σ636.2.2.2.2 577 a0 = some q25 := (oX_kr y637 h588 (rw_ne h588 h635 (by decide))).trans k627
  have k679 : σ636.2.2.2.2 578 a0 = some q59 := (oX_kr y637 h588 (rw_ne h588 h635 (by decide))).trans k628
  have k680 : σ636.2.2.2.2 579 a0 = some q103 := (oX_kr y637 h588 (rw_ne h588 h635 (by decide))).trans k629
  have k681 : σ636.2.2.2.2 580 a0 = some q164 := (oX_kr y637 h588 (rw_ne h588 h635 (by decide))).trans k630
  have k682 : σ636.2.2.2.2 581 a0 = some q244 := (oX_kr y637 h588 (rw_ne h588 h635 (by decide))).trans k631
  have k683 : σ636.2.2.2.2 582 a0 = some q338 := (oX_kr y637 h588 (rw_ne h588 h635 (by decide))).trans k632
  have k684 : σ636.2.2.2.2 0 q453 = some q244 := (oX_kr y637 h596 (rw_ne h596 h635 (by decide))).trans k633
  have k685 : σ636.2.2.2.2 583 a0 = some q453 := (oX_kr y637 h588 (rw_ne h588 h635 (by decide))).trans k634
  have h686 : oA L τ q585 7 := oX_q y637 h635 t638
  refine o_putrF cx hw 9 8 rfl fiX10 tyX10 tyX10_ok nmX10 h639 (by decide) (by decide) rfl (by decide) rfl rfl rfl rfl hin rfl rfl k_f_X10_68 dX10_init_120 (fun σ688 H locs e687 hw => ?_)
  have k689 : σ688.1 587 a0 = 0 := (kp_r e687).trans k648
  have k690 : σ688.1 588 a0 = 0 := (kp_r e687).trans k649
  have k691 : σ688.1 385 q3 = 0 := (kp_r e687).trans k650
  have k692 : σ688.1 386 q3 = 0 := (kp_r e687).trans k651
  have k693 : σ688.1 387 q3 = 80 := (kp_r e687).trans k652
  have k694 : σ688.1 193 q25 = 0 := (kp_r e687).trans k653
  have k695 : σ688.1 64 q59 = 0 := (kp_r e687).trans k654
  have k696 : σ688.1 65 q59 = 0 := (kp_r e687).trans k655
  have k697 : σ688.1 66 q59 = 0 := (kp_r e687).trans k656
  have k698 : σ688.1 257 q103 = 0 := (kp_r e687).trans k657
  have k699 : σ688.1 259 q103 = 0 := (kp_r e687).trans k658
  have k700 : σ688.1 261 q103 = 0 := (kp_r e687).trans k659
  have k701 : σ688.1 263 q103 = 0 := (kp_r e687).trans k660
  have k702 : σ688.1 264 q103 = 0 := (kp_r e687).trans k661
  have k703 : σ688.1 265 q103 = 0 := (kp_r e687).trans k662
  have k704 : σ688.1 514 q164 = 12 := (kp_r e687).trans k663
  have k705 : σ688.1 515 q164 = 6 := (kp_r e687).trans k664
  have k706 : σ688.1 327 q244 = 0 := (kp_r e687).trans k665
  have k707 : σ688.1 328 q244 = 0 := (kp_r e687).trans k666
  have k708 : σ688.1 329 q244 = 0 := (kp_r e687).trans k667
  have k709 : σ688.1 330 q244 = 0 := (kp_r e687).trans k668
  have k710 : σ688.1 331 q244 = 0 := (kp_r e687).trans k669
  have k711 : σ688.1 327 q338 = 0 := (kp_r e687).trans k670
  have k712 : σ688.1 328 q338 = 0 := (kp_r e687).trans k671
  have k713 : σ688.1 329 q338 = 0 := (kp_r e687).trans k672
  have k714 : σ688.1 330 q338 = 0 := (kp_r e687).trans k673
  have k715 : σ688.1 331 q338 = 0 := (kp_r e687).trans k674
  have k716 : σ688.1 6 q453 = 0 := (kp_r e687).trans k675
  have k717 : σ688.1 7 q453 = 0 := (kp_r e687).trans k676
  have k718 : σ688.2.2.2.2 576 a0 = some q3 := (kr_r e687 (by decide)).trans k677
  have k719 : σ688.2.2.2.2 577 a0 = some q25 := (kr_r e687 (by decide)).trans k678
  have k720 : σ688.2.2.2.2 578 a0 = some q59 := (kr_r e687 (by decide)).trans k679
  have k721 : σ688.2.2.2.2 579 a0 = some q103 := (kr_r e687 (by decide)).trans k680
  have k722 : σ688.2.2.2.2 580 a0 = some q164 := (kr_r e687 (by decide)).trans k681
  have k723 : σ688.2.2.2.2 581 a0 = some q244 := (kr_r e687 (by decide)).trans k682
  have k724 : σ688.2.2.2.2 582 a0 = some q338 := (kr_r e687 (by decide)).trans k683
  have k725 : σ688.2.2.2.2 0 q453 = some q244 := (kr_r e687 (by decide)).trans k684
  have k726 : σ688.2.2.2.2 583 a0 = some q453 := (kr_r e687 (by decide)).trans k685
  have k727 : σ688.2.2.2.2 584 a0 = some q585 := kr_s e687
  refine lv_aload_n hx hb dX10_init_123 rfl (lv_at hl 0 rfl) ?_
  refine o_new cx hA hw 2 (by decide) rfl fiX3 tyX3 tyX3_ok dfX3 k_c_X10_72 k_n_X3 k_i_X3 (by decide) (by decide) dX10_init_124 (fun q728 L τ σ730 H g729 hw => ?_)
  have h731 : oA L τ a0 25 := oG_a g729 h639
  have h732 : oA L τ q3 6 := oG_a g729 h640
  have h733 : oA L τ q25 3 := oG_a g729 h641
  have h734 : oA L τ q59 1 := oG_a g729 h642
  have h735 : oA L τ q103 4 := oG_a g729 h643
  have h736 : oA L τ q164 8 := oG_a g729 h644
  have h737 : oA L τ q244 5 := oG_a g729 h645
  have h738 : oA L τ q338 5 := oG_a g729 h646
  have h739 : oA L τ q453 0 := oG_a g729 h647
  have h740 : oA L τ q585 7 := oG_a g729 h686
  have k741 : σ730.1 587 a0 = 0 := (oG_i g729 h639).trans k689
  have k742 : σ730.1 588 a0 = 0 := (oG_i g729 h639).trans k690
  have k743 : σ730.1 385 q3 = 0 := (oG_i g729 h640).trans k691
  have k744 : σ730.1 386 q3 = 0 := (oG_i g729 h640).trans k692
  have k745 : σ730.1 387 q3 = 80 := (oG_i g729 h640).trans k693
  have k746 : σ730.1 193 q25 = 0 := (oG_i g729 h641).trans k694
  have k747 : σ730.1 64 q59 = 0 := (oG_i g729 h642).trans k695
  have k748 : σ730.1 65 q59 = 0 := (oG_i g729 h642).trans k696
  have k749 : σ730.1 66 q59 = 0 := (oG_i g729 h642).trans k697
  have k750 : σ730.1 257 q103 = 0 := (oG_i g729 h643).trans k698
  have k751 : σ730.1 259 q103 = 0 := (oG_i g729 h643).trans k699
  have k752 : σ730.1 261 q103 = 0 := (oG_i g729 h643).trans k700
  have k753 : σ730.1 263 q103 = 0 := (oG_i g729 h643).trans k701
  have k754 : σ730.1 264 q103 = 0 := (oG_i g729 h643).trans k702
  have k755 : σ730.1 265 q103 = 0 := (oG_i g729 h643).trans k703
  have k756 : σ730.1 514 q164 = 12 := (oG_i g729 h644).trans k704
  have k757 : σ730.1 515 q164 = 6 := (oG_i g729 h644).trans k705
  have k758 : σ730.1 327 q244 = 0 := (oG_i g729 h645).trans k706
  have k759 : σ730.1 328 q244 = 0 := (oG_i g729 h645).trans k707
  have k760 : σ730.1 329 q244 = 0 := (oG_i g729 h645).trans k708
  have k761 : σ730.1 330 q244 = 0 := (oG_i g729 h645).trans k709
  have k762 : σ730.1 331 q244 = 0 := (oG_i g729 h645).trans k710
  have k763 : σ730.1 327 q338 = 0 := (oG_i g729 h646).trans k711
  have k764 : σ730.1 328 q338 = 0 := (oG_i g729 h646).trans k712
  have k765 : σ730.1 329 q338 = 0 := (oG_i g729 h646).trans k713
  have k766 : σ730.1 330 q338 = 0 := (oG_i g729 h646).trans k714
  have k767 : σ730.1 331 q338 = 0 := (oG_i g729 h646).trans k715
  have k768 : σ730.1 6 q453 = 0 := (oG_i g729 h647).trans k716
  have k769 : σ730.1 7 q453 = 0 := (oG_i g729 h647).trans k717
  have k770 : σ730.2.2.2.2 576 a0 = some q3 := (oG_r g729 h639).trans k718
  have k771 : σ730.2.2.2.2 577 a0 = some q25 := (oG_r g729 h639).trans k719
  have k772 : σ730.2.2.2.2 578 a0 = some q59 := (oG_r g729 h639).trans k720
  have k773 : σ730.2.2.2.2 579 a0 = some q103 := (oG_r g729 h639).trans k721
  have k774 : σ730.2.2.2.2 580 a0 = some q164 := (oG_r g729 h639).trans k722
  have k775 : σ730.2.2.2.2 581 a0 = some q244 := (oG_r g729 h639).trans k723
  have k776 : σ730.2.2.2.2 582 a0 = some q338 := (oG_r g729 h639).trans k724
  have k777 : σ730.2.2.2.2 0 q453 = some q244 := (oG_r g729 h647).trans k725
  have k778 : σ730.2.2.2.2 583 a0 = some q453 := (oG_r g729 h639).trans k726
  have k779 : σ730.2.2.2.2 584 a0 = some q585 := (oG_r g729 h639).trans k727
  have h780 : oA L τ q728 18 := oG_q g729
  refine lv_dup hx hb dX10_init_127 rfl ?_
  refine o_cI hw (oRunI cx hA hw q_X3_init k_m_X10_74 (As := []) (c_X3_init q728 h780 (fun j => oG_zi g729) (fun j => oG_zl g729) ) (by decide) rfl hl.1 rfl (Nat.le_of_ble_eq_true rfl) dX10_init_128 (by decide)) (fun L τ σ781 H locs hp hw => ?_)
  obtain ⟨y782, t783, fy782_129, fy782_130, xy782_0⟩ := hp
  have h784 : oA L τ a0 25 := oX_a y782 h731 (rw_ne h731 h780 (by decide))
  have h785 : oA L τ q3 6 := oX_a y782 h732 (rw_ne h732 h780 (by decide))
  have h786 : oA L τ q25 3 := oX_a y782 h733 (rw_ne h733 h780 (by decide))
  have h787 : oA L τ q59 1 := oX_a y782 h734 (rw_ne h734 h780 (by decide))
  have h788 : oA L τ q103 4 := oX_a y782 h735 (rw_ne h735 h780 (by decide))
  have h789 : oA L τ q164 8 := oX_a y782 h736 (rw_ne h736 h780 (by decide))
  have h790 : oA L τ q244 5 := oX_a y782 h737 (rw_ne h737 h780 (by decide))
  have h791 : oA L τ q338 5 := oX_a y782 h738 (rw_ne h738 h780 (by decide))
  have h792 : oA L τ q453 0 := oX_a y782 h739 (rw_ne h739 h780 (by decide))
  have h793 : oA L τ q585 7 := oX_a y782 h740 (rw_ne h740 h780 (by decide))
  have k794 : σ781.1 587 a0 = 0 := (oX_ki y782 h731 (rw_ne h731 h780 (by decide))).trans k741
  have k795 : σ781.1 588 a0 = 0 := (oX_ki y782 h731 (rw_ne h731 h780 (by decide))).trans k742
  have k796 : σ781.1 385 q3 = 0 := (oX_ki y782 h732 (rw_ne h732 h780 (by decide))).trans k743
  have k797 : σ781.1 386 q3 = 0 := (oX_ki y782 h732 (rw_ne h732 h780 (by decide))).trans k744
  have k798 : σ781.1 387 q3 = 80 := (oX_ki y782 h732 (rw_ne h732 h780 (by decide))).trans k745
  have k799 : σ781.1 193 q25 = 0 := (oX_ki y782 h733 (rw_ne h733 h780 (by decide))).trans k746
  have k800 : σ781.1 64 q59 = 0 := (oX_ki y782 h734 (rw_ne h734 h780 (by decide))).trans k747
  have k801 : σ781.1 65 q59 = 0 := (oX_ki y782 h734 (rw_ne h734 h780 (by decide))).trans k748
  have k802 : σ781.1 66 q59 = 0 := (oX_ki y782 h734 (rw_ne h734 h780 (by decide))).trans k749
  have k803 : σ781.1 257 q103 = 0 := (oX_ki y782 h735 (rw_ne h735 h780 (by decide))).trans k750
  have k804 : σ781.1 259 q103 = 0 := (oX_ki y782 h735 (rw_ne h735 h780 (by decide))).trans k751
  have k805 : σ781.1 261 q103 = 0 := (oX_ki y782 h735 (rw_ne h735 h780 (by decide))).trans k752
  have k806 : σ781.1 263 q103 = 0 := (oX_ki y782 h735 (rw_ne h735 h780 (by decide))).trans k753
  have k807 : σ781.1 264 q103 = 0 := (oX_ki y782 h735 (rw_ne h735 h780 (by decide))).trans k754
  have k808 : σ781.1 265 q103 = 0 := (oX_ki y782 h735 (rw_ne h735 h780 (by decide))).trans k755
  have k809 : σ781.1 514 q164 = 12 := (oX_ki y782 h736 (rw_ne h736 h780 (by decide))).trans k756
  have k810 : σ781.1 515 q164 = 6 := (oX_ki y782 h736 (rw_ne h736 h780 (by decide))).trans k757
  have k811 : σ781.1 327 q244 = 0 := (oX_ki y782 h737 (rw_ne h737 h780 (by decide))).trans k758
  have k812 : σ781.1 328 q244 = 0 := (oX_ki y782 h737 (rw_ne h737 h780 (by decide))).trans k759
  have k813 : σ781.1 329 q244 = 0 := (oX_ki y782 h737 (rw_ne h737 h780 (by decide))).trans k760
  have k814 : σ781.1 330 q244 = 0 := (oX_ki y782 h737 (rw_ne h737 h780 (by decide))).trans k761
  have k815 : σ781.1 331 q244 = 0 := (oX_ki y782 h737 (rw_ne h737 h780 (by decide))).trans k762
  have k816 : σ781.1 327 q338 = 0 := (oX_ki y782 h738 (rw_ne h738 h780 (by decide))).trans k763
  have k817 : σ781.1 328 q338 = 0 := (oX_ki y782 h738 (rw_ne h738 h780 (by decide))).trans k764
  have k818 : σ781.1 329 q338 = 0 := (oX_ki y782 h738 (rw_ne h738 h780 (by decide))).trans k765
  have k819 : σ781.1 330 q338 = 0 := (oX_ki y782 h738 (rw_ne h738 h780 (by decide))).trans k766
  have k820 : σ781.1 331 q338 = 0 := (oX_ki y782 h738 (rw_ne h738 h780 (by decide))).trans k767
  have k821 : σ781.1 6 q453 = 0 := (oX_ki y782 h739 (rw_ne h739 h780 (by decide))).trans k768
  have k822 : σ781.1 7 q453 = 0 := (oX_ki y782 h739 (rw_ne h739 h780 (by decide))).trans k769
  have k823 : σ781.2.2.2.2 576 a0 = some q3 := (oX_kr y782 h731 (rw_ne h731 h780 (by decide))).trans k770
  have k824 : σ781.2.2.2.2 577 a0 = some q25 := (oX_kr y782 h731 (rw_ne h731 h780 (by decide))).trans k771
  have k825 : σ781.2.2.2.2 578 a0 = some q59 := (oX_kr y782 h731 (rw_ne h731 h780 (by decide))).trans k772
  have k826 : σ781.2.2.2.2 579 a0 = some q103 := (oX_kr y782 h731 (rw_ne h731 h780 (by decide))).trans k773
  have k827 : σ781.2.2.2.2 580 a0 = some q164 := (oX_kr y782 h731 (rw_ne h731 h780 (by decide))).trans k774
  have k828 : σ781.2.2.2.2 581 a0 = some q244 := (oX_kr y782 h731 (rw_ne h731 h780 (by decide))).trans k775
  have k829 : σ781.2.2.2.2 582 a0 = some q338 := (oX_kr y782 h731 (rw_ne h731 h780 (by decide))).trans k776
  have k830 : σ781.2.2.2.2 0 q453 = some q244 := (oX_kr y782 h739 (rw_ne h739 h780 (by decide))).trans k777
  have k831 : σ781.2.2.2.2 583 a0 = some q453 := (oX_kr y782 h731 (rw_ne h731 h780 (by decide))).trans k778
  have k832 : σ781.2.2.2.2 584 a0 = some q585 := (oX_kr y782 h731 (rw_ne h731 h780 (by decide))).trans k779
  have h833 : oA L τ q728 2 := oX_q y782 h780 t783
  obtain ⟨R834, kR834, nR834⟩ := xy782_0
  obtain ⟨b835, eb835, hb835⟩ := hw.2.2.2.2.2 128 q728 40 (by rw [(h833).2]; rfl) (h833).1
  have h836 : oA L τ R834 40 := by rw [show R834 = b835 from Option.some.inj (kR834.symm.trans eb835)]; exact hb835
  have k837 : ∀ i, i < 10 → ∃ b, σ781.2.2.2.2 (4096 + i) R834 = some b ∧ b ≠ q338 := fun i hi => by obtain ⟨b, z1, z2⟩ := nR834 i hi; exact ⟨b, z1, fun z3 => z2 (z3 ▸ (h738).1)⟩
  refine o_putrF cx hw 9 9 rfl fiX10 tyX10 tyX10_ok nmX10 h784 (by decide) (by decide) rfl (by decide) rfl rfl rfl rfl hin rfl rfl k_f_X10_75 dX10_init_131 (fun σ839 H locs e838 hw => ?_)
  have k840 : σ839.1 587 a0 = 0 := (kp_r e838).trans k794
  have k841 : σ839.1 588 a0 = 0 := (kp_r e838).trans k795
  have k842 : σ839.1 385 q3 = 0 := (kp_r e838).trans k796
  have k843 : σ839.1 386 q3 = 0 := (kp_r e838).trans k797
  have k844 : σ839.1 387 q3 = 80 := (kp_r e838).trans k798
  have k845 : σ839.1 193 q25 = 0 := (kp_r e838).trans k799
  have k846 : σ839.1 64 q59 = 0 := (kp_r e838).trans k800
  have k847 : σ839.1 65 q59 = 0 := (kp_r e838).trans k801
  have k848 : σ839.1 66 q59 = 0 := (kp_r e838).trans k802
  have k849 : σ839.1 257 q103 = 0 := (kp_r e838).trans k803
  have k850 : σ839.1 259 q103 = 0 := (kp_r e838).trans k804
  have k851 : σ839.1 261 q103 = 0 := (kp_r e838).trans k805
  have k852 : σ839.1 263 q103 = 0 := (kp_r e838).trans k806
  have k853 : σ839.1 264 q103 = 0 := (kp_r e838).trans k807
  have k854 : σ839.1 265 q103 = 0 := (kp_r e838).trans k808
  have k855 : σ839.1 514 q164 = 12 := (kp_r e838).trans k809
  have k856 : σ839.1 515 q164 = 6 := (kp_r e838).trans k810
  have k857 : σ839.1 327 q244 = 0 := (kp_r e838).trans k811
  have k858 : σ839.1 328 q244 = 0 := (kp_r e838).trans k812
  have k859 : σ839.1 329 q244 = 0 := (kp_r e838).trans k813
  have k860 : σ839.1 330 q244 = 0 := (kp_r e838).trans k814
  have k861 : σ839.1 331 q244 = 0 := (kp_r e838).trans k815
  have k862 : σ839.1 327 q338 = 0 := (kp_r e838).trans k816
  have k863 : σ839.1 328 q338 = 0 := (kp_r e838).trans k817
  have k864 : σ839.1 329 q338 = 0 := (kp_r e838).trans k818
  have k865 : σ839.1 330 q338 = 0 := (kp_r e838).trans k819
  have k866 : σ839.1 331 q338 = 0 := (kp_r e838).trans k820
  have k867 : σ839.1 6 q453 = 0 := (kp_r e838).trans k821
  have k868 : σ839.1 7 q453 = 0 := (kp_r e838).trans k822
  have k869 : σ839.1 129 q728 = 0 := (kp_r e838).trans fy782_129
  have k870 : σ839.1 130 q728 = 0 := (kp_r e838).trans fy782_130
  have k871 : σ839.2.2.2.2 576 a0 = some q3 := (kr_r e838 (by decide)).trans k823
  have k872 : σ839.2.2.2.2 577 a0 = some q25 := (kr_r e838 (by decide)).trans k824
  have k873 : σ839.2.2.2.2 578 a0 = some q59 := (kr_r e838 (by decide)).trans k825
  have k874 : σ839.2.2.2.2 579 a0 = some q103 := (kr_r e838 (by decide)).trans k826
  have k875 : σ839.2.2.2.2 580 a0 = some q164 := (kr_r e838 (by decide)).trans k827
  have k876 : σ839.2.2.2.2 581 a0 = some q244 := (kr_r e838 (by decide)).trans k828
  have k877 : σ839.2.2.2.2 582 a0 = some q338 := (kr_r e838 (by decide)).trans k829
  have k878 : σ839.2.2.2.2 0 q453 = some q244 := (kr_r e838 (by decide)).trans k830
  have k879 : σ839.2.2.2.2 583 a0 = some q453 := (kr_r e838 (by decide)).trans k831
  have k880 : σ839.2.2.2.2 584 a0 = some q585 := (kr_r e838 (by decide)).trans k832
  have k881 : σ839.2.2.2.2 128 q728 = some R834 := (kr_r e838 (by decide)).trans kR834
  have k882 : ∀ i, i < 10 → ∃ b, σ839.2.2.2.2 (4096 + i) R834 = some b ∧ b ≠ q338 := fun i hi => by obtain ⟨b, z1, z2⟩ := k837 i hi; exact ⟨b, (kr_r (i := 4096 + i) e838 (by omega)).trans z1, z2⟩
  have k883 : σ839.2.2.2.2 585 a0 = some q728 := kr_s e838
  refine lv_aload_n hx hb dX10_init_134 rfl (lv_at hl 0 rfl) ?_
  refine lv_iconst (v := 2) hx hb dX10_init_135 (by decide) ?_
  refine o_newq cx hA hw 43 (by decide) (fun _ => rfl) rfl k_c_X10_46 (by decide) (by decide) (by decide) (by decide) (by decide) dX10_init_136 (fun q884 L τ σ886 H g885 hw => ?_)
  have h887 : oA L τ a0 25 := oG_a g885 h784
  have h888 : oA L τ q3 6 := oG_a g885 h785
  have h889 : oA L τ q25 3 := oG_a g885 h786
  have h890 : oA L τ q59 1 := oG_a g885 h787
  have h891 : oA L τ q103 4 := oG_a g885 h788
  have h892 : oA L τ q164 8 := oG_a g885 h789
  have h893 : oA L τ q244 5 := oG_a g885 h790
  have h894 : oA L τ q338 5 := oG_a g885 h791
  have h895 : oA L τ q453 0 := oG_a g885 h792
  have h896 : oA L τ q585 7 := oG_a g885 h793
  have h897 : oA L τ q728 2 := oG_a g885 h833
  have h898 : oA L τ R834 40 := oG_a g885 h836
  have k899 : σ886.1 587 a0 = 0 := (oG_i g885 h784).trans k840
  have k900 : σ886.1 588 a0 = 0 := (oG_i g885 h784).trans k841
  have k901 : σ886.1 385 q3 = 0 := (oG_i g885 h785).trans k842
  have k902 : σ886.1 386 q3 = 0 := (oG_i g885 h785).trans k843
  have k903 : σ886.1 387 q3 = 80 := (oG_i g885 h785).trans k844
  have k904 : σ886.1 193 q25 = 0 := (oG_i g885 h786).trans k845
  have k905 : σ886.1 64 q59 = 0 := (oG_i g885 h787).trans k846
  have k906 : σ886.1 65 q59 = 0 := (oG_i g885 h787).trans k847
  have k907 : σ886.1 66 q59 = 0 := (oG_i g885 h787).trans k848
  have k908 : σ886.1 257 q103 = 0 := (oG_i g885 h788).trans k849
  have k909 : σ886.1 259 q103 = 0 := (oG_i g885 h788).trans k850
  have k910 : σ886.1 261 q103 = 0 := (oG_i g885 h788).trans k851
  have k911 : σ886.1 263 q103 = 0 := (oG_i g885 h788).trans k852
  have k912 : σ886.1 264 q103 = 0 := (oG_i g885 h788).trans k853
  have k913 : σ886.1 265 q103 = 0 := (oG_i g885 h788).trans k854
  have k914 : σ886.1 514 q164 = 12 := (oG_i g885 h789).trans k855
  have k915 : σ886.1 515 q164 = 6 := (oG_i g885 h789).trans k856
  have k916 : σ886.1 327 q244 = 0 := (oG_i g885 h790).trans k857
  have k917 : σ886.1 328 q244 = 0 := (oG_i g885 h790).trans k858
  have k918 : σ886.1 329 q244 = 0 := (oG_i g885 h790).trans k859
  have k919 : σ886.1 330 q244 = 0 := (oG_i g885 h790).trans k860
  have k920 : σ886.1 331 q244 = 0 := (oG_i g885 h790).trans k861
  have k921 : σ886.1 327 q338 = 0 := (oG_i g885 h791).trans k862
  have k922 : σ886.1 328 q338 = 0 := (oG_i g885 h791).trans k863
  have k923 : σ886.1 329 q338 = 0 := (oG_i g885 h791).trans k864
  have k924 : σ886.1 330 q338 = 0 := (oG_i g885 h791).trans k865
  have k925 : σ886.1 331 q338 = 0 := (oG_i g885 h791).trans k866
  have k926 : σ886.1 6 q453 = 0 := (oG_i g885 h792).trans k867
  have k927 : σ886.1 7 q453 = 0 := (oG_i g885 h792).trans k868
  have k928 : σ886.1 129 q728 = 0 := (oG_i g885 h833).trans k869
  have k929 : σ886.1 130 q728 = 0 := (oG_i g885 h833).trans k870
  have k930 : σ886.2.2.2.2 576 a0 = some q3 := (oG_r g885 h784).trans k871
  have k931 : σ886.2.2.2.2 577 a0 = some q25 := (oG_r g885 h784).trans k872
  have k932 : σ886.2.2.2.2 578 a0 = some q59 := (oG_r g885 h784).trans k873
  have k933 : σ886.2.2.2.2 579 a0 = some q103 := (oG_r g885 h784).trans k874
  have k934 : σ886.2.2.2.2 580 a0 = some q164 := (oG_r g885 h784).trans k875
  have k935 : σ886.2.2.2.2 581 a0 = some q244 := (oG_r g885 h784).trans k876
  have k936 : σ886.2.2.2.2 582 a0 = some q338 := (oG_r g885 h784).trans k877
  have k937 : σ886.2.2.2.2 0 q453 = some q244 := (oG_r g885 h792).trans k878
  have k938 : σ886.2.2.2.2 583 a0 = some q453 := (oG_r g885 h784).trans k879
  have k939 : σ886.2.2.2.2 584 a0 = some q585 := (oG_r g885 h784).trans k880
  have k940 : σ886.2.2.2.2 128 q728 = some R834 := (oG_r g885 h833).trans k881
  have k941 : σ886.2.2.2.2 585 a0 = some q728 := (oG_r g885 h784).trans k883
  have k942 : ∀ i, i < 10 → ∃ b, σ886.2.2.2.2 (4096 + i) R834 = some b ∧ b ≠ q338 := fun i hi => by obtain ⟨b, z1, z2⟩ := k882 i hi; exact ⟨b, (oG_r g885 h836).trans z1, z2⟩
  have h943 : oA L τ q884 43 := oG_q g885
  refine o_putrF cx hw 9 10 rfl fiX10 tyX10 tyX10_ok nmX10 h887 (by decide) (by decide) rfl (by decide) rfl rfl rfl rfl hin rfl rfl k_f_X10_79 dX10_init_139 (fun σ945 H locs e944 hw => ?_)
  have k946 : σ945.1 587 a0 = 0 := (kp_r e944).trans k899
  have k947 : σ945.1 588 a0 = 0 := (kp_r e944).trans k900
  have k948 : σ945.1 385 q3 = 0 := (kp_r e944).trans k901
  have k949 : σ945.1 386 q3 = 0 := (kp_r e944).trans k902
  have k950 : σ945.1 387 q3 = 80 := (kp_r e944).trans k903
  have k951 : σ945.1 193 q25 = 0 := (kp_r e944).trans k904
  have k952 : σ945.1 64 q59 = 0 := (kp_r e944).trans k905
  have k953 : σ945.1 65 q59 = 0 := (kp_r e944).trans k906
  have k954 : σ945.1 66 q59 = 0 := (kp_r e944).trans k907
  have k955 : σ945.1 257 q103 = 0 := (kp_r e944).trans k908
  have k956 : σ945.1 259 q103 = 0 := (kp_r e944).trans k909
  have k957 : σ945.1 261 q103 = 0 := (kp_r e944).trans k910
  have k958 : σ945.1 263 q103 = 0 := (kp_r e944).trans k911
  have k959 : σ945.1 264 q103 = 0 := (kp_r e944).trans k912
  have k960 : σ945.1 265 q103 = 0 := (kp_r e944).trans k913
  have k961 : σ945.1 514 q164 = 12 := (kp_r e944).trans k914
  have k962 : σ945.1 515 q164 = 6 := (kp_r e944).trans k915
  have k963 : σ945.1 327 q244 = 0 := (kp_r e944).trans k916
  have k964 : σ945.1 328 q244 = 0 := (kp_r e944).trans k917
  have k965 : σ945.1 329 q244 = 0 := (kp_r e944).trans k918
  have k966 : σ945.1 330 q244 = 0 := (kp_r e944).trans k919
  have k967 : σ945.1 331 q244 = 0 := (kp_r e944).trans k920
  have k968 : σ945.1 327 q338 = 0 := (kp_r e944).trans k921
  have k969 : σ945.1 328 q338 = 0 := (kp_r e944).trans k922
  have k970 : σ945.1 329 q338 = 0 := (kp_r e944).trans k923
  have k971 : σ945.1 330 q338 = 0 := (kp_r e944).trans k924
  have k972 : σ945.1 331 q338 = 0 := (kp_r e944).trans k925
  have k973 : σ945.1 6 q453 = 0 := (kp_r e944).trans k926
  have k974 : σ945.1 7 q453 = 0 := (kp_r e944).trans k927
  have k975 : σ945.1 129 q728 = 0 := (kp_r e944).trans k928
  have k976 : σ945.1 130 q728 = 0 := (kp_r e944).trans k929
  have k977 : σ945.2.2.2.2 576 a0 = some q3 := (kr_r e944 (by decide)).trans k930
  have k978 : σ945.2.2.2.2 577 a0 = some q25 := (kr_r e944 (by decide)).trans k931
  have k979 : σ945.2.2.2.2 578 a0 = some q59 := (kr_r e944 (by decide)).trans k932
  have k980 : σ945.2.2.2.2 579 a0 = some q103 := (kr_r e944 (by decide)).trans k933
  have k981 : σ945.2.2.2.2 580 a0 = some q164 := (kr_r e944 (by decide)).trans k934
  have k982 : σ945.2.2.2.2 581 a0 = some q244 := (kr_r e944 (by decide)).trans k935
  have k983 : σ945.2.2.2.2 582 a0 = some q338 := (kr_r e944 (by decide)).trans k936
  have k984 : σ945.2.2.2.2 0 q453 = some q244 := (kr_r e944 (by decide)).trans k937
  have k985 : σ945.2.2.2.2 583 a0 = some q453 := (kr_r e944 (by decide)).trans k938
  have k986 : σ945.2.2.2.2 584 a0 = some q585 := (kr_r e944 (by decide)).trans k939
  have k987 : σ945.2.2.2.2 128 q728 = some R834 := (kr_r e944 (by decide)).trans k940
  have k988 : σ945.2.2.2.2 585 a0 = some q728 := (kr_r e944 (by decide)).trans k941
  have k989 : ∀ i, i < 10 → ∃ b, σ945.2.2.2.2 (4096 + i) R834 = some b ∧ b ≠ q338 := fun i hi => by obtain ⟨b, z1, z2⟩ := k942 i hi; exact ⟨b, (kr_r (i := 4096 + i) e944 (by omega)).trans z1, z2⟩
  have k990 : σ945.2.2.2.2 586 a0 = some q884 := kr_s e944
  refine lv_iconst (v := 0) hx hb dX10_init_142 (by decide) ?_
  refine lv_istore_n (lv' := [(1, .int 0), (0, .ref a0)]) hx hb dX10_init_143 rfl hl (by decide) rfl (fun ls hl => ?_)
  refine lv_iload_n hx hb dX10_init_144 rfl (lv_at hl 0 rfl) ?_
  refine lv_iconst (v := 2) hx hb dX10_init_145 (by decide) ?_
  refine lv_icmp_ge (tgt := 168) hx hb dX10_init_146 (by decide) (fun c991 => ?_) (fun c991 => ?_)
  · exact absurd c991 (show ¬ (2 : Int32) ≤ 0 by decide)
  refine lv_aload_n hx hb dX10_init_149 rfl (lv_at hl 1 rfl) ?_
  refine o_getK cx hw 9 10 rfl fiX10 h887 (by decide) rfl (by decide) rfl rfl k_f_X10_79 (j := 586) rfl k990 dX10_init_150 ?_
  refine lv_iload_n hx hb dX10_init_153 rfl (lv_at hl 0 rfl) ?_
  refine o_new cx hA hw 5 (by decide) rfl fiX6 tyX6 tyX6_ok dfX6 k_c_X10_46 k_n_X6 k_i_X6 (by decide) (by decide) dX10_init_154 (fun q992 L τ σ994 H g993 hw => ?_)
  have h995 : oA L τ a0 25 := oG_a g993 h887
  have h996 : oA L τ q3 6 := oG_a g993 h888
  have h997 : oA L τ q25 3 := oG_a g993 h889
  have h998 : oA L τ q59 1 := oG_a g993 h890
  have h999 : oA L τ q103 4 := oG_a g993 h891
  have h1000 : oA L τ q164 8 := oG_a g993 h892
  have h1001 : oA L τ q244 5 := oG_a g993 h893
  have h1002 : oA L τ q338 5 := oG_a g993 h894
  have h1003 : oA L τ q453 0 := oG_a g993 h895
  have h1004 : oA L τ q585 7 := oG_a g993 h896
  have h1005 : oA L τ q728 2 := oG_a g993 h897
  have h1006 : oA L τ R834 40 := oG_a g993 h898
  have h1007 : oA L τ q884 43 := oG_a g993 h943
  have k1008 : σ994.1 587 a0 = 0 := (oG_i g993 h887).trans k946
  have k1009 : σ994.1 588 a0 = 0 := (oG_i g993 h887).trans k947
  have k1010 : σ994.1 385 q3 = 0 := (oG_i g993 h888).trans k948
  have k1011 : σ994.1 386 q3 = 0 := (oG_i g993 h888).trans k949
  have k1012 : σ994.1 387 q3 = 80 := (oG_i g993 h888).trans k950
  have k1013 : σ994.1 193 q25 = 0 := (oG_i g993 h889).trans k951
  have k1014 : σ994.1 64 q59 = 0 := (oG_i g993 h890).trans k952
  have k1015 : σ994.1 65 q59 = 0 := (oG_i g993 h890).trans k953
  have k1016 : σ994.1 66 q59 = 0 := (oG_i g993 h890).trans k954
  have k1017 : σ994.1 257 q103 = 0 := (oG_i g993 h891).trans k955
  have k1018 : σ994.1 259 q103 = 0 := (oG_i g993 h891).trans k956
  have k1019 : σ994.1 261 q103 = 0 := (oG_i g993 h891).trans k957
  have k1020 : σ994.1 263 q103 = 0 := (oG_i g993 h891).trans k958
  have k1021 : σ994.1 264 q103 = 0 := (oG_i g993 h891).trans k959
  have k1022 : σ994.1 265 q103 = 0 := (oG_i g993 h891).trans k960
  have k1023 : σ994.1 514 q164 = 12 := (oG_i g993 h892).trans k961
  have k1024 : σ994.1 515 q164 = 6 := (oG_i g993 h892).trans k962
  have k1025 : σ994.1 327 q244 = 0 := (oG_i g993 h893).trans k963
  have k1026 : σ994.1 328 q244 = 0 := (oG_i g993 h893).trans k964
  have k1027 : σ994.1 329 q244 = 0 := (oG_i g993 h893).trans k965
  have k1028 : σ994.1 330 q244 = 0 := (oG_i g993 h893).trans k966
  have k1029 : σ994.1 331 q244 = 0 := (oG_i g993 h893).trans k967
  have k1030 : σ994.1 327 q338 = 0 := (oG_i g993 h894).trans k968
  have k1031 : σ994.1 328 q338 = 0 := (oG_i g993 h894).trans k969
  have k1032 : σ994.1 329 q338 = 0 := (oG_i g993 h894).trans k970
  have k1033 : σ994.1 330 q338 = 0 := (oG_i g993 h894).trans k971
  have k1034 : σ994.1 331 q338 = 0 := (oG_i g993 h894).trans k972
  have k1035 : σ994.1 6 q453 = 0 := (oG_i g993 h895).trans k973
  have k1036 : σ994.1 7 q453 = 0 := (oG_i g993 h895).trans k974
  have k1037 : σ994.1 129 q728 = 0 := (oG_i g993 h897).trans k975
  have k1038 : σ994.1 130 q728 = 0 := (oG_i g993 h897).trans k976
  have k1039 : σ994.2.2.2.2 576 a0 = some q3 := (oG_r g993 h887).trans k977
  have k1040 : σ994.2.2.2.2 577 a0 = some q25 := (oG_r g993 h887).trans k978
  have k1041 : σ994.2.2.2.2 578 a0 = some q59 := (oG_r g993 h887).trans k979
  have k1042 : σ994.2.2.2.2 579 a0 = some q103 := (oG_r g993 h887).trans k980
  have k1043 : σ994.2.2.2.2 580 a0 = some q164 := (oG_r g993 h887).trans k981
  have k1044 : σ994.2.2.2.2 581 a0 = some q244 := (oG_r g993 h887).trans k982
  have k1045 : σ994.2.2.2.2 582 a0 = some q338 := (oG_r g993 h887).trans k983
  have k1046 : σ994.2.2.2.2 0 q453 = some q244 := (oG_r g993 h895).trans k984
  have k1047 : σ994.2.2.2.2 583 a0 = some q453 := (oG_r g993 h887).trans k985
  have k1048 : σ994.2.2.2.2 584 a0 = some q585 := (oG_r g993 h887).trans k986
  have k1049 : σ994.2.2.2.2 128 q728 = some R834 := (oG_r g993 h897).trans k987
  have k1050 : σ994.2.2.2.2 585 a0 = some q728 := (oG_r g993 h887).trans k988
  have k1051 : σ994.2.2.2.2 586 a0 = some q884 := (oG_r g993 h887).trans k990
  have k1052 : ∀ i, i < 10 → ∃ b, σ994.2.2.2.2 (4096 + i) R834 = some b ∧ b ≠ q338 := fun i hi => by obtain ⟨b, z1, z2⟩ := k989 i hi; exact ⟨b, (oG_r g993 h898).trans z1, z2⟩
  have ne1053 : q244 ≠ q992 := oG_ne g993 h893
  have ne1054 : q338 ≠ q992 := oG_ne g993 h894
  have h1055 : oA L τ q992 21 := oG_q g993
  refine lv_dup hx hb dX10_init_157 rfl ?_
  refine o_cI hw (oRunI cx hA hw q_X6_init k_m_X10_48 (As := []) (c_X6_init q992 h1055 (fun j => oG_zi g993) (fun j => oG_zl g993) ) (by decide) rfl hl.1 rfl (Nat.le_of_ble_eq_true rfl) dX10_init_158 (by decide)) (fun L τ σ1056 H locs hp hw => ?_)
  obtain ⟨y1057, t1058, fy1057_327, fy1057_328, fy1057_329, fy1057_330, fy1057_331⟩ := hp
  have h1059 : oA L τ a0 25 := oX_a y1057 h995 (rw_ne h995 h1055 (by decide))
  have h1060 : oA L τ q3 6 := oX_a y1057 h996 (rw_ne h996 h1055 (by decide))
  have h1061 : oA L τ q25 3 := oX_a y1057 h997 (rw_ne h997 h1055 (by decide))
  have h1062 : oA L τ q59 1 := oX_a y1057 h998 (rw_ne h998 h1055 (by decide))
  have h1063 : oA L τ q103 4 := oX_a y1057 h999 (rw_ne h999 h1055 (by decide))
  have h1064 : oA L τ q164 8 := oX_a y1057 h1000 (rw_ne h1000 h1055 (by decide))
  have h1065 : oA L τ q244 5 := oX_a y1057 h1001 (rw_ne h1001 h1055 (by decide))
  have h1066 : oA L τ q338 5 := oX_a y1057 h1002 (rw_ne h1002 h1055 (by decide))
  have h1067 : oA L τ q453 0 := oX_a y1057 h1003 (rw_ne h1003 h1055 (by decide))
  have h1068 : oA L τ q585 7 := oX_a y1057 h1004 (rw_ne h1004 h1055 (by decide))
  have h1069 : oA L τ q728 2 := oX_a y1057 h1005 (rw_ne h1005 h1055 (by decide))
  have h1070 : oA L τ R834 40 := oX_a y1057 h1006 (rw_ne h1006 h1055 (by decide))
  have h1071 : oA L τ q884 43 := oX_a y1057 h1007 (rw_ne h1007 h1055 (by decide))
  have k1072 : σ1056.1 587 a0 = 0 := (oX_ki y1057 h995 (rw_ne h995 h1055 (by decide))).trans k1008
  have k1073 : σ1056.1 588 a0 = 0 := (oX_ki y1057 h995 (rw_ne h995 h1055 (by decide))).trans k1009
  have k1074 : σ1056.1 385 q3 = 0 := (oX_ki y1057 h996 (rw_ne h996 h1055 (by decide))).trans k1010
  have k1075 : σ1056.1 386 q3 = 0 := (oX_ki y1057 h996 (rw_ne h996 h1055 (by decide))).trans k1011
  have k1076 : σ1056.1 387 q3 = 80 := (oX_ki y1057 h996 (rw_ne h996 h1055 (by decide))).trans k1012
  have k1077 : σ1056.1 193 q25 = 0 := (oX_ki y1057 h997 (rw_ne h997 h1055 (by decide))).trans k1013
  have k1078 : σ1056.1 64 q59 = 0 := (oX_ki y1057 h998 (rw_ne h998 h1055 (by decide))).trans k1014
  have k1079 : σ1056.1 65 q59 = 0 := (oX_ki y1057 h998 (rw_ne h998 h1055 (by decide))).trans k1015
  have k1080 : σ1056.1 66 q59 = 0 := (oX_ki y1057 h998 (rw_ne h998 h1055 (by decide))).trans k1016
  have k1081 : σ1056.1 257 q103 = 0 := (oX_ki y1057 h999 (rw_ne h999 h1055 (by decide))).trans k1017
  have k1082 : σ1056.1 259 q103 = 0 := (oX_ki y1057 h999 (rw_ne h999 h1055 (by decide))).trans k1018
  have k1083 : σ1056.1 261 q103 = 0 := (oX_ki y1057 h999 (rw_ne h999 h1055 (by decide))).trans k1019
  have k1084 : σ1056.1 263 q103 = 0 := (oX_ki y1057 h999 (rw_ne h999 h1055 (by decide))).trans k1020
  have k1085 : σ1056.1 264 q103 = 0 := (oX_ki y1057 h999 (rw_ne h999 h1055 (by decide))).trans k1021
  have k1086 : σ1056.1 265 q103 = 0 := (oX_ki y1057 h999 (rw_ne h999 h1055 (by decide))).trans k1022
  have k1087 : σ1056.1 514 q164 = 12 := (oX_ki y1057 h1000 (rw_ne h1000 h1055 (by decide))).trans k1023
  have k1088 : σ1056.1 515 q164 = 6 := (oX_ki y1057 h1000 (rw_ne h1000 h1055 (by decide))).trans k1024
  have k1089 : σ1056.1 327 q244 = 0 := (oX_ki y1057 h1001 (rw_ne h1001 h1055 (by decide))).trans k1025
  have k1090 : σ1056.1 328 q244 = 0 := (oX_ki y1057 h1001 (rw_ne h1001 h1055 (by decide))).trans k1026
  have k1091 : σ1056.1 329 q244 = 0 := (oX_ki y1057 h1001 (rw_ne h1001 h1055 (by decide))).trans k1027
  have k1092 : σ1056.1 330 q244 = 0 := (oX_ki y1057 h1001 (rw_ne h1001 h1055 (by decide))).trans k1028
  have k1093 : σ1056.1 331 q244 = 0 := (oX_ki y1057 h1001 (rw_ne h1001 h1055 (by decide))).trans k1029
  have k1094 : σ1056.1 327 q338 = 0 := (oX_ki y1057 h1002 (rw_ne h1002 h1055 (by decide))).trans k1030
  have k1095 : σ1056.1 328 q338 = 0 := (oX_ki y1057 h1002 (rw_ne h1002 h1055 (by decide))).trans k1031
  have k1096 : σ1056.1 329 q338 = 0 := (oX_ki y1057 h1002 (rw_ne h1002 h1055 (by decide))).trans k1032
  have k1097 : σ1056.1 330 q338 = 0 := (oX_ki y1057 h1002 (rw_ne h1002 h1055 (by decide))).trans k1033
  have k1098 : σ1056.1 331 q338 = 0 := (oX_ki y1057 h1002 (rw_ne h1002 h1055 (by decide))).trans k1034
  have k1099 : σ1056.1 6 q453 = 0 := (oX_ki y1057 h1003 (rw_ne h1003 h1055 (by decide))).trans k1035
  have k1100 : σ1056.1 7 q453 = 0 := (oX_ki y1057 h1003 (rw_ne h1003 h1055 (by decide))).trans k1036
  have k1101 : σ1056.1 129 q728 = 0 := (oX_ki y1057 h1005 (rw_ne h1005 h1055 (by decide))).trans k1037
  have k1102 : σ1056.1 130 q728 = 0 := (oX_ki y1057 h1005 (rw_ne h1005 h1055 (by decide))).trans k1038
  have k1103 : σ1056.2.2.2.2 576 a0 = some q3 := (oX_kr y1057 h995 (rw_ne h995 h1055 (by decide))).trans k1039
  have k1104 : σ1056.2.2.2.2 577 a0 = some q25 := (oX_kr y1057 h995 (rw_ne h995 h1055 (by decide))).trans k1040
  have k1105 : σ1056.2.2.2.2 578 a0 = some q59 := (oX_kr y1057 h995 (rw_ne h995 h1055 (by decide))).trans k1041
  have k1106 : σ1056.2.2.2.2 579 a0 = some q103 := (oX_kr y1057 h995 (rw_ne h995 h1055 (by decide))).trans k1042
  have k1107 : σ1056.2.2.2.2 580 a0 = some q164 := (oX_kr y1057 h995 (rw_ne h995 h1055 (by decide))).trans k1043
  have k1108 : σ1056.2.2.2.2 581 a0 = some q244 := (oX_kr y1057 h995 (rw_ne h995 h1055 (by decide))).trans k1044
  have k1109 : σ1056.2.2.2.2 582 a0 = some q338 := (oX_kr y1057 h995 (rw_ne h995 h1055 (by decide))).trans k1045
  have k1110 : σ1056.2.2.2.2 0 q453 = some q244 := (oX_kr y1057 h1003 (rw_ne h1003 h1055 (by decide))).trans k1046
  have k1111 : σ1056.2.2.2.2 583 a0 = some q453 := (oX_kr y1057 h995 (rw_ne h995 h1055 (by decide))).trans k1047
  have k1112 : σ1056.2.2.2.2 584 a0 = some q585 := (oX_kr y1057 h995 (rw_ne h995 h1055 (by decide))).trans k1048
  have k1113 : σ1056.2.2.2.2 128 q728 = some R834 := (oX_kr y1057 h1005 (rw_ne h1005 h1055 (by decide))).trans k1049
  have k1114 : σ1056.2.2.2.2 585 a0 = some q728 := (oX_kr y1057 h995 (rw_ne h995 h1055 (by decide))).trans k1050
  have k1115 : σ1056.2.2.2.2 586 a0 = some q884 := (oX_kr y1057 h995 (rw_ne h995 h1055 (by decide))).trans k1051
  have k1116 : ∀ i, i < 10 → ∃ b, σ1056.2.2.2.2 (4096 + i) R834 = some b ∧ b ≠ q338 := fun i hi => by obtain ⟨b, z1, z2⟩ := k1052 i hi; exact ⟨b, (oX_kr y1057 h1006 (rw_ne h1006 h1055 (by decide))).trans z1, z2⟩
  have h1117 : oA L τ q992 5 := oX_q y1057 h1055 t1058
  refine o_astq cx hw h1071 (by decide) rfl (fun _ => rfl) h1117 (iv_in (⟨by decide, by decide⟩ : Iv 0 0 0) (by decide)) dX10_init_161 (fun σ1119 H locs e1118 hw => ?_)
  have k1120 : σ1119.1 587 a0 = 0 := (kp_r e1118).trans k1072
  have k1121 : σ1119.1 588 a0 = 0 := (kp_r e1118).trans k1073
  have k1122 : σ1119.1 385 q3 = 0 := (kp_r e1118).trans k1074
  have k1123 : σ1119.1 386 q3 = 0 := (kp_r e1118).trans k1075
  have k1124 : σ1119.1 387 q3 = 80 := (kp_r e1118).trans k1076
  have k1125 : σ1119.1 193 q25 = 0 := (kp_r e1118).trans k1077
  have k1126 : σ1119.1 64 q59 = 0 := (kp_r e1118).trans k1078
  have k1127 : σ1119.1 65 q59 = 0 := (kp_r e1118).trans k1079
  have k1128 : σ1119.1 66 q59 = 0 := (kp_r e1118).trans k1080
  have k1129 : σ1119.1 257 q103 = 0 := (kp_r e1118).trans k1081
  have k1130 : σ1119.1 259 q103 = 0 := (kp_r e1118).trans k1082
  have k1131 : σ1119.1 261 q103 = 0 := (kp_r e1118).trans k1083
  have k1132 : σ1119.1 263 q103 = 0 := (kp_r e1118).trans k1084
  have k1133 : σ1119.1 264 q103 = 0 := (kp_r e1118).trans k1085
  have k1134 : σ1119.1 265 q103 = 0 := (kp_r e1118).trans k1086
  have k1135 : σ1119.1 514 q164 = 12 := (kp_r e1118).trans k1087
  have k1136 : σ1119.1 515 q164 = 6 := (kp_r e1118).trans k1088
  have k1137 : σ1119.1 327 q244 = 0 := (kp_r e1118).trans k1089
  have k1138 : σ1119.1 328 q244 = 0 := (kp_r e1118).trans k1090
  have k1139 : σ1119.1 329 q244 = 0 := (kp_r e1118).trans k1091
  have k1140 : σ1119.1 330 q244 = 0 := (kp_r e1118).trans k1092
  have k1141 : σ1119.1 331 q244 = 0 := (kp_r e1118).trans k1093
  have k1142 : σ1119.1 327 q338 = 0 := (kp_r e1118).trans k1094
  have k1143 : σ1119.1 328 q338 = 0 := (kp_r e1118).trans k1095
  have k1144 : σ1119.1 329 q338 = 0 := (kp_r e1118).trans k1096
  have k1145 : σ1119.1 330 q338 = 0 := (kp_r e1118).trans k1097
  have k1146 : σ1119.1 331 q338 = 0 := (kp_r e1118).trans k1098
  have k1147 : σ1119.1 6 q453 = 0 := (kp_r e1118).trans k1099
  have k1148 : σ1119.1 7 q453 = 0 := (kp_r e1118).trans k1100
  have k1149 : σ1119.1 129 q728 = 0 := (kp_r e1118).trans k1101
  have k1150 : σ1119.1 130 q728 = 0 := (kp_r e1118).trans k1102
  have k1151 : σ1119.1 327 q992 = 0 := (kp_r e1118).trans fy1057_327
  have k1152 : σ1119.1 328 q992 = 0 := (kp_r e1118).trans fy1057_328
  have k1153 : σ1119.1 329 q992 = 0 := (kp_r e1118).trans fy1057_329
  have k1154 : σ1119.1 330 q992 = 0 := (kp_r e1118).trans fy1057_330
  have k1155 : σ1119.1 331 q992 = 0 := (kp_r e1118).trans fy1057_331
  have k1156 : σ1119.2.2.2.2 576 a0 = some q3 := (kr_r e1118 (by decide)).trans k1103
  have k1157 : σ1119.2.2.2.2 577 a0 = some q25 := (kr_r e1118 (by decide)).trans k1104
  have k1158 : σ1119.2.2.2.2 578 a0 = some q59 := (kr_r e1118 (by decide)).trans k1105
  have k1159 : σ1119.2.2.2.2 579 a0 = some q103 := (kr_r e1118 (by decide)).trans k1106
  have k1160 : σ1119.2.2.2.2 580 a0 = some q164 := (kr_r e1118 (by decide)).trans k1107
  have k1161 : σ1119.2.2.2.2 581 a0 = some q244 := (kr_r e1118 (by decide)).trans k1108
  have k1162 : σ1119.2.2.2.2 582 a0 = some q338 := (kr_r e1118 (by decide)).trans k1109
  have k1163 : σ1119.2.2.2.2 0 q453 = some q244 := (kr_r e1118 (by decide)).trans k1110
  have k1164 : σ1119.2.2.2.2 583 a0 = some q453 := (kr_r e1118 (by decide)).trans k1111
  have k1165 : σ1119.2.2.2.2 584 a0 = some q585 := (kr_r e1118 (by decide)).trans k1112
  have k1166 : σ1119.2.2.2.2 128 q728 = some R834 := (kr_r e1118 (by decide)).trans k1113
  have k1167 : σ1119.2.2.2.2 585 a0 = some q728 := (kr_r e1118 (by decide)).trans k1114
  have k1168 : σ1119.2.2.2.2 586 a0 = some q884 := (kr_r e1118 (by decide)).trans k1115
  have k1169 : ∀ i, i < 10 → ∃ b, σ1119.2.2.2.2 (4096 + i) R834 = some b ∧ b ≠ q338 := fun i hi => by obtain ⟨b, z1, z2⟩ := k1116 i hi; exact ⟨b, (kr_ra e1118 (rw_ne h1070 h1071 (by decide))).trans z1, z2⟩
  have k1170 : σ1119.2.2.2.2 4096 q884 = some q992 := kr_s e1118
  refine lv_iinc (v := 1) (lv' := [(1, .int 1), (0, .ref a0)]) hx hb dX10_init_162 hl (k := 0) rfl (by decide) (by decide) rfl (fun ls hl => ?_)
  refine lv_goto (tgt := 144) hx hb dX10_init_165 (by decide) ?_
  refine lv_iload_n hx hb dX10_init_144 rfl (lv_at hl 0 rfl) ?_
  refine lv_iconst (v := 2) hx hb dX10_init_145 (by decide) ?_
  refine lv_icmp_ge (tgt := 168) hx hb dX10_init_146 (by decide) (fun c1171 => ?_) (fun c1171 => ?_)
  · exact absurd c1171 (show ¬ (2 : Int32) ≤ 1 by decide)
  refine lv_aload_n hx hb dX10_init_149 rfl (lv_at hl 1 rfl) ?_
  refine o_getK cx hw 9 10 rfl fiX10 h1059 (by decide) rfl (by decide) rfl rfl k_f_X10_79 (j := 586) rfl k1168 dX10_init_150 ?_
  refine lv_iload_n hx hb dX10_init_153 rfl (lv_at hl 0 rfl) ?_
  refine o_new cx hA hw 5 (by decide) rfl fiX6 tyX6 tyX6_ok dfX6 k_c_X10_46 k_n_X6 k_i_X6 (by decide) (by decide) dX10_init_154 (fun q1172 L τ σ1174 H g1173 hw => ?_)
  have h1175 : oA L τ a0 25 := oG_a g1173 h1059
  have h1176 : oA L τ q3 6 := oG_a g1173 h1060
  have h1177 : oA L τ q25 3 := oG_a g1173 h1061
  have h1178 : oA L τ q59 1 := oG_a g1173 h1062
  have h1179 : oA L τ q103 4 := oG_a g1173 h1063
  have h1180 : oA L τ q164 8 := oG_a g1173 h1064
  have h1181 : oA L τ q244 5 := oG_a g1173 h1065
  have h1182 : oA L τ q338 5 := oG_a g1173 h1066
  have h1183 : oA L τ q453 0 := oG_a g1173 h1067
  have h1184 : oA L τ q585 7 := oG_a g1173 h1068
  have h1185 : oA L τ q728 2 := oG_a g1173 h1069
  have h1186 : oA L τ R834 40 := oG_a g1173 h1070
  have h1187 : oA L τ q884 43 := oG_a g1173 h1071
  have h1188 : oA L τ q992 5 := oG_a g1173 h1117
  have k1189 : σ1174.1 587 a0 = 0 := (oG_i g1173 h1059).trans k1120
  have k1190 : σ1174.1 588 a0 = 0 := (oG_i g1173 h1059).trans k1121
  have k1191 : σ1174.1 385 q3 = 0 := (oG_i g1173 h1060).trans k1122
  have k1192 : σ1174.1 386 q3 = 0 := (oG_i g1173 h1060).trans k1123
  have k1193 : σ1174.1 387 q3 = 80 := (oG_i g1173 h1060).trans k1124
  have k1194 : σ1174.1 193 q25 = 0 := (oG_i g1173 h1061).trans k1125
  have k1195 : σ1174.1 64 q59 = 0 := (oG_i g1173 h1062).trans k1126
  have k1196 : σ1174.1 65 q59 = 0 := (oG_i g1173 h1062).trans k1127
  have k1197 : σ1174.1 66 q59 = 0 := (oG_i g1173 h1062).trans k1128
  have k1198 : σ1174.1 257 q103 = 0 := (oG_i g1173 h1063).trans k1129
  have k1199 : σ1174.1 259 q103 = 0 := (oG_i g1173 h1063).trans k1130
  have k1200 : σ1174.1 261 q103 = 0 := (oG_i g1173 h1063).trans k1131
  have k1201 : σ1174.1 263 q103 = 0 := (oG_i g1173 h1063).trans k1132
  have k1202 : σ1174.1 264 q103 = 0 := (oG_i g1173 h1063).trans k1133
  have k1203 : σ1174.1 265 q103 = 0 := (oG_i g1173 h1063).trans k1134
  have k1204 : σ1174.1 514 q164 = 12 := (oG_i g1173 h1064).trans k1135
  have k1205 : σ1174.1 515 q164 = 6 := (oG_i g1173 h1064).trans k1136
  have k1206 : σ1174.1 327 q244 = 0 := (oG_i g1173 h1065).trans k1137
  have k1207 : σ1174.1 328 q244 = 0 := (oG_i g1173 h1065).trans k1138
  have k1208 : σ1174.1 329 q244 = 0 := (oG_i g1173 h1065).trans k1139
  have k1209 : σ1174.1 330 q244 = 0 := (oG_i g1173 h1065).trans k1140
  have k1210 : σ1174.1 331 q244 = 0 := (oG_i g1173 h1065).trans k1141
  have k1211 : σ1174.1 327 q338 = 0 := (oG_i g1173 h1066).trans k1142
  have k1212 : σ1174.1 328 q338 = 0 := (oG_i g1173 h1066).trans k1143
  have k1213 : σ1174.1 329 q338 = 0 := (oG_i g1173 h1066).trans k1144
  have k1214 : σ1174.1 330 q338 = 0 := (oG_i g1173 h1066).trans k1145
  have k1215 : σ1174.1 331 q338 = 0 := (oG_i g1173 h1066).trans k1146
  have k1216 : σ1174.1 6 q453 = 0 := (oG_i g1173 h1067).trans k1147
  have k1217 : σ1174.1 7 q453 = 0 := (oG_i g1173 h1067).trans k1148
  have k1218 : σ1174.1 129 q728 = 0 := (oG_i g1173 h1069).trans k1149
  have k1219 : σ1174.1 130 q728 = 0 := (oG_i g1173 h1069).trans k1150
  have k1220 : σ1174.1 327 q992 = 0 := (oG_i g1173 h1117).trans k1151
  have k1221 : σ1174.1 328 q992 = 0 := (oG_i g1173 h1117).trans k1152
  have k1222 : σ1174.1 329 q992 = 0 := (oG_i g1173 h1117).trans k1153
  have k1223 : σ1174.1 330 q992 = 0 := (oG_i g1173 h1117).trans k1154
  have k1224 : σ1174.1 331 q992 = 0 := (oG_i g1173 h1117).trans k1155
  have k1225 : σ1174.2.2.2.2 576 a0 = some q3 := (oG_r g1173 h1059).trans k1156
  have k1226 : σ1174.2.2.2.2 577 a0 = some q25 := (oG_r g1173 h1059).trans k1157
  have k1227 : σ1174.2.2.2.2 578 a0 = some q59 := (oG_r g1173 h1059).trans k1158
  have k1228 : σ1174.2.2.2.2 579 a0 = some q103 := (oG_r g1173 h1059).trans k1159
  have k1229 : σ1174.2.2.2.2 580 a0 = some q164 := (oG_r g1173 h1059).trans k1160
  have k1230 : σ1174.2.2.2.2 581 a0 = some q244 := (oG_r g1173 h1059).trans k1161
  have k1231 : σ1174.2.2.2.2 582 a0 = some q338 := (oG_r g1173 h1059).trans k1162
  have k1232 : σ1174.2.2.2.2 0 q453 = some q244 := (oG_r g1173 h1067).trans k1163
  have k1233 : σ1174.2.2.2.2 583 a0 = some q453 := (oG_r g1173 h1059).trans k1164
  have k1234 : σ1174.2.2.2.2 584 a0 = some q585 := (oG_r g1173 h1059).trans k1165
  have k1235 : σ1174.2.2.2.2 128 q728 = some R834 := (oG_r g1173 h1069).trans k1166
  have k1236 : σ1174.2.2.2.2 585 a0 = some q728 := (oG_r g1173 h1059).trans k1167
  have k1237 : σ1174.2.2.2.2 586 a0 = some q884 := (oG_r g1173 h1059).trans k1168
  have k1238 : σ1174.2.2.2.2 4096 q884 = some q992 := (oG_r g1173 h1071).trans k1170
  have k1239 : ∀ i, i < 10 → ∃ b, σ1174.2.2.2.2 (4096 + i) R834 = some b ∧ b ≠ q338 := fun i hi => by obtain ⟨b, z1, z2⟩ := k1169 i hi; exact ⟨b, (oG_r g1173 h1070).trans z1, z2⟩
  have ne1240 : q244 ≠ q1172 := oG_ne g1173 h1065
  have ne1241 : q338 ≠ q1172 := oG_ne g1173 h1066
  have ne1242 : q992 ≠ q1172 := oG_ne g1173 h1117
  have h1243 : oA L τ q1172 21 := oG_q g1173
  refine lv_dup hx hb dX10_init_157 rfl ?_
  refine o_cI hw (oRunI cx hA hw q_X6_init k_m_X10_48 (As := []) (c_X6_init q1172 h1243 (fun j => oG_zi g1173) (fun j => oG_zl g1173) ) (by decide) rfl hl.1 rfl (Nat.le_of_ble_eq_true rfl) dX10_init_158 (by decide)) (fun L τ σ1244 H locs hp hw => ?_)
  obtain ⟨y1245, t1246, fy1245_327, fy1245_328, fy1245_329, fy1245_330, fy1245_331⟩ := hp
  have h1247 : oA L τ a0 25 := oX_a y1245 h1175 (rw_ne h1175 h1243 (by decide))
  have h1248 : oA L τ q3 6 := oX_a y1245 h1176 (rw_ne h1176 h1243 (by decide))
  have h1249 : oA L τ q25 3 := oX_a y1245 h1177 (rw_ne h1177 h1243 (by decide))
  have h1250 : oA L τ q59 1 := oX_a y1245 h1178 (rw_ne h1178 h1243 (by decide))
  have h1251 : oA L τ q103 4 := oX_a y1245 h1179 (rw_ne h1179 h1243 (by decide))
  have h1252 : oA L τ q164 8 := oX_a y1245 h1180 (rw_ne h1180 h1243 (by decide))
  have h1253 : oA L τ q244 5 := oX_a y1245 h1181 (rw_ne h1181 h1243 (by decide))
  have h1254 : oA L τ q338 5 := oX_a y1245 h1182 (rw_ne h1182 h1243 (by decide))
  have h1255 : oA L τ q453 0 := oX_a y1245 h1183 (rw_ne h1183 h1243 (by decide))
  have h1256 : oA L τ q585 7 := oX_a y1245 h1184 (rw_ne h1184 h1243 (by decide))
  have h1257 : oA L τ q728 2 := oX_a y1245 h1185 (rw_ne h1185 h1243 (by decide))
  have h1258 : oA L τ R834 40 := oX_a y1245 h1186 (rw_ne h1186 h1243 (by decide))
  have h1259 : oA L τ q884 43 := oX_a y1245 h1187 (rw_ne h1187 h1243 (by decide))
  have h1260 : oA L τ q992 5 := oX_a y1245 h1188 (rw_ne h1188 h1243 (by decide))
  have k1261 : σ1244.1 587 a0 = 0 := (oX_ki y1245 h1175 (rw_ne h1175 h1243 (by decide))).trans k1189
  have k1262 : σ1244.1 588 a0 = 0 := (oX_ki y1245 h1175 (rw_ne h1175 h1243 (by decide))).trans k1190
  have k1263 : σ1244.1 385 q3 = 0 := (oX_ki y1245 h1176 (rw_ne h1176 h1243 (by decide))).trans k1191
  have k1264 : σ1244.1 386 q3 = 0 := (oX_ki y1245 h1176 (rw_ne h1176 h1243 (by decide))).trans k1192
  have k1265 : σ1244.1 387 q3 = 80 := (oX_ki y1245 h1176 (rw_ne h1176 h1243 (by decide))).trans k1193
  have k1266 : σ1244.1 193 q25 = 0 := (oX_ki y1245 h1177 (rw_ne h1177 h1243 (by decide))).trans k1194
  have k1267 : σ1244.1 64 q59 = 0 := (oX_ki y1245 h1178 (rw_ne h1178 h1243 (by decide))).trans k1195
  have k1268 : σ1244.1 65 q59 = 0 := (oX_ki y1245 h1178 (rw_ne h1178 h1243 (by decide))).trans k1196
  have k1269 : σ1244.1 66 q59 = 0 := (oX_ki y1245 h1178 (rw_ne h1178 h1243 (by decide))).trans k1197
  have k1270 : σ1244.1 257 q103 = 0 := (oX_ki y1245 h1179 (rw_ne h1179 h1243 (by decide))).trans k1198
  have k1271 : σ1244.1 259 q103 = 0 := (oX_ki y1245 h1179 (rw_ne h1179 h1243 (by decide))).trans k1199
  have k1272 : σ1244.1 261 q103 = 0 := (oX_ki y1245 h1179 (rw_ne h1179 h1243 (by decide))).trans k1200
  have k1273 : σ1244.1 263 q103 = 0 := (oX_ki y1245 h1179 (rw_ne h1179 h1243 (by decide))).trans k1201
  have k1274 : σ1244.1 264 q103 = 0 := (oX_ki y1245 h1179 (rw_ne h1179 h1243 (by decide))).trans k1202
  have k1275 : σ1244.1 265 q103 = 0 := (oX_ki y1245 h1179 (rw_ne h1179 h1243 (by decide))).trans k1203
  have k1276 : σ1244.1 514 q164 = 12 := (oX_ki y1245 h1180 (rw_ne h1180 h1243 (by decide))).trans k1204
  have k1277 : σ1244.1 515 q164 = 6 := (oX_ki y1245 h1180 (rw_ne h1180 h1243 (by decide))).trans k1205
  have k1278 : σ1244.1 327 q244 = 0 := (oX_ki y1245 h1181 (rw_ne h1181 h1243 (by decide))).trans k1206
  have k1279 : σ1244.1 328 q244 = 0 := (oX_ki y1245 h1181 (rw_ne h1181 h1243 (by decide))).trans k1207
  have k1280 : σ1244.1 329 q244 = 0 := (oX_ki y1245 h1181 (rw_ne h1181 h1243 (by decide))).trans k1208
  have k1281 : σ1244.1 330 q244 = 0 := (oX_ki y1245 h1181 (rw_ne h1181 h1243 (by decide))).trans k1209
  have k1282 : σ1244.1 331 q244 = 0 := (oX_ki y1245 h1181 (rw_ne h1181 h1243 (by decide))).trans k1210
  have k1283 : σ1244.1 327 q338 = 0 := (oX_ki y1245 h1182 (rw_ne h1182 h1243 (by decide))).trans k1211
  have k1284 : σ1244.1 328 q338 = 0 := (oX_ki y1245 h1182 (rw_ne h1182 h1243 (by decide))).trans k1212
  have k1285 : σ1244.1 329 q338 = 0 := (oX_ki y1245 h1182 (rw_ne h1182 h1243 (by decide))).trans k1213
  have k1286 : σ1244.1 330 q338 = 0 := (oX_ki y1245 h1182 (rw_ne h1182 h1243 (by decide))).trans k1214
  have k1287 : σ1244.1 331 q338 = 0 := (oX_ki y1245 h1182 (rw_ne h1182 h1243 (by decide))).trans k1215
  have k1288 : σ1244.1 6 q453 = 0 := (oX_ki y1245 h1183 (rw_ne h1183 h1243 (by decide))).trans k1216
  have k1289 : σ1244.1 7 q453 = 0 := (oX_ki y1245 h1183 (rw_ne h1183 h1243 (by decide))).trans k1217
  have k1290 : σ1244.1 129 q728 = 0 := (oX_ki y1245 h1185 (rw_ne h1185 h1243 (by decide))).trans k1218
  have k1291 : σ1244.1 130 q728 = 0 := (oX_ki y1245 h1185 (rw_ne h1185 h1243 (by decide))).trans k1219
  have k1292 : σ1244.1 327 q992 = 0 := (oX_ki y1245 h1188 (rw_ne h1188 h1243 (by decide))).trans k1220
  have k1293 : σ1244.1 328 q992 = 0 := (oX_ki y1245 h1188 (rw_ne h1188 h1243 (by decide))).trans k1221
  have k1294 : σ1244.1 329 q992 = 0 := (oX_ki y1245 h1188 (rw_ne h1188 h1243 (by decide))).trans k1222
  have k1295 : σ1244.1 330 q992 = 0 := (oX_ki y1245 h1188 (rw_ne h1188 h1243 (by decide))).trans k1223
  have k1296 : σ1244.1 331 q992 = 0 := (oX_ki y1245 h1188 (rw_ne h1188 h1243 (by decide))).trans k1224
  have k1297 : σ1244.2.2.2.2 576 a0 = some q3 := (oX_kr y1245 h1175 (rw_ne h1175 h1243 (by decide))).trans k1225
  have k1298 : σ1244.2.2.2.2 577 a0 = some q25 := (oX_kr y1245 h1175 (rw_ne h1175 h1243 (by decide))).trans k1226
  have k1299 : σ1244.2.2.2.2 578 a0 = some q59 := (oX_kr y1245 h1175 (rw_ne h1175 h1243 (by decide))).trans k1227
  have k1300 : σ1244.2.2.2.2 579 a0 = some q103 := (oX_kr y1245 h1175 (rw_ne h1175 h1243 (by decide))).trans k1228
  have k1301 : σ1244.2.2.2.2 580 a0 = some q164 := (oX_kr y1245 h1175 (rw_ne h1175 h1243 (by decide))).trans k1229
  have k1302 : σ1244.2.2.2.2 581 a0 = some q244 := (oX_kr y1245 h1175 (rw_ne h1175 h1243 (by decide))).trans k1230
  have k1303 : σ1244.2.2.2.2 582 a0 = some q338 := (oX_kr y1245 h1175 (rw_ne h1175 h1243 (by decide))).trans k1231
  have k1304 : σ1244.2.2.2.2 0 q453 = some q244 := (oX_kr y1245 h1183 (rw_ne h1183 h1243 (by decide))).trans k1232
  have k1305 : σ1244.2.2.2.2 583 a0 = some q453 := (oX_kr y1245 h1175 (rw_ne h1175 h1243 (by decide))).trans k1233
  have k1306 : σ1244.2.2.2.2 584 a0 = some q585 := (oX_kr y1245 h1175 (rw_ne h1175 h1243 (by decide))).trans k1234
  have k1307 : σ1244.2.2.2.2 128 q728 = some R834 := (oX_kr y1245 h1185 (rw_ne h1185 h1243 (by decide))).trans k1235
  have k1308 : σ1244.2.2.2.2 585 a0 = some q728 := (oX_kr y1245 h1175 (rw_ne h1175 h1243 (by decide))).trans k1236
  have k1309 : σ1244.2.2.2.2 586 a0 = some q884 := (oX_kr y1245 h1175 (rw_ne h1175 h1243 (by decide))).trans k1237
  have k1310 : σ1244.2.2.2.2 4096 q884 = some q992 := (oX_kr y1245 h1187 (rw_ne h1187 h1243 (by decide))).trans k1238
  have k1311 : ∀ i, i < 10 → ∃ b, σ1244.2.2.2.2 (4096 + i) R834 = some b ∧ b ≠ q338 := fun i hi => by obtain ⟨b, z1, z2⟩ := k1239 i hi; exact ⟨b, (oX_kr y1245 h1186 (rw_ne h1186 h1243 (by decide))).trans z1, z2⟩
  have h1312 : oA L τ q1172 5 := oX_q y1245 h1243 t1246
  refine o_astq cx hw h1259 (by decide) rfl (fun _ => rfl) h1312 (iv_in (⟨by decide, by decide⟩ : Iv 1 1 1) (by decide)) dX10_init_161 (fun σ1314 H locs e1313 hw => ?_)
  have k1315 : σ1314.1 587 a0 = 0 := (kp_r e1313).trans k1261
  have k1316 : σ1314.1 588 a0 = 0 := (kp_r e1313).trans k1262
  have k1317 : σ1314.1 385 q3 = 0 := (kp_r e1313).trans k1263
  have k1318 : σ1314.1 386 q3 = 0 := (kp_r e1313).trans k1264
  have k1319 : σ1314.1 387 q3 = 80 := (kp_r e1313).trans k1265
  have k1320 : σ1314.1 193 q25 = 0 := (kp_r e1313).trans k1266
  have k1321 : σ1314.1 64 q59 = 0 := (kp_r e1313).trans k1267
  have k1322 : σ1314.1 65 q59 = 0 := (kp_r e1313).trans k1268
  have k1323 : σ1314.1 66 q59 = 0 := (kp_r e1313).trans k1269
  have k1324 : σ1314.1 257 q103 = 0 := (kp_r e1313).trans k1270
  have k1325 : σ1314.1 259 q103 = 0 := (kp_r e1313).trans k1271
  have k1326 : σ1314.1 261 q103 = 0 := (kp_r e1313).trans k1272
  have k1327 : σ1314.1 263 q103 = 0 := (kp_r e1313).trans k1273
  have k1328 : σ1314.1 264 q103 = 0 := (kp_r e1313).trans k1274
  have k1329 : σ1314.1 265 q103 = 0 := (kp_r e1313).trans k1275
  have k1330 : σ1314.1 514 q164 = 12 := (kp_r e1313).trans k1276
  have k1331 : σ1314.1 515 q164 = 6 := (kp_r e1313).trans k1277
  have k1332 : σ1314.1 327 q244 = 0 := (kp_r e1313).trans k1278
  have k1333 : σ1314.1 328 q244 = 0 := (kp_r e1313).trans k1279
  have k1334 : σ1314.1 329 q244 = 0 := (kp_r e1313).trans k1280
  have k1335 : σ1314.1 330 q244 = 0 := (kp_r e1313).trans k1281
  have k1336 : σ1314.1 331 q244 = 0 := (kp_r e1313).trans k1282
  have k1337 : σ1314.1 327 q338 = 0 := (kp_r e1313).trans k1283
  have k1338 : σ1314.1 328 q338 = 0 := (kp_r e1313).trans k1284
  have k1339 : σ1314.1 329 q338 = 0 := (kp_r e1313).trans k1285
  have k1340 : σ1314.1 330 q338 = 0 := (kp_r e1313).trans k1286
  have k1341 : σ1314.1 331 q338 = 0 := (kp_r e1313).trans k1287
  have k1342 : σ1314.1 6 q453 = 0 := (kp_r e1313).trans k1288
  have k1343 : σ1314.1 7 q453 = 0 := (kp_r e1313).trans k1289
  have k1344 : σ1314.1 129 q728 = 0 := (kp_r e1313).trans k1290
  have k1345 : σ1314.1 130 q728 = 0 := (kp_r e1313).trans k1291
  have k1346 : σ1314.1 327 q992 = 0 := (kp_r e1313).trans k1292
  have k1347 : σ1314.1 328 q992 = 0 := (kp_r e1313).trans k1293
  have k1348 : σ1314.1 329 q992 = 0 := (kp_r e1313).trans k1294
  have k1349 : σ1314.1 330 q992 = 0 := (kp_r e1313).trans k1295
  have k1350 : σ1314.1 331 q992 = 0 := (kp_r e1313).trans k1296
  have k1351 : σ1314.1 327 q1172 = 0 := (kp_r e1313).trans fy1245_327
  have k1352 : σ1314.1 328 q1172 = 0 := (kp_r e1313).trans fy1245_328
  have k1353 : σ1314.1 329 q1172 = 0 := (kp_r e1313).trans fy1245_329
  have k1354 : σ1314.1 330 q1172 = 0 := (kp_r e1313).trans fy1245_330
  have k1355 : σ1314.1 331 q1172 = 0 := (kp_r e1313).trans fy1245_331
  have k1356 : σ1314.2.2.2.2 576 a0 = some q3 := (kr_r e1313 (by decide)).trans k1297
  have k1357 : σ1314.2.2.2.2 577 a0 = some q25 := (kr_r e1313 (by decide)).trans k1298
  have k1358 : σ1314.2.2.2.2 578 a0 = some q59 := (kr_r e1313 (by decide)).trans k1299
  have k1359 : σ1314.2.2.2.2 579 a0 = some q103 := (kr_r e1313 (by decide)).trans k1300
  have k1360 : σ1314.2.2.2.2 580 a0 = some q164 := (kr_r e1313 (by decide)).trans k1301
  have k1361 : σ1314.2.2.2.2 581 a0 = some q244 := (kr_r e1313 (by decide)).trans k1302
  have k1362 : σ1314.2.2.2.2 582 a0 = some q338 := (kr_r e1313 (by decide)).trans k1303
  have k1363 : σ1314.2.2.2.2 0 q453 = some q244 := (kr_r e1313 (by decide)).trans k1304
  have k1364 : σ1314.2.2.2.2 583 a0 = some q453 := (kr_r e1313 (by decide)).trans k1305
  have k1365 : σ1314.2.2.2.2 584 a0 = some q585 := (kr_r e1313 (by decide)).trans k1306
  have k1366 : σ1314.2.2.2.2 128 q728 = some R834 := (kr_r e1313 (by decide)).trans k1307
  have k1367 : σ1314.2.2.2.2 585 a0 = some q728 := (kr_r e1313 (by decide)).trans k1308
  have k1368 : σ1314.2.2.2.2 586 a0 = some q884 := (kr_r e1313 (by decide)).trans k1309
  have k1369 : σ1314.2.2.2.2 4096 q884 = some q992 := (kr_r e1313 (by decide)).trans k1310
  have k1370 : ∀ i, i < 10 → ∃ b, σ1314.2.2.2.2 (4096 + i) R834 = some b ∧ b ≠ q338 := fun i hi => by obtain ⟨b, z1, z2⟩ := k1311 i hi; exact ⟨b, (kr_ra e1313 (rw_ne h1258 h1259 (by decide))).trans z1, z2⟩
  have k1371 : σ1314.2.2.2.2 4097 q884 = some q1172 := kr_s e1313
  obtain ⟨τ9, d1372⟩ : ∃ τ9, oD τ q884 41 τ9 := ⟨_, rfl⟩
  have hw := oD_I d1372 hw h1259 (Or.inr ⟨by decide, by decide, rfl, rfl⟩) (fun j hj => oMb_hi (by omega)) (fun _ => trivial) (fun j t2 hj => by
    have hj2 : (4096 ≤ j ∧ j < 4098) ∧ t2 = 5 := by
      by_cases h9 : 4096 ≤ j ∧ j < 4098
      · exact ⟨h9, by rw [show oTg 41 j = some 5 from if_pos h9] at hj; injection hj with hj; exact hj.symm⟩
      · rw [show oTg 41 j = none from if_neg h9] at hj; cases hj
    obtain ⟨hj2, rfl⟩ := hj2
    rcases (show j = 4096 ∨ j = 4097 by omega) with rfl | rfl
    · exact ⟨q992, k1369, h1260, rw_ne h1260 h1259 (by decide)⟩
    · exact ⟨q1172, k1371, h1312, rw_ne h1312 h1259 (by decide)⟩) (oTg_no (by decide))
  have h1373 : oA L τ9 a0 25 := oD_a d1372 h1247 (rw_ne h1247 h1259 (by decide))
  have h1374 : oA L τ9 q3 6 := oD_a d1372 h1248 (rw_ne h1248 h1259 (by decide))
  have h1375 : oA L τ9 q25 3 := oD_a d1372 h1249 (rw_ne h1249 h1259 (by decide))
  have h1376 : oA L τ9 q59 1 := oD_a d1372 h1250 (rw_ne h1250 h1259 (by decide))
  have h1377 : oA L τ9 q103 4 := oD_a d1372 h1251 (rw_ne h1251 h1259 (by decide))
  have h1378 : oA L τ9 q164 8 := oD_a d1372 h1252 (rw_ne h1252 h1259 (by decide))
  have h1379 : oA L τ9 q244 5 := oD_a d1372 h1253 (rw_ne h1253 h1259 (by decide))
  have h1380 : oA L τ9 q338 5 := oD_a d1372 h1254 (rw_ne h1254 h1259 (by decide))
  have h1381 : oA L τ9 q453 0 := oD_a d1372 h1255 (rw_ne h1255 h1259 (by decide))
  have h1382 : oA L τ9 q585 7 := oD_a d1372 h1256 (rw_ne h1256 h1259 (by decide))
  have h1383 : oA L τ9 q728 2 := oD_a d1372 h1257 (rw_ne h1257 h1259 (by decide))
  have h1384 : oA L τ9 R834 40 := oD_a d1372 h1258 (rw_ne h1258 h1259 (by decide))
  have h1385 : oA L τ9 q884 41 := oD_q d1372 h1259
  have h1386 : oA L τ9 q992 5 := oD_a d1372 h1260 (rw_ne h1260 h1259 (by decide))
  have h1387 : oA L τ9 q1172 5 := oD_a d1372 h1312 (rw_ne h1312 h1259 (by decide))
  have ⟨τ, eτ⟩ : ∃ z, z = τ9 := ⟨_, rfl⟩
  subst eτ
  refine lv_iinc (v := 2) (lv' := [(1, .int 2), (0, .ref a0)]) hx hb dX10_init_162 hl (k := 0) rfl (by decide) (by decide) rfl (fun ls hl => ?_)
  refine lv_goto (tgt := 144) hx hb dX10_init_165 (by decide) ?_
  refine lv_iload_n hx hb dX10_init_144 rfl (lv_at hl 0 rfl) ?_
  refine lv_iconst (v := 2) hx hb dX10_init_145 (by decide) ?_
  refine lv_icmp_ge (tgt := 168) hx hb dX10_init_146 (by decide) (fun c1388 => ?_) (fun c1388 => ?_)
  rotate_left
  · exact absurd (show (2 : Int32) ≤ 2 by decide) c1388
  refine lv_aload_n hx hb dX10_init_168 rfl (lv_at hl 1 rfl) ?_
  refine o_getK cx hw 9 0 rfl fiX10 h1373 (by decide) rfl (by decide) rfl rfl k_f_X10_10 (j := 576) rfl k1356 dX10_init_169 ?_
  refine va_ldcS hx hb hown cx.2.2.2.1.1 dX10_init_172 ?_
  refine o_cv hw (oRunV cx hA hw q_X7_tell k_m_X10_85 rfl h1374 (by decide) (As := [.ref (K.1 0)]) (c_X7_tell q3 h1374) (by decide) rfl hl.1 rfl (Nat.le_of_ble_eq_true rfl) dX10_init_174 (by decide)) (fun σ1389 H locs hp hw => ?_)
  have f1391_0 := hp
  have k1392 : σ1389.1 587 a0 = 0 := (kp_c f1391_0 (by decide)).trans k1315
  have k1393 : σ1389.1 588 a0 = 0 := (kp_c f1391_0 (by decide)).trans k1316
  have k1394 : σ1389.1 386 q3 = 0 := (kp_c f1391_0 (by decide)).trans k1318
  have k1395 : σ1389.1 387 q3 = 80 := (kp_c f1391_0 (by decide)).trans k1319
  have k1396 : σ1389.1 193 q25 = 0 := (kp_c f1391_0 (by decide)).trans k1320
  have k1397 : σ1389.1 64 q59 = 0 := (kp_c f1391_0 (by decide)).trans k1321
  have k1398 : σ1389.1 65 q59 = 0 := (kp_c f1391_0 (by decide)).trans k1322
  have k1399 : σ1389.1 66 q59 = 0 := (kp_c f1391_0 (by decide)).trans k1323
  have k1400 : σ1389.1 257 q103 = 0 := (kp_c f1391_0 (by decide)).trans k1324
  have k1401 : σ1389.1 259 q103 = 0 := (kp_c f1391_0 (by decide)).trans k1325
  have k1402 : σ1389.1 261 q103 = 0 := (kp_c f1391_0 (by decide)).trans k1326
  have k1403 : σ1389.1 263 q103 = 0 := (kp_c f1391_0 (by decide)).trans k1327
  have k1404 : σ1389.1 264 q103 = 0 := (kp_c f1391_0 (by decide)).trans k1328
  have k1405 : σ1389.1 265 q103 = 0 := (kp_c f1391_0 (by decide)).trans k1329
  have k1406 : σ1389.1 514 q164 = 12 := (kp_c f1391_0 (by decide)).trans k1330
  have k1407 : σ1389.1 515 q164 = 6 := (kp_c f1391_0 (by decide)).trans k1331
  have k1408 : σ1389.1 327 q244 = 0 := (kp_c f1391_0 (by decide)).trans k1332
  have k1409 : σ1389.1 328 q244 = 0 := (kp_c f1391_0 (by decide)).trans k1333
  have k1410 : σ1389.1 329 q244 = 0 := (kp_c f1391_0 (by decide)).trans k1334
  have k1411 : σ1389.1 330 q244 = 0 := (kp_c f1391_0 (by decide)).trans k1335
  have k1412 : σ1389.1 331 q244 = 0 := (kp_c f1391_0 (by decide)).trans k1336
  have k1413 : σ1389.1 327 q338 = 0 := (kp_c f1391_0 (by decide)).trans k1337
  have k1414 : σ1389.1 328 q338 = 0 := (kp_c f1391_0 (by decide)).trans k1338
  have k1415 : σ1389.1 329 q338 = 0 := (kp_c f1391_0 (by decide)).trans k1339
  have k1416 : σ1389.1 330 q338 = 0 := (kp_c f1391_0 (by decide)).trans k1340
  have k1417 : σ1389.1 331 q338 = 0 := (kp_c f1391_0 (by decide)).trans k1341
  have k1418 : σ1389.1 6 q453 = 0 := (kp_c f1391_0 (by decide)).trans k1342
  have k1419 : σ1389.1 7 q453 = 0 := (kp_c f1391_0 (by decide)).trans k1343
  have k1420 : σ1389.1 129 q728 = 0 := (kp_c f1391_0 (by decide)).trans k1344
  have k1421 : σ1389.1 130 q728 = 0 := (kp_c f1391_0 (by decide)).trans k1345
  have k1422 : σ1389.1 327 q992 = 0 := (kp_c f1391_0 (by decide)).trans k1346
  have k1423 : σ1389.1 328 q992 = 0 := (kp_c f1391_0 (by decide)).trans k1347
  have k1424 : σ1389.1 329 q992 = 0 := (kp_c f1391_0 (by decide)).trans k1348
  have k1425 : σ1389.1 330 q992 = 0 := (kp_c f1391_0 (by decide)).trans k1349
  have k1426 : σ1389.1 331 q992 = 0 := (kp_c f1391_0 (by decide)).trans k1350
  have k1427 : σ1389.1 327 q1172 = 0 := (kp_c f1391_0 (by decide)).trans k1351
  have k1428 : σ1389.1 328 q1172 = 0 := (kp_c f1391_0 (by decide)).trans k1352
  have k1429 : σ1389.1 329 q1172 = 0 := (kp_c f1391_0 (by decide)).trans k1353
  have k1430 : σ1389.1 330 q1172 = 0 := (kp_c f1391_0 (by decide)).trans k1354
  have k1431 : σ1389.1 331 q1172 = 0 := (kp_c f1391_0 (by decide)).trans k1355
  have k1432 : σ1389.2.2.2.2 576 a0 = some q3 := (kr_c f1391_0 (by decide)).trans k1356
  have k1433 : σ1389.2.2.2.2 577 a0 = some q25 := (kr_c f1391_0 (by decide)).trans k1357
  have k1434 : σ1389.2.2.2.2 578 a0 = some q59 := (kr_c f1391_0 (by decide)).trans k1358
  have k1435 : σ1389.2.2.2.2 579 a0 = some q103 := (kr_c f1391_0 (by decide)).trans k1359
  have k1436 : σ1389.2.2.2.2 580 a0 = some q164 := (kr_c f1391_0 (by decide)).trans k1360
  have k1437 : σ1389.2.2.2.2 581 a0 = some q244 := (kr_c f1391_0 (by decide)).trans k1361
  have k1438 : σ1389.2.2.2.2 582 a0 = some q338 := (kr_c f1391_0 (by decide)).trans k1362
  have k1439 : σ1389.2.2.2.2 0 q453 = some q244 := (kr_c f1391_0 (by decide)).trans k1363
  have k1440 : σ1389.2.2.2.2 583 a0 = some q453 := (kr_c f1391_0 (by decide)).trans k1364
  have k1441 : σ1389.2.2.2.2 584 a0 = some q585 := (kr_c f1391_0 (by decide)).trans k1365
  have k1442 : σ1389.2.2.2.2 128 q728 = some R834 := (kr_c f1391_0 (by decide)).trans k1366
  have k1443 : σ1389.2.2.2.2 585 a0 = some q728 := (kr_c f1391_0 (by decide)).trans k1367
  have k1444 : σ1389.2.2.2.2 586 a0 = some q884 := (kr_c f1391_0 (by decide)).trans k1368
  have k1445 : σ1389.2.2.2.2 4096 q884 = some q992 := (kr_c f1391_0 (by decide)).trans k1369
  have k1446 : σ1389.2.2.2.2 4097 q884 = some q1172 := (kr_c f1391_0 (by decide)).trans k1371
  have k1447 : ∀ i, i < 10 → ∃ b, σ1389.2.2.2.2 (4096 + i) R834 = some b ∧ b ≠ q338 := fun i hi => by obtain ⟨b, z1, z2⟩ := k1370 i hi; exact ⟨b, (congrFun (f1391_0.1 _ (nvk_2 (X := []) (by decide +kernel) (Nat.le_add_right _ _))).2.2 _).trans z1, z2⟩
  refine lv_aload_n hx hb dX10_init_177 rfl (lv_at hl 1 rfl) ?_
  refine o_getK cx hw 9 3 rfl fiX10 h1373 (by decide) rfl (by decide) rfl rfl k_f_X10_33 (j := 579) rfl k1435 dX10_init_178 ?_
  refine lv_aload_n hx hb dX10_init_181 rfl (lv_at hl 1 rfl) ?_
  refine o_getK cx hw 9 0 rfl fiX10 h1373 (by decide) rfl (by decide) rfl rfl k_f_X10_10 (j := 576) rfl k1432 dX10_init_182 ?_
  refine o_ci hw (oRunV cx hA hw q_X5_learn k_m_X10_89 rfl h1377 (by decide) (As := [.ref q3]) (c_X5_learn q103 h1377 q3 h1374) (by decide) rfl hl.1 rfl (Nat.le_of_ble_eq_true rfl) dX10_init_185 (by decide)) (fun v1449 σ1448 H locs hp hw => ?_)
  have f1450_0 := hp
  have k1451 : σ1448.1 587 a0 = 0 := (kp_c f1450_0 (by decide)).trans k1392
  have k1452 : σ1448.1 588 a0 = 0 := (kp_c f1450_0 (by decide)).trans k1393
  have k1453 : σ1448.1 193 q25 = 0 := (kp_c f1450_0 (by decide)).trans k1396
  have k1454 : σ1448.1 64 q59 = 0 := (kp_c f1450_0 (by decide)).trans k1397
  have k1455 : σ1448.1 65 q59 = 0 := (kp_c f1450_0 (by decide)).trans k1398
  have k1456 : σ1448.1 66 q59 = 0 := (kp_c f1450_0 (by decide)).trans k1399
  have k1457 : σ1448.1 514 q164 = 12 := (kp_c f1450_0 (by decide)).trans k1406
  have k1458 : σ1448.1 515 q164 = 6 := (kp_c f1450_0 (by decide)).trans k1407
  have k1459 : σ1448.1 327 q244 = 0 := (kp_c f1450_0 (by decide)).trans k1408
  have k1460 : σ1448.1 328 q244 = 0 := (kp_c f1450_0 (by decide)).trans k1409
  have k1461 : σ1448.1 329 q244 = 0 := (kp_c f1450_0 (by decide)).trans k1410
  have k1462 : σ1448.1 330 q244 = 0 := (kp_c f1450_0 (by decide)).trans k1411
  have k1463 : σ1448.1 331 q244 = 0 := (kp_c f1450_0 (by decide)).trans k1412
  have k1464 : σ1448.1 327 q338 = 0 := (kp_c f1450_0 (by decide)).trans k1413
  have k1465 : σ1448.1 328 q338 = 0 := (kp_c f1450_0 (by decide)).trans k1414
  have k1466 : σ1448.1 329 q338 = 0 := (kp_c f1450_0 (by decide)).trans k1415
  have k1467 : σ1448.1 330 q338 = 0 := (kp_c f1450_0 (by decide)).trans k1416
  have k1468 : σ1448.1 331 q338 = 0 := (kp_c f1450_0 (by decide)).trans k1417
  have k1469 : σ1448.1 6 q453 = 0 := (kp_c f1450_0 (by decide)).trans k1418
  have k1470 : σ1448.1 7 q453 = 0 := (kp_c f1450_0 (by decide)).trans k1419
  have k1471 : σ1448.1 129 q728 = 0 := (kp_c f1450_0 (by decide)).trans k1420
  have k1472 : σ1448.1 130 q728 = 0 := (kp_c f1450_0 (by decide)).trans k1421
  have k1473 : σ1448.1 327 q992 = 0 := (kp_c f1450_0 (by decide)).trans k1422
  have k1474 : σ1448.1 328 q992 = 0 := (kp_c f1450_0 (by decide)).trans k1423
  have k1475 : σ1448.1 329 q992 = 0 := (kp_c f1450_0 (by decide)).trans k1424
  have k1476 : σ1448.1 330 q992 = 0 := (kp_c f1450_0 (by decide)).trans k1425
  have k1477 : σ1448.1 331 q992 = 0 := (kp_c f1450_0 (by decide)).trans k1426
  have k1478 : σ1448.1 327 q1172 = 0 := (kp_c f1450_0 (by decide)).trans k1427
  have k1479 : σ1448.1 328 q1172 = 0 := (kp_c f1450_0 (by decide)).trans k1428
  have k1480 : σ1448.1 329 q1172 = 0 := (kp_c f1450_0 (by decide)).trans k1429
  have k1481 : σ1448.1 330 q1172 = 0 := (kp_c f1450_0 (by decide)).trans k1430
  have k1482 : σ1448.1 331 q1172 = 0 := (kp_c f1450_0 (by decide)).trans k1431
  have k1483 : σ1448.2.2.2.2 576 a0 = some q3 := (kr_c f1450_0 (by decide)).trans k1432
  have k1484 : σ1448.2.2.2.2 577 a0 = some q25 := (kr_c f1450_0 (by decide)).trans k1433
  have k1485 : σ1448.2.2.2.2 578 a0 = some q59 := (kr_c f1450_0 (by decide)).trans k1434
  have k1486 : σ1448.2.2.2.2 579 a0 = some q103 := (kr_c f1450_0 (by decide)).trans k1435
  have k1487 : σ1448.2.2.2.2 580 a0 = some q164 := (kr_c f1450_0 (by decide)).trans k1436
  have k1488 : σ1448.2.2.2.2 581 a0 = some q244 := (kr_c f1450_0 (by decide)).trans k1437
  have k1489 : σ1448.2.2.2.2 582 a0 = some q338 := (kr_c f1450_0 (by decide)).trans k1438
  have k1490 : σ1448.2.2.2.2 0 q453 = some q244 := (kr_c f1450_0 (by decide)).trans k1439
  have k1491 : σ1448.2.2.2.2 583 a0 = some q453 := (kr_c f1450_0 (by decide)).trans k1440
  have k1492 : σ1448.2.2.2.2 584 a0 = some q585 := (kr_c f1450_0 (by decide)).trans k1441
  have k1493 : σ1448.2.2.2.2 128 q728 = some R834 := (kr_c f1450_0 (by decide)).trans k1442
  have k1494 : σ1448.2.2.2.2 585 a0 = some q728 := (kr_c f1450_0 (by decide)).trans k1443
  have k1495 : σ1448.2.2.2.2 586 a0 = some q884 := (kr_c f1450_0 (by decide)).trans k1444
  have k1496 : σ1448.2.2.2.2 4096 q884 = some q992 := (kr_c f1450_0 (by decide)).trans k1445
  have k1497 : σ1448.2.2.2.2 4097 q884 = some q1172 := (kr_c f1450_0 (by decide)).trans k1446
  have k1498 : ∀ i, i < 10 → ∃ b, σ1448.2.2.2.2 (4096 + i) R834 = some b ∧ b ≠ q338 := fun i hi => by obtain ⟨b, z1, z2⟩ := k1447 i hi; exact ⟨b, (congrFun (f1450_0.1 _ (nvk_2 (X := []) (by decide +kernel) (Nat.le_add_right _ _))).2.2 _).trans z1, z2⟩
  refine lv_pop hx hb dX10_init_188 rfl ?_
  refine lv_aload_n hx hb dX10_init_189 rfl (lv_at hl 1 rfl) ?_
  refine o_getK cx hw 9 0 rfl fiX10 h1373 (by decide) rfl (by decide) rfl rfl k_f_X10_10 (j := 576) rfl k1483 dX10_init_190 ?_
  refine o_cv hw (oRunV cx hA hw q_X7_empty k_m_X10_93 rfl h1374 (by decide) (As := []) (c_X7_empty q3 h1374) (by decide) rfl hl.1 rfl (Nat.le_of_ble_eq_true rfl) dX10_init_193 (by decide)) (fun σ1499 H locs hp hw => ?_)
  obtain ⟨f1501_0, f1501_1⟩ := hp
  have k1502 : σ1499.1 587 a0 = 0 := (kp_c f1501_0 (by decide)).trans k1451
  have k1503 : σ1499.1 588 a0 = 0 := (kp_c f1501_0 (by decide)).trans k1452
  have k1504 : σ1499.1 193 q25 = 0 := (kp_c f1501_0 (by decide)).trans k1453
  have k1505 : σ1499.1 64 q59 = 0 := (kp_c f1501_0 (by decide)).trans k1454
  have k1506 : σ1499.1 65 q59 = 0 := (kp_c f1501_0 (by decide)).trans k1455
  have k1507 : σ1499.1 66 q59 = 0 := (kp_c f1501_0 (by decide)).trans k1456
  have k1508 : σ1499.1 514 q164 = 12 := (kp_c f1501_0 (by decide)).trans k1457
  have k1509 : σ1499.1 515 q164 = 6 := (kp_c f1501_0 (by decide)).trans k1458
  have k1510 : σ1499.1 327 q244 = 0 := (kp_c f1501_0 (by decide)).trans k1459
  have k1511 : σ1499.1 328 q244 = 0 := (kp_c f1501_0 (by decide)).trans k1460
  have k1512 : σ1499.1 329 q244 = 0 := (kp_c f1501_0 (by decide)).trans k1461
  have k1513 : σ1499.1 330 q244 = 0 := (kp_c f1501_0 (by decide)).trans k1462
  have k1514 : σ1499.1 331 q244 = 0 := (kp_c f1501_0 (by decide)).trans k1463
  have k1515 : σ1499.1 327 q338 = 0 := (kp_c f1501_0 (by decide)).trans k1464
  have k1516 : σ1499.1 328 q338 = 0 := (kp_c f1501_0 (by decide)).trans k1465
  have k1517 : σ1499.1 329 q338 = 0 := (kp_c f1501_0 (by decide)).trans k1466
  have k1518 : σ1499.1 330 q338 = 0 := (kp_c f1501_0 (by decide)).trans k1467
  have k1519 : σ1499.1 331 q338 = 0 := (kp_c f1501_0 (by decide)).trans k1468
  have k1520 : σ1499.1 6 q453 = 0 := (kp_c f1501_0 (by decide)).trans k1469
  have k1521 : σ1499.1 7 q453 = 0 := (kp_c f1501_0 (by decide)).trans k1470
  have k1522 : σ1499.1 129 q728 = 0 := (kp_c f1501_0 (by decide)).trans k1471
  have k1523 : σ1499.1 130 q728 = 0 := (kp_c f1501_0 (by decide)).trans k1472
  have k1524 : σ1499.1 327 q992 = 0 := (kp_c f1501_0 (by decide)).trans k1473
  have k1525 : σ1499.1 328 q992 = 0 := (kp_c f1501_0 (by decide)).trans k1474
  have k1526 : σ1499.1 329 q992 = 0 := (kp_c f1501_0 (by decide)).trans k1475
  have k1527 : σ1499.1 330 q992 = 0 := (kp_c f1501_0 (by decide)).trans k1476
  have k1528 : σ1499.1 331 q992 = 0 := (kp_c f1501_0 (by decide)).trans k1477
  have k1529 : σ1499.1 327 q1172 = 0 := (kp_c f1501_0 (by decide)).trans k1478
  have k1530 : σ1499.1 328 q1172 = 0 := (kp_c f1501_0 (by decide)).trans k1479
  have k1531 : σ1499.1 329 q1172 = 0 := (kp_c f1501_0 (by decide)).trans k1480
  have k1532 : σ1499.1 330 q1172 = 0 := (kp_c f1501_0 (by decide)).trans k1481
  have k1533 : σ1499.1 331 q1172 = 0 := (kp_c f1501_0 (by decide)).trans k1482
  have k1534 : σ1499.2.2.2.2 576 a0 = some q3 := (kr_c f1501_0 (by decide)).trans k1483
  have k1535 : σ1499.2.2.2.2 577 a0 = some q25 := (kr_c f1501_0 (by decide)).trans k1484
  have k1536 : σ1499.2.2.2.2 578 a0 = some q59 := (kr_c f1501_0 (by decide)).trans k1485
  have k1537 : σ1499.2.2.2.2 579 a0 = some q103 := (kr_c f1501_0 (by decide)).trans k1486
  have k1538 : σ1499.2.2.2.2 580 a0 = some q164 := (kr_c f1501_0 (by decide)).trans k1487
  have k1539 : σ1499.2.2.2.2 581 a0 = some q244 := (kr_c f1501_0 (by decide)).trans k1488
  have k1540 : σ1499.2.2.2.2 582 a0 = some q338 := (kr_c f1501_0 (by decide)).trans k1489
  have k1541 : σ1499.2.2.2.2 0 q453 = some q244 := (kr_c f1501_0 (by decide)).trans k1490
  have k1542 : σ1499.2.2.2.2 583 a0 = some q453 := (kr_c f1501_0 (by decide)).trans k1491
  have k1543 : σ1499.2.2.2.2 584 a0 = some q585 := (kr_c f1501_0 (by decide)).trans k1492
  have k1544 : σ1499.2.2.2.2 128 q728 = some R834 := (kr_c f1501_0 (by decide)).trans k1493
  have k1545 : σ1499.2.2.2.2 585 a0 = some q728 := (kr_c f1501_0 (by decide)).trans k1494
  have k1546 : σ1499.2.2.2.2 586 a0 = some q884 := (kr_c f1501_0 (by decide)).trans k1495
  have k1547 : σ1499.2.2.2.2 4096 q884 = some q992 := (kr_c f1501_0 (by decide)).trans k1496
  have k1548 : σ1499.2.2.2.2 4097 q884 = some q1172 := (kr_c f1501_0 (by decide)).trans k1497
  have k1549 : ∀ i, i < 10 → ∃ b, σ1499.2.2.2.2 (4096 + i) R834 = some b ∧ b ≠ q338 := fun i hi => by obtain ⟨b, z1, z2⟩ := k1498 i hi; exact ⟨b, (congrFun (f1501_0.1 _ (nvk_2 (X := []) (by decide +kernel) (Nat.le_add_right _ _))).2.2 _).trans z1, z2⟩
  have k1550 : σ1499.1 385 q3 = 0 := i32_eq (by have q1 := f1501_1.1; have q2 := f1501_1.2; have q3 : (0 : Int32).toInt = 0 := (by decide); omega)
  obtain ⟨τ9, d9⟩ : ∃ τ9, oD τ a0 9 τ9 := ⟨_, rfl⟩
  have hw := oD_I d9 hw h1373 (Or.inl ⟨by decide, by decide, rfl⟩) (mb_9 (f := fun j => σ1499.1 j a0) ) (fun i => oRb_lo (by decide)) (tg_9 (P := fun j t2 => ∃ b, σ1499.2.2.2.2 j a0 = some b ∧ oA L τ b t2 ∧ b ≠ a0) ⟨q3, k1534, h1374, rw_ne h1374 h1373 (by decide)⟩ ⟨q25, k1535, h1375, rw_ne h1375 h1373 (by decide)⟩ ⟨q59, k1536, h1376, rw_ne h1376 h1373 (by decide)⟩ ⟨q103, k1537, h1377, rw_ne h1377 h1373 (by decide)⟩ ⟨q164, k1538, h1378, rw_ne h1378 h1373 (by decide)⟩ ⟨q244, k1539, h1379, rw_ne h1379 h1373 (by decide)⟩ ⟨q338, k1540, h1380, rw_ne h1380 h1373 (by decide)⟩ ⟨q453, k1542, h1381, rw_ne h1381 h1373 (by decide)⟩ ⟨q585, k1543, h1382, rw_ne h1382 h1373 (by decide)⟩ ⟨q728, k1545, h1383, rw_ne h1383 h1373 (by decide)⟩ ⟨q884, k1546, h1385, rw_ne h1385 h1373 (by decide)⟩) (oTg_no (by decide))
  rw [← hQ]
  refine W.widen (k := 143) (n := 5804) (by decide) (by decide) ?_
  exact o_rI cx rx hw dX10_init_196 ⟨(oD_q d9 h1373).1, (oD_q d9 h1373).2, ⟨q3, k1534, k1550⟩, ⟨q164, k1538, k1508, k1509⟩, ⟨q244, k1539, k1510⟩, ⟨q59, k1536, k1505, k1506⟩, k1502, k1503, nv_init k1539 k1540 k1542 k1541 k1545 k1546 ne376 k1510 k1502 k1523 k1544 k1549 (two_i ⟨q992, k1547, Ne.symm ne1054⟩ ⟨q1172, k1548, Ne.symm ne1241⟩)⟩
end OM
