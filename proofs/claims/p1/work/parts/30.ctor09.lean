section OM
variable {l : Launch} {A : Nat → Prop} {L : List Nat} {τ : Nat → Nat} {cy : Nat → ClassId} {D : va_G} {K : (Nat → Nat) × (Nat → Nat)} {σ : oSt}
set_option maxHeartbeats 4000000 in
set_option maxRecDepth 100000 in
theorem c_X10_init (a0 : Nat) (ha0 : oA L τ a0 25) (hz : ∀ j, σ.1 j a0 = 0) (hzl : ∀ j, σ.2.1 j a0 = 0) (hq : HQ L τ σ) : oMetI l A L τ cy D K yX10_init cX10_init 2 7 174 143 5804 [.ref a0] σ (va_Qv (fun u : oW3 => a0 ∈ u.1 ∧ u.2.1 a0 = 9 ∧ (∃ b, u.2.2.2.2.2.2 576 a0 = some b ∧ u.2.2.1 385 b = 0) ∧ (∃ b, u.2.2.2.2.2.2 580 a0 = some b ∧ u.2.2.1 514 b = 12 ∧ u.2.2.1 515 b = 6) ∧ (∃ b, u.2.2.2.2.2.2 581 a0 = some b ∧ u.2.2.1 327 b = 0 ∧ u.2.2.1 329 b = 0 ∧ u.2.2.1 330 b = 0 ∧ u.2.2.1 331 b = 0) ∧ (∃ b, u.2.2.2.2.2.2 578 a0 = some b ∧ u.2.2.1 64 b = 0 ∧ u.2.2.1 65 b = 0) ∧ (∃ b, u.2.2.2.2.2.2 577 a0 = some b ∧ u.2.2.1 193 b = 0) ∧ (∃ b, u.2.2.2.2.2.2 585 a0 = some b ∧ u.2.2.1 130 b = 0) ∧ u.2.2.1 587 a0 = 0 ∧ u.2.2.1 588 a0 = 0 ∧ HQ u.1 u.2.1 u.2.2) (oPo3 A cy D) A) := by
  refine oMkI (by decide) (Nat.le_of_ble_eq_true rfl) rfl rfl ?_
  intro p e s m args below meth c ls cx rx hin hA hw hl
  generalize hQ : MQ below _ args s 143 5804 A = Q
  have hx := cx.1.1
  have hb := cx.1.2.1
  have hml := cx.1.2.2.1
  have hown := cx.1.2.2.2.1
  have hts := cx.1.2.2.2.2
  have hl : lv_has ls 2 [(0, .ref a0)] := hl
  have k1 : σ.1 587 a0 = 0 := hz 587
  have k2 : σ.1 588 a0 = 0 := hz 588
  refine lv_aload_n hx hb dX10_init_0 rfl (lv_at hl 0 rfl) ?_
  refine W.objInit hx hb hown (hts _ k_m_X10_1) (hts _ k_oi) (hts _ k_oc) rfl (by rw [hml]; exact hl.1) rfl dX10_init_1 (Nat.le_of_ble_eq_true rfl) (Nat.le_of_ble_eq_true rfl) ?_
  show W p l e _ s m args below meth c _ _ _ _ Q (F0 m 4 ls [])
  refine lv_aload_n hx hb dX10_init_4 rfl (lv_at hl 0 rfl) ?_
  refine o_new cx hA hw 6 (by decide) rfl fiX7 tyX7 tyX7_ok dfX7 k_c_X10_7 k_n_X7 k_i_X7 (by decide) (by decide) dX10_init_5 (fun q3 L τ σ5 H g4 hw => ?_)
  have h6 : oA L τ a0 25 := oG_a g4 ha0
  have k7 : σ5.1 587 a0 = 0 := (oG_i g4 ha0).trans k1
  have k8 : σ5.1 588 a0 = 0 := (oG_i g4 ha0).trans k2
  have hq := hq_g hq g4
  have h9 : oA L τ q3 22 := oG_q g4
  refine lv_dup hx hb dX10_init_8 rfl ?_
  refine o_cI hw (oRunIN cx hA hw q_X7_init cx.2.2.2.2.2.2.2.2.2.1 (As := []) (c_X7_init q3 h9 (fun j => oG_zi g4) (fun j => oG_zl g4) hq ) (by decide) rfl hl.1 rfl (Nat.le_of_ble_eq_true rfl) dX10_init_9 (by decide)) (fun L τ σ10 H locs hp hw => ?_)
  obtain ⟨y11, t12, fy11_385, fy11_386, fy11_387, xy11_0⟩ := hp
  have hq := xy11_0
  have h13 : oA L τ a0 25 := oX_a y11 h6 (rw_ne h6 h9 (by decide))
  have k14 : σ10.1 587 a0 = 0 := (oX_ki y11 h6 (rw_ne h6 h9 (by decide))).trans k7
  have k15 : σ10.1 588 a0 = 0 := (oX_ki y11 h6 (rw_ne h6 h9 (by decide))).trans k8
  have h16 : oA L τ q3 6 := oX_q y11 h9 t12
  refine o_putrF cx hw 9 0 rfl fiX10 tyX10 tyX10_ok nmX10 h13 (by decide) (by decide) rfl (by decide) rfl rfl rfl rfl hin rfl rfl k_f_X10_10 dX10_init_12 (fun σ18 H locs e17 hw => ?_)
  have k19 : σ18.1 587 a0 = 0 := (kp_r e17).trans k14
  have k20 : σ18.1 588 a0 = 0 := (kp_r e17).trans k15
  have k21 : σ18.1 385 q3 = 0 := (kp_r e17).trans fy11_385
  have k22 : σ18.1 386 q3 = 0 := (kp_r e17).trans fy11_386
  have k23 : σ18.1 387 q3 = 80 := (kp_r e17).trans fy11_387
  have k24 : σ18.2.2.2.2 576 a0 = some q3 := kr_s e17
  have hq := hq_r hq e17
  refine lv_aload_n hx hb dX10_init_15 rfl (lv_at hl 0 rfl) ?_
  refine o_new cx hA hw 3 (by decide) rfl fiX4 tyX4 tyX4_ok dfX4 k_c_X10_16 k_n_X4 k_i_X4 (by decide) (by decide) dX10_init_16 (fun q25 L τ σ27 H g26 hw => ?_)
  have h28 : oA L τ a0 25 := oG_a g26 h13
  have h29 : oA L τ q3 6 := oG_a g26 h16
  have k30 : σ27.1 587 a0 = 0 := (oG_i g26 h13).trans k19
  have k31 : σ27.1 588 a0 = 0 := (oG_i g26 h13).trans k20
  have k32 : σ27.1 385 q3 = 0 := (oG_i g26 h16).trans k21
  have k33 : σ27.1 386 q3 = 0 := (oG_i g26 h16).trans k22
  have k34 : σ27.1 387 q3 = 80 := (oG_i g26 h16).trans k23
  have k35 : σ27.2.2.2.2 576 a0 = some q3 := (oG_r g26 h13).trans k24
  have hq := hq_g hq g26
  have h36 : oA L τ q25 19 := oG_q g26
  refine lv_dup hx hb dX10_init_19 rfl ?_
  refine o_cI hw (oRunIN cx hA hw q_X4_init cx.2.2.2.2.2.2.2.2.2.2.1 (As := []) (c_X4_init q25 h36 (fun j => oG_zi g26) (fun j => oG_zl g26) hq ) (by decide) rfl hl.1 rfl (Nat.le_of_ble_eq_true rfl) dX10_init_20 (by decide)) (fun L τ σ37 H locs hp hw => ?_)
  obtain ⟨y38, t39, fy38_193, xy38_0⟩ := hp
  have hq := xy38_0
  have h40 : oA L τ a0 25 := oX_a y38 h28 (rw_ne h28 h36 (by decide))
  have h41 : oA L τ q3 6 := oX_a y38 h29 (rw_ne h29 h36 (by decide))
  have k42 : σ37.1 587 a0 = 0 := (oX_ki y38 h28 (rw_ne h28 h36 (by decide))).trans k30
  have k43 : σ37.1 588 a0 = 0 := (oX_ki y38 h28 (rw_ne h28 h36 (by decide))).trans k31
  have k44 : σ37.1 385 q3 = 0 := (oX_ki y38 h29 (rw_ne h29 h36 (by decide))).trans k32
  have k45 : σ37.1 386 q3 = 0 := (oX_ki y38 h29 (rw_ne h29 h36 (by decide))).trans k33
  have k46 : σ37.1 387 q3 = 80 := (oX_ki y38 h29 (rw_ne h29 h36 (by decide))).trans k34
  have k47 : σ37.2.2.2.2 576 a0 = some q3 := (oX_kr y38 h28 (rw_ne h28 h36 (by decide))).trans k35
  have h48 : oA L τ q25 3 := oX_q y38 h36 t39
  refine o_putrF cx hw 9 1 rfl fiX10 tyX10 tyX10_ok nmX10 h40 (by decide) (by decide) rfl (by decide) rfl rfl rfl rfl hin rfl rfl k_f_X10_19 dX10_init_23 (fun σ50 H locs e49 hw => ?_)
  have k51 : σ50.1 587 a0 = 0 := (kp_r e49).trans k42
  have k52 : σ50.1 588 a0 = 0 := (kp_r e49).trans k43
  have k53 : σ50.1 385 q3 = 0 := (kp_r e49).trans k44
  have k54 : σ50.1 386 q3 = 0 := (kp_r e49).trans k45
  have k55 : σ50.1 387 q3 = 80 := (kp_r e49).trans k46
  have k56 : σ50.1 193 q25 = 0 := (kp_r e49).trans fy38_193
  have k57 : σ50.2.2.2.2 576 a0 = some q3 := (kr_r e49 (by decide)).trans k47
  have k58 : σ50.2.2.2.2 577 a0 = some q25 := kr_s e49
  have hq := hq_r hq e49
  refine lv_aload_n hx hb dX10_init_26 rfl (lv_at hl 0 rfl) ?_
  refine o_new cx hA hw 1 (by decide) rfl fiX2 tyX2 tyX2_ok dfX2 k_c_X10_23 k_n_X2 k_i_X2 (by decide) (by decide) dX10_init_27 (fun q59 L τ σ61 H g60 hw => ?_)
  have h62 : oA L τ a0 25 := oG_a g60 h40
  have h63 : oA L τ q3 6 := oG_a g60 h41
  have h64 : oA L τ q25 3 := oG_a g60 h48
  have k65 : σ61.1 587 a0 = 0 := (oG_i g60 h40).trans k51
  have k66 : σ61.1 588 a0 = 0 := (oG_i g60 h40).trans k52
  have k67 : σ61.1 385 q3 = 0 := (oG_i g60 h41).trans k53
  have k68 : σ61.1 386 q3 = 0 := (oG_i g60 h41).trans k54
  have k69 : σ61.1 387 q3 = 80 := (oG_i g60 h41).trans k55
  have k70 : σ61.1 193 q25 = 0 := (oG_i g60 h48).trans k56
  have k71 : σ61.2.2.2.2 576 a0 = some q3 := (oG_r g60 h40).trans k57
  have k72 : σ61.2.2.2.2 577 a0 = some q25 := (oG_r g60 h40).trans k58
  have hq := hq_g hq g60
  have h73 : oA L τ q59 17 := oG_q g60
  refine lv_dup hx hb dX10_init_30 rfl ?_
  refine o_cI hw (oRunIN cx hA hw q_X2_init cx.2.2.2.2.2.2.2.2.2.2.2.1 (As := []) (c_X2_init q59 h73 (fun j => oG_zi g60) (fun j => oG_zl g60) hq ) (by decide) rfl hl.1 rfl (Nat.le_of_ble_eq_true rfl) dX10_init_31 (by decide)) (fun L τ σ74 H locs hp hw => ?_)
  obtain ⟨y75, t76, fy75_64, fy75_65, fy75_66, xy75_0⟩ := hp
  have hq := xy75_0
  have h77 : oA L τ a0 25 := oX_a y75 h62 (rw_ne h62 h73 (by decide))
  have h78 : oA L τ q3 6 := oX_a y75 h63 (rw_ne h63 h73 (by decide))
  have h79 : oA L τ q25 3 := oX_a y75 h64 (rw_ne h64 h73 (by decide))
  have k80 : σ74.1 587 a0 = 0 := (oX_ki y75 h62 (rw_ne h62 h73 (by decide))).trans k65
  have k81 : σ74.1 588 a0 = 0 := (oX_ki y75 h62 (rw_ne h62 h73 (by decide))).trans k66
  have k82 : σ74.1 385 q3 = 0 := (oX_ki y75 h63 (rw_ne h63 h73 (by decide))).trans k67
  have k83 : σ74.1 386 q3 = 0 := (oX_ki y75 h63 (rw_ne h63 h73 (by decide))).trans k68
  have k84 : σ74.1 387 q3 = 80 := (oX_ki y75 h63 (rw_ne h63 h73 (by decide))).trans k69
  have k85 : σ74.1 193 q25 = 0 := (oX_ki y75 h64 (rw_ne h64 h73 (by decide))).trans k70
  have k86 : σ74.2.2.2.2 576 a0 = some q3 := (oX_kr y75 h62 (rw_ne h62 h73 (by decide))).trans k71
  have k87 : σ74.2.2.2.2 577 a0 = some q25 := (oX_kr y75 h62 (rw_ne h62 h73 (by decide))).trans k72
  have h88 : oA L τ q59 1 := oX_q y75 h73 t76
  refine o_putrF cx hw 9 2 rfl fiX10 tyX10 tyX10_ok nmX10 h77 (by decide) (by decide) rfl (by decide) rfl rfl rfl rfl hin rfl rfl k_f_X10_26 dX10_init_34 (fun σ90 H locs e89 hw => ?_)
  have k91 : σ90.1 587 a0 = 0 := (kp_r e89).trans k80
  have k92 : σ90.1 588 a0 = 0 := (kp_r e89).trans k81
  have k93 : σ90.1 385 q3 = 0 := (kp_r e89).trans k82
  have k94 : σ90.1 386 q3 = 0 := (kp_r e89).trans k83
  have k95 : σ90.1 387 q3 = 80 := (kp_r e89).trans k84
  have k96 : σ90.1 193 q25 = 0 := (kp_r e89).trans k85
  have k97 : σ90.1 64 q59 = 0 := (kp_r e89).trans fy75_64
  have k98 : σ90.1 65 q59 = 0 := (kp_r e89).trans fy75_65
  have k99 : σ90.1 66 q59 = 0 := (kp_r e89).trans fy75_66
  have k100 : σ90.2.2.2.2 576 a0 = some q3 := (kr_r e89 (by decide)).trans k86
  have k101 : σ90.2.2.2.2 577 a0 = some q25 := (kr_r e89 (by decide)).trans k87
  have k102 : σ90.2.2.2.2 578 a0 = some q59 := kr_s e89
  have hq := hq_r hq e89
  refine lv_aload_n hx hb dX10_init_37 rfl (lv_at hl 0 rfl) ?_
  refine o_new cx hA hw 4 (by decide) rfl fiX5 tyX5 tyX5_ok dfX5 k_c_X10_30 k_n_X5 k_i_X5 (by decide) (by decide) dX10_init_38 (fun q103 L τ σ105 H g104 hw => ?_)
  have h106 : oA L τ a0 25 := oG_a g104 h77
  have h107 : oA L τ q3 6 := oG_a g104 h78
  have h108 : oA L τ q25 3 := oG_a g104 h79
  have h109 : oA L τ q59 1 := oG_a g104 h88
  have k110 : σ105.1 587 a0 = 0 := (oG_i g104 h77).trans k91
  have k111 : σ105.1 588 a0 = 0 := (oG_i g104 h77).trans k92
  have k112 : σ105.1 385 q3 = 0 := (oG_i g104 h78).trans k93
  have k113 : σ105.1 386 q3 = 0 := (oG_i g104 h78).trans k94
  have k114 : σ105.1 387 q3 = 80 := (oG_i g104 h78).trans k95
  have k115 : σ105.1 193 q25 = 0 := (oG_i g104 h79).trans k96
  have k116 : σ105.1 64 q59 = 0 := (oG_i g104 h88).trans k97
  have k117 : σ105.1 65 q59 = 0 := (oG_i g104 h88).trans k98
  have k118 : σ105.1 66 q59 = 0 := (oG_i g104 h88).trans k99
  have k119 : σ105.2.2.2.2 576 a0 = some q3 := (oG_r g104 h77).trans k100
  have k120 : σ105.2.2.2.2 577 a0 = some q25 := (oG_r g104 h77).trans k101
  have k121 : σ105.2.2.2.2 578 a0 = some q59 := (oG_r g104 h77).trans k102
  have hq := hq_g hq g104
  have h122 : oA L τ q103 20 := oG_q g104
  refine lv_dup hx hb dX10_init_41 rfl ?_
  refine o_cI hw (oRunIN cx hA hw q_X5_init cx.2.2.2.2.2.2.2.2.2.2.2.2.1 (As := []) (c_X5_init q103 h122 (fun j => oG_zi g104) (fun j => oG_zl g104) hq ) (by decide) rfl hl.1 rfl (Nat.le_of_ble_eq_true rfl) dX10_init_42 (by decide)) (fun L τ σ123 H locs hp hw => ?_)
  obtain ⟨y124, t125, fy124_257, fy124_259, fy124_261, fy124_263, fy124_264, fy124_265, xy124_0⟩ := hp
  have hq := xy124_0
  have h126 : oA L τ a0 25 := oX_a y124 h106 (rw_ne h106 h122 (by decide))
  have h127 : oA L τ q3 6 := oX_a y124 h107 (rw_ne h107 h122 (by decide))
  have h128 : oA L τ q25 3 := oX_a y124 h108 (rw_ne h108 h122 (by decide))
  have h129 : oA L τ q59 1 := oX_a y124 h109 (rw_ne h109 h122 (by decide))
  have k130 : σ123.1 587 a0 = 0 := (oX_ki y124 h106 (rw_ne h106 h122 (by decide))).trans k110
  have k131 : σ123.1 588 a0 = 0 := (oX_ki y124 h106 (rw_ne h106 h122 (by decide))).trans k111
  have k132 : σ123.1 385 q3 = 0 := (oX_ki y124 h107 (rw_ne h107 h122 (by decide))).trans k112
  have k133 : σ123.1 386 q3 = 0 := (oX_ki y124 h107 (rw_ne h107 h122 (by decide))).trans k113
  have k134 : σ123.1 387 q3 = 80 := (oX_ki y124 h107 (rw_ne h107 h122 (by decide))).trans k114
  have k135 : σ123.1 193 q25 = 0 := (oX_ki y124 h108 (rw_ne h108 h122 (by decide))).trans k115
  have k136 : σ123.1 64 q59 = 0 := (oX_ki y124 h109 (rw_ne h109 h122 (by decide))).trans k116
  have k137 : σ123.1 65 q59 = 0 := (oX_ki y124 h109 (rw_ne h109 h122 (by decide))).trans k117
  have k138 : σ123.1 66 q59 = 0 := (oX_ki y124 h109 (rw_ne h109 h122 (by decide))).trans k118
  have k139 : σ123.2.2.2.2 576 a0 = some q3 := (oX_kr y124 h106 (rw_ne h106 h122 (by decide))).trans k119
  have k140 : σ123.2.2.2.2 577 a0 = some q25 := (oX_kr y124 h106 (rw_ne h106 h122 (by decide))).trans k120
  have k141 : σ123.2.2.2.2 578 a0 = some q59 := (oX_kr y124 h106 (rw_ne h106 h122 (by decide))).trans k121
  have h142 : oA L τ q103 4 := oX_q y124 h122 t125
  refine o_putrF cx hw 9 3 rfl fiX10 tyX10 tyX10_ok nmX10 h126 (by decide) (by decide) rfl (by decide) rfl rfl rfl rfl hin rfl rfl k_f_X10_33 dX10_init_45 (fun σ144 H locs e143 hw => ?_)
  have k145 : σ144.1 587 a0 = 0 := (kp_r e143).trans k130
  have k146 : σ144.1 588 a0 = 0 := (kp_r e143).trans k131
  have k147 : σ144.1 385 q3 = 0 := (kp_r e143).trans k132
  have k148 : σ144.1 386 q3 = 0 := (kp_r e143).trans k133
  have k149 : σ144.1 387 q3 = 80 := (kp_r e143).trans k134
  have k150 : σ144.1 193 q25 = 0 := (kp_r e143).trans k135
  have k151 : σ144.1 64 q59 = 0 := (kp_r e143).trans k136
  have k152 : σ144.1 65 q59 = 0 := (kp_r e143).trans k137
  have k153 : σ144.1 66 q59 = 0 := (kp_r e143).trans k138
  have k154 : σ144.1 257 q103 = 0 := (kp_r e143).trans fy124_257
  have k155 : σ144.1 259 q103 = 0 := (kp_r e143).trans fy124_259
  have k156 : σ144.1 261 q103 = 0 := (kp_r e143).trans fy124_261
  have k157 : σ144.1 263 q103 = 0 := (kp_r e143).trans fy124_263
  have k158 : σ144.1 264 q103 = 0 := (kp_r e143).trans fy124_264
  have k159 : σ144.1 265 q103 = 0 := (kp_r e143).trans fy124_265
  have k160 : σ144.2.2.2.2 576 a0 = some q3 := (kr_r e143 (by decide)).trans k139
  have k161 : σ144.2.2.2.2 577 a0 = some q25 := (kr_r e143 (by decide)).trans k140
  have k162 : σ144.2.2.2.2 578 a0 = some q59 := (kr_r e143 (by decide)).trans k141
  have k163 : σ144.2.2.2.2 579 a0 = some q103 := kr_s e143
  have hq := hq_r hq e143
  refine lv_aload_n hx hb dX10_init_48 rfl (lv_at hl 0 rfl) ?_
  refine o_new cx hA hw 8 (by decide) rfl fiX9 tyX9 tyX9_ok dfX9 k_c_X10_37 k_n_X9 k_i_X9 (by decide) (by decide) dX10_init_49 (fun q164 L τ σ166 H g165 hw => ?_)
  have h167 : oA L τ a0 25 := oG_a g165 h126
  have h168 : oA L τ q3 6 := oG_a g165 h127
  have h169 : oA L τ q25 3 := oG_a g165 h128
  have h170 : oA L τ q59 1 := oG_a g165 h129
  have h171 : oA L τ q103 4 := oG_a g165 h142
  have k172 : σ166.1 587 a0 = 0 := (oG_i g165 h126).trans k145
  have k173 : σ166.1 588 a0 = 0 := (oG_i g165 h126).trans k146
  have k174 : σ166.1 385 q3 = 0 := (oG_i g165 h127).trans k147
  have k175 : σ166.1 386 q3 = 0 := (oG_i g165 h127).trans k148
  have k176 : σ166.1 387 q3 = 80 := (oG_i g165 h127).trans k149
  have k177 : σ166.1 193 q25 = 0 := (oG_i g165 h128).trans k150
  have k178 : σ166.1 64 q59 = 0 := (oG_i g165 h129).trans k151
  have k179 : σ166.1 65 q59 = 0 := (oG_i g165 h129).trans k152
  have k180 : σ166.1 66 q59 = 0 := (oG_i g165 h129).trans k153
  have k181 : σ166.1 257 q103 = 0 := (oG_i g165 h142).trans k154
  have k182 : σ166.1 259 q103 = 0 := (oG_i g165 h142).trans k155
  have k183 : σ166.1 261 q103 = 0 := (oG_i g165 h142).trans k156
  have k184 : σ166.1 263 q103 = 0 := (oG_i g165 h142).trans k157
  have k185 : σ166.1 264 q103 = 0 := (oG_i g165 h142).trans k158
  have k186 : σ166.1 265 q103 = 0 := (oG_i g165 h142).trans k159
  have k187 : σ166.2.2.2.2 576 a0 = some q3 := (oG_r g165 h126).trans k160
  have k188 : σ166.2.2.2.2 577 a0 = some q25 := (oG_r g165 h126).trans k161
  have k189 : σ166.2.2.2.2 578 a0 = some q59 := (oG_r g165 h126).trans k162
  have k190 : σ166.2.2.2.2 579 a0 = some q103 := (oG_r g165 h126).trans k163
  have hq := hq_g hq g165
  have h191 : oA L τ q164 24 := oG_q g165
  refine lv_dup hx hb dX10_init_52 rfl ?_
  refine lv_aload_n hx hb dX10_init_53 rfl (lv_at hl 0 rfl) ?_
  refine o_getK cx hw 9 2 rfl fiX10 h167 (by decide) rfl (by decide) rfl rfl k_f_X10_26 (j := 578) rfl k189 dX10_init_54 ?_
  refine lv_aload_n hx hb dX10_init_57 rfl (lv_at hl 0 rfl) ?_
  refine o_getK cx hw 9 3 rfl fiX10 h167 (by decide) rfl (by decide) rfl rfl k_f_X10_33 (j := 579) rfl k190 dX10_init_58 ?_
  refine o_cI hw (oRunI cx hA hw q_X9_init k_m_X10_39 (As := [.ref q59, .ref q103]) (c_X9_init q164 h191 (fun j => oG_zi g165) (fun j => oG_zl g165) hq q59 h170 q103 h171) (by decide) rfl hl.1 rfl (Nat.le_of_ble_eq_true rfl) dX10_init_61 (by decide)) (fun L τ σ192 H locs hp hw => ?_)
  obtain ⟨y193, t194, fy193_514, fy193_515, xy193_0⟩ := hp
  have hq := xy193_0
  have h195 : oA L τ a0 25 := oX_a y193 h167 (rw_ne h167 h191 (by decide))
  have h196 : oA L τ q3 6 := oX_a y193 h168 (rw_ne h168 h191 (by decide))
  have h197 : oA L τ q25 3 := oX_a y193 h169 (rw_ne h169 h191 (by decide))
  have h198 : oA L τ q59 1 := oX_a y193 h170 (rw_ne h170 h191 (by decide))
  have h199 : oA L τ q103 4 := oX_a y193 h171 (rw_ne h171 h191 (by decide))
  have k200 : σ192.1 587 a0 = 0 := (oX_ki y193 h167 (rw_ne h167 h191 (by decide))).trans k172
  have k201 : σ192.1 588 a0 = 0 := (oX_ki y193 h167 (rw_ne h167 h191 (by decide))).trans k173
  have k202 : σ192.1 385 q3 = 0 := (oX_ki y193 h168 (rw_ne h168 h191 (by decide))).trans k174
  have k203 : σ192.1 386 q3 = 0 := (oX_ki y193 h168 (rw_ne h168 h191 (by decide))).trans k175
  have k204 : σ192.1 387 q3 = 80 := (oX_ki y193 h168 (rw_ne h168 h191 (by decide))).trans k176
  have k205 : σ192.1 193 q25 = 0 := (oX_ki y193 h169 (rw_ne h169 h191 (by decide))).trans k177
  have k206 : σ192.1 64 q59 = 0 := (oX_ki y193 h170 (rw_ne h170 h191 (by decide))).trans k178
  have k207 : σ192.1 65 q59 = 0 := (oX_ki y193 h170 (rw_ne h170 h191 (by decide))).trans k179
  have k208 : σ192.1 66 q59 = 0 := (oX_ki y193 h170 (rw_ne h170 h191 (by decide))).trans k180
  have k209 : σ192.1 257 q103 = 0 := (oX_ki y193 h171 (rw_ne h171 h191 (by decide))).trans k181
  have k210 : σ192.1 259 q103 = 0 := (oX_ki y193 h171 (rw_ne h171 h191 (by decide))).trans k182
  have k211 : σ192.1 261 q103 = 0 := (oX_ki y193 h171 (rw_ne h171 h191 (by decide))).trans k183
  have k212 : σ192.1 263 q103 = 0 := (oX_ki y193 h171 (rw_ne h171 h191 (by decide))).trans k184
  have k213 : σ192.1 264 q103 = 0 := (oX_ki y193 h171 (rw_ne h171 h191 (by decide))).trans k185
  have k214 : σ192.1 265 q103 = 0 := (oX_ki y193 h171 (rw_ne h171 h191 (by decide))).trans k186
  have k215 : σ192.2.2.2.2 576 a0 = some q3 := (oX_kr y193 h167 (rw_ne h167 h191 (by decide))).trans k187
  have k216 : σ192.2.2.2.2 577 a0 = some q25 := (oX_kr y193 h167 (rw_ne h167 h191 (by decide))).trans k188
  have k217 : σ192.2.2.2.2 578 a0 = some q59 := (oX_kr y193 h167 (rw_ne h167 h191 (by decide))).trans k189
  have k218 : σ192.2.2.2.2 579 a0 = some q103 := (oX_kr y193 h167 (rw_ne h167 h191 (by decide))).trans k190
  have h219 : oA L τ q164 8 := oX_q y193 h191 t194
  refine o_putrF cx hw 9 4 rfl fiX10 tyX10 tyX10_ok nmX10 h195 (by decide) (by decide) rfl (by decide) rfl rfl rfl rfl hin rfl rfl k_f_X10_42 dX10_init_64 (fun σ221 H locs e220 hw => ?_)
  have k222 : σ221.1 587 a0 = 0 := (kp_r e220).trans k200
  have k223 : σ221.1 588 a0 = 0 := (kp_r e220).trans k201
  have k224 : σ221.1 385 q3 = 0 := (kp_r e220).trans k202
  have k225 : σ221.1 386 q3 = 0 := (kp_r e220).trans k203
  have k226 : σ221.1 387 q3 = 80 := (kp_r e220).trans k204
  have k227 : σ221.1 193 q25 = 0 := (kp_r e220).trans k205
  have k228 : σ221.1 64 q59 = 0 := (kp_r e220).trans k206
  have k229 : σ221.1 65 q59 = 0 := (kp_r e220).trans k207
  have k230 : σ221.1 66 q59 = 0 := (kp_r e220).trans k208
  have k231 : σ221.1 257 q103 = 0 := (kp_r e220).trans k209
  have k232 : σ221.1 259 q103 = 0 := (kp_r e220).trans k210
  have k233 : σ221.1 261 q103 = 0 := (kp_r e220).trans k211
  have k234 : σ221.1 263 q103 = 0 := (kp_r e220).trans k212
  have k235 : σ221.1 264 q103 = 0 := (kp_r e220).trans k213
  have k236 : σ221.1 265 q103 = 0 := (kp_r e220).trans k214
  have k237 : σ221.1 514 q164 = 12 := (kp_r e220).trans fy193_514
  have k238 : σ221.1 515 q164 = 6 := (kp_r e220).trans fy193_515
  have k239 : σ221.2.2.2.2 576 a0 = some q3 := (kr_r e220 (by decide)).trans k215
  have k240 : σ221.2.2.2.2 577 a0 = some q25 := (kr_r e220 (by decide)).trans k216
  have k241 : σ221.2.2.2.2 578 a0 = some q59 := (kr_r e220 (by decide)).trans k217
  have k242 : σ221.2.2.2.2 579 a0 = some q103 := (kr_r e220 (by decide)).trans k218
  have k243 : σ221.2.2.2.2 580 a0 = some q164 := kr_s e220
  have hq := hq_r hq e220
  refine lv_aload_n hx hb dX10_init_67 rfl (lv_at hl 0 rfl) ?_
  refine o_new cx hA hw 5 (by decide) rfl fiX6 tyX6 tyX6_ok dfX6 k_c_X10_46 k_n_X6 k_i_X6 (by decide) (by decide) dX10_init_68 (fun q244 L τ σ246 H g245 hw => ?_)
  have h247 : oA L τ a0 25 := oG_a g245 h195
  have h248 : oA L τ q3 6 := oG_a g245 h196
  have h249 : oA L τ q25 3 := oG_a g245 h197
  have h250 : oA L τ q59 1 := oG_a g245 h198
  have h251 : oA L τ q103 4 := oG_a g245 h199
  have h252 : oA L τ q164 8 := oG_a g245 h219
  have k253 : σ246.1 587 a0 = 0 := (oG_i g245 h195).trans k222
  have k254 : σ246.1 588 a0 = 0 := (oG_i g245 h195).trans k223
  have k255 : σ246.1 385 q3 = 0 := (oG_i g245 h196).trans k224
  have k256 : σ246.1 386 q3 = 0 := (oG_i g245 h196).trans k225
  have k257 : σ246.1 387 q3 = 80 := (oG_i g245 h196).trans k226
  have k258 : σ246.1 193 q25 = 0 := (oG_i g245 h197).trans k227
  have k259 : σ246.1 64 q59 = 0 := (oG_i g245 h198).trans k228
  have k260 : σ246.1 65 q59 = 0 := (oG_i g245 h198).trans k229
  have k261 : σ246.1 66 q59 = 0 := (oG_i g245 h198).trans k230
  have k262 : σ246.1 257 q103 = 0 := (oG_i g245 h199).trans k231
  have k263 : σ246.1 259 q103 = 0 := (oG_i g245 h199).trans k232
  have k264 : σ246.1 261 q103 = 0 := (oG_i g245 h199).trans k233
  have k265 : σ246.1 263 q103 = 0 := (oG_i g245 h199).trans k234
  have k266 : σ246.1 264 q103 = 0 := (oG_i g245 h199).trans k235
  have k267 : σ246.1 265 q103 = 0 := (oG_i g245 h199).trans k236
  have k268 : σ246.1 514 q164 = 12 := (oG_i g245 h219).trans k237
  have k269 : σ246.1 515 q164 = 6 := (oG_i g245 h219).trans k238
  have k270 : σ246.2.2.2.2 576 a0 = some q3 := (oG_r g245 h195).trans k239
  have k271 : σ246.2.2.2.2 577 a0 = some q25 := (oG_r g245 h195).trans k240
  have k272 : σ246.2.2.2.2 578 a0 = some q59 := (oG_r g245 h195).trans k241
  have k273 : σ246.2.2.2.2 579 a0 = some q103 := (oG_r g245 h195).trans k242
  have k274 : σ246.2.2.2.2 580 a0 = some q164 := (oG_r g245 h195).trans k243
  have hq := hq_g hq g245
  have h275 : oA L τ q244 21 := oG_q g245
  refine lv_dup hx hb dX10_init_71 rfl ?_
  refine o_cI hw (oRunI cx hA hw q_X6_init k_m_X10_48 (As := []) (c_X6_init q244 h275 (fun j => oG_zi g245) (fun j => oG_zl g245) hq ) (by decide) rfl hl.1 rfl (Nat.le_of_ble_eq_true rfl) dX10_init_72 (by decide)) (fun L τ σ276 H locs hp hw => ?_)
  obtain ⟨y277, t278, fy277_327, fy277_328, fy277_329, fy277_330, fy277_331, xy277_0⟩ := hp
  have hq := xy277_0
  have h279 : oA L τ a0 25 := oX_a y277 h247 (rw_ne h247 h275 (by decide))
  have h280 : oA L τ q3 6 := oX_a y277 h248 (rw_ne h248 h275 (by decide))
  have h281 : oA L τ q25 3 := oX_a y277 h249 (rw_ne h249 h275 (by decide))
  have h282 : oA L τ q59 1 := oX_a y277 h250 (rw_ne h250 h275 (by decide))
  have h283 : oA L τ q103 4 := oX_a y277 h251 (rw_ne h251 h275 (by decide))
  have h284 : oA L τ q164 8 := oX_a y277 h252 (rw_ne h252 h275 (by decide))
  have k285 : σ276.1 587 a0 = 0 := (oX_ki y277 h247 (rw_ne h247 h275 (by decide))).trans k253
  have k286 : σ276.1 588 a0 = 0 := (oX_ki y277 h247 (rw_ne h247 h275 (by decide))).trans k254
  have k287 : σ276.1 385 q3 = 0 := (oX_ki y277 h248 (rw_ne h248 h275 (by decide))).trans k255
  have k288 : σ276.1 386 q3 = 0 := (oX_ki y277 h248 (rw_ne h248 h275 (by decide))).trans k256
  have k289 : σ276.1 387 q3 = 80 := (oX_ki y277 h248 (rw_ne h248 h275 (by decide))).trans k257
  have k290 : σ276.1 193 q25 = 0 := (oX_ki y277 h249 (rw_ne h249 h275 (by decide))).trans k258
  have k291 : σ276.1 64 q59 = 0 := (oX_ki y277 h250 (rw_ne h250 h275 (by decide))).trans k259
  have k292 : σ276.1 65 q59 = 0 := (oX_ki y277 h250 (rw_ne h250 h275 (by decide))).trans k260
  have k293 : σ276.1 66 q59 = 0 := (oX_ki y277 h250 (rw_ne h250 h275 (by decide))).trans k261
  have k294 : σ276.1 257 q103 = 0 := (oX_ki y277 h251 (rw_ne h251 h275 (by decide))).trans k262
  have k295 : σ276.1 259 q103 = 0 := (oX_ki y277 h251 (rw_ne h251 h275 (by decide))).trans k263
  have k296 : σ276.1 261 q103 = 0 := (oX_ki y277 h251 (rw_ne h251 h275 (by decide))).trans k264
  have k297 : σ276.1 263 q103 = 0 := (oX_ki y277 h251 (rw_ne h251 h275 (by decide))).trans k265
  have k298 : σ276.1 264 q103 = 0 := (oX_ki y277 h251 (rw_ne h251 h275 (by decide))).trans k266
  have k299 : σ276.1 265 q103 = 0 := (oX_ki y277 h251 (rw_ne h251 h275 (by decide))).trans k267
  have k300 : σ276.1 514 q164 = 12 := (oX_ki y277 h252 (rw_ne h252 h275 (by decide))).trans k268
  have k301 : σ276.1 515 q164 = 6 := (oX_ki y277 h252 (rw_ne h252 h275 (by decide))).trans k269
  have k302 : σ276.2.2.2.2 576 a0 = some q3 := (oX_kr y277 h247 (rw_ne h247 h275 (by decide))).trans k270
  have k303 : σ276.2.2.2.2 577 a0 = some q25 := (oX_kr y277 h247 (rw_ne h247 h275 (by decide))).trans k271
  have k304 : σ276.2.2.2.2 578 a0 = some q59 := (oX_kr y277 h247 (rw_ne h247 h275 (by decide))).trans k272
  have k305 : σ276.2.2.2.2 579 a0 = some q103 := (oX_kr y277 h247 (rw_ne h247 h275 (by decide))).trans k273
  have k306 : σ276.2.2.2.2 580 a0 = some q164 := (oX_kr y277 h247 (rw_ne h247 h275 (by decide))).trans k274
  have h307 : oA L τ q244 5 := oX_q y277 h275 t278
  refine o_putrF cx hw 9 5 rfl fiX10 tyX10 tyX10_ok nmX10 h279 (by decide) (by decide) rfl (by decide) rfl rfl rfl rfl hin rfl rfl k_f_X10_49 dX10_init_75 (fun σ309 H locs e308 hw => ?_)
  have k310 : σ309.1 587 a0 = 0 := (kp_r e308).trans k285
  have k311 : σ309.1 588 a0 = 0 := (kp_r e308).trans k286
  have k312 : σ309.1 385 q3 = 0 := (kp_r e308).trans k287
  have k313 : σ309.1 386 q3 = 0 := (kp_r e308).trans k288
  have k314 : σ309.1 387 q3 = 80 := (kp_r e308).trans k289
  have k315 : σ309.1 193 q25 = 0 := (kp_r e308).trans k290
  have k316 : σ309.1 64 q59 = 0 := (kp_r e308).trans k291
  have k317 : σ309.1 65 q59 = 0 := (kp_r e308).trans k292
  have k318 : σ309.1 66 q59 = 0 := (kp_r e308).trans k293
  have k319 : σ309.1 257 q103 = 0 := (kp_r e308).trans k294
  have k320 : σ309.1 259 q103 = 0 := (kp_r e308).trans k295
  have k321 : σ309.1 261 q103 = 0 := (kp_r e308).trans k296
  have k322 : σ309.1 263 q103 = 0 := (kp_r e308).trans k297
  have k323 : σ309.1 264 q103 = 0 := (kp_r e308).trans k298
  have k324 : σ309.1 265 q103 = 0 := (kp_r e308).trans k299
  have k325 : σ309.1 514 q164 = 12 := (kp_r e308).trans k300
  have k326 : σ309.1 515 q164 = 6 := (kp_r e308).trans k301
  have k327 : σ309.1 327 q244 = 0 := (kp_r e308).trans fy277_327
  have k328 : σ309.1 328 q244 = 0 := (kp_r e308).trans fy277_328
  have k329 : σ309.1 329 q244 = 0 := (kp_r e308).trans fy277_329
  have k330 : σ309.1 330 q244 = 0 := (kp_r e308).trans fy277_330
  have k331 : σ309.1 331 q244 = 0 := (kp_r e308).trans fy277_331
  have k332 : σ309.2.2.2.2 576 a0 = some q3 := (kr_r e308 (by decide)).trans k302
  have k333 : σ309.2.2.2.2 577 a0 = some q25 := (kr_r e308 (by decide)).trans k303
  have k334 : σ309.2.2.2.2 578 a0 = some q59 := (kr_r e308 (by decide)).trans k304
  have k335 : σ309.2.2.2.2 579 a0 = some q103 := (kr_r e308 (by decide)).trans k305
  have k336 : σ309.2.2.2.2 580 a0 = some q164 := (kr_r e308 (by decide)).trans k306
  have k337 : σ309.2.2.2.2 581 a0 = some q244 := kr_s e308
  have hq := hq_r hq e308
  refine lv_aload_n hx hb dX10_init_78 rfl (lv_at hl 0 rfl) ?_
  refine o_new cx hA hw 5 (by decide) rfl fiX6 tyX6 tyX6_ok dfX6 k_c_X10_46 k_n_X6 k_i_X6 (by decide) (by decide) dX10_init_79 (fun q338 L τ σ340 H g339 hw => ?_)
  have h341 : oA L τ a0 25 := oG_a g339 h279
  have h342 : oA L τ q3 6 := oG_a g339 h280
  have h343 : oA L τ q25 3 := oG_a g339 h281
  have h344 : oA L τ q59 1 := oG_a g339 h282
  have h345 : oA L τ q103 4 := oG_a g339 h283
  have h346 : oA L τ q164 8 := oG_a g339 h284
  have h347 : oA L τ q244 5 := oG_a g339 h307
  have k348 : σ340.1 587 a0 = 0 := (oG_i g339 h279).trans k310
  have k349 : σ340.1 588 a0 = 0 := (oG_i g339 h279).trans k311
  have k350 : σ340.1 385 q3 = 0 := (oG_i g339 h280).trans k312
  have k351 : σ340.1 386 q3 = 0 := (oG_i g339 h280).trans k313
  have k352 : σ340.1 387 q3 = 80 := (oG_i g339 h280).trans k314
  have k353 : σ340.1 193 q25 = 0 := (oG_i g339 h281).trans k315
  have k354 : σ340.1 64 q59 = 0 := (oG_i g339 h282).trans k316
  have k355 : σ340.1 65 q59 = 0 := (oG_i g339 h282).trans k317
  have k356 : σ340.1 66 q59 = 0 := (oG_i g339 h282).trans k318
  have k357 : σ340.1 257 q103 = 0 := (oG_i g339 h283).trans k319
  have k358 : σ340.1 259 q103 = 0 := (oG_i g339 h283).trans k320
  have k359 : σ340.1 261 q103 = 0 := (oG_i g339 h283).trans k321
  have k360 : σ340.1 263 q103 = 0 := (oG_i g339 h283).trans k322
  have k361 : σ340.1 264 q103 = 0 := (oG_i g339 h283).trans k323
  have k362 : σ340.1 265 q103 = 0 := (oG_i g339 h283).trans k324
  have k363 : σ340.1 514 q164 = 12 := (oG_i g339 h284).trans k325
  have k364 : σ340.1 515 q164 = 6 := (oG_i g339 h284).trans k326
  have k365 : σ340.1 327 q244 = 0 := (oG_i g339 h307).trans k327
  have k366 : σ340.1 328 q244 = 0 := (oG_i g339 h307).trans k328
  have k367 : σ340.1 329 q244 = 0 := (oG_i g339 h307).trans k329
  have k368 : σ340.1 330 q244 = 0 := (oG_i g339 h307).trans k330
  have k369 : σ340.1 331 q244 = 0 := (oG_i g339 h307).trans k331
  have k370 : σ340.2.2.2.2 576 a0 = some q3 := (oG_r g339 h279).trans k332
  have k371 : σ340.2.2.2.2 577 a0 = some q25 := (oG_r g339 h279).trans k333
  have k372 : σ340.2.2.2.2 578 a0 = some q59 := (oG_r g339 h279).trans k334
  have k373 : σ340.2.2.2.2 579 a0 = some q103 := (oG_r g339 h279).trans k335
  have k374 : σ340.2.2.2.2 580 a0 = some q164 := (oG_r g339 h279).trans k336
  have k375 : σ340.2.2.2.2 581 a0 = some q244 := (oG_r g339 h279).trans k337
  have hq := hq_g hq g339
  have h376 : oA L τ q338 21 := oG_q g339
  refine lv_dup hx hb dX10_init_82 rfl ?_
  refine o_cI hw (oRunI cx hA hw q_X6_init k_m_X10_48 (As := []) (c_X6_init q338 h376 (fun j => oG_zi g339) (fun j => oG_zl g339) hq ) (by decide) rfl hl.1 rfl (Nat.le_of_ble_eq_true rfl) dX10_init_83 (by decide)) (fun L τ σ377 H locs hp hw => ?_)
  obtain ⟨y378, t379, fy378_327, fy378_328, fy378_329, fy378_330, fy378_331, xy378_0⟩ := hp
  have hq := xy378_0
  have h380 : oA L τ a0 25 := oX_a y378 h341 (rw_ne h341 h376 (by decide))
  have h381 : oA L τ q3 6 := oX_a y378 h342 (rw_ne h342 h376 (by decide))
  have h382 : oA L τ q25 3 := oX_a y378 h343 (rw_ne h343 h376 (by decide))
  have h383 : oA L τ q59 1 := oX_a y378 h344 (rw_ne h344 h376 (by decide))
  have h384 : oA L τ q103 4 := oX_a y378 h345 (rw_ne h345 h376 (by decide))
  have h385 : oA L τ q164 8 := oX_a y378 h346 (rw_ne h346 h376 (by decide))
  have h386 : oA L τ q244 5 := oX_a y378 h347 (rw_ne h347 h376 (by decide))
  have k387 : σ377.1 587 a0 = 0 := (oX_ki y378 h341 (rw_ne h341 h376 (by decide))).trans k348
  have k388 : σ377.1 588 a0 = 0 := (oX_ki y378 h341 (rw_ne h341 h376 (by decide))).trans k349
  have k389 : σ377.1 385 q3 = 0 := (oX_ki y378 h342 (rw_ne h342 h376 (by decide))).trans k350
  have k390 : σ377.1 386 q3 = 0 := (oX_ki y378 h342 (rw_ne h342 h376 (by decide))).trans k351
  have k391 : σ377.1 387 q3 = 80 := (oX_ki y378 h342 (rw_ne h342 h376 (by decide))).trans k352
  have k392 : σ377.1 193 q25 = 0 := (oX_ki y378 h343 (rw_ne h343 h376 (by decide))).trans k353
  have k393 : σ377.1 64 q59 = 0 := (oX_ki y378 h344 (rw_ne h344 h376 (by decide))).trans k354
  have k394 : σ377.1 65 q59 = 0 := (oX_ki y378 h344 (rw_ne h344 h376 (by decide))).trans k355
  have k395 : σ377.1 66 q59 = 0 := (oX_ki y378 h344 (rw_ne h344 h376 (by decide))).trans k356
  have k396 : σ377.1 257 q103 = 0 := (oX_ki y378 h345 (rw_ne h345 h376 (by decide))).trans k357
  have k397 : σ377.1 259 q103 = 0 := (oX_ki y378 h345 (rw_ne h345 h376 (by decide))).trans k358
  have k398 : σ377.1 261 q103 = 0 := (oX_ki y378 h345 (rw_ne h345 h376 (by decide))).trans k359
  have k399 : σ377.1 263 q103 = 0 := (oX_ki y378 h345 (rw_ne h345 h376 (by decide))).trans k360
  have k400 : σ377.1 264 q103 = 0 := (oX_ki y378 h345 (rw_ne h345 h376 (by decide))).trans k361
  have k401 : σ377.1 265 q103 = 0 := (oX_ki y378 h345 (rw_ne h345 h376 (by decide))).trans k362
  have k402 : σ377.1 514 q164 = 12 := (oX_ki y378 h346 (rw_ne h346 h376 (by decide))).trans k363
  have k403 : σ377.1 515 q164 = 6 := (oX_ki y378 h346 (rw_ne h346 h376 (by decide))).trans k364
  have k404 : σ377.1 327 q244 = 0 := (oX_ki y378 h347 (rw_ne h347 h376 (by decide))).trans k365
  have k405 : σ377.1 328 q244 = 0 := (oX_ki y378 h347 (rw_ne h347 h376 (by decide))).trans k366
  have k406 : σ377.1 329 q244 = 0 := (oX_ki y378 h347 (rw_ne h347 h376 (by decide))).trans k367
  have k407 : σ377.1 330 q244 = 0 := (oX_ki y378 h347 (rw_ne h347 h376 (by decide))).trans k368
  have k408 : σ377.1 331 q244 = 0 := (oX_ki y378 h347 (rw_ne h347 h376 (by decide))).trans k369
  have k409 : σ377.2.2.2.2 576 a0 = some q3 := (oX_kr y378 h341 (rw_ne h341 h376 (by decide))).trans k370
  have k410 : σ377.2.2.2.2 577 a0 = some q25 := (oX_kr y378 h341 (rw_ne h341 h376 (by decide))).trans k371
  have k411 : σ377.2.2.2.2 578 a0 = some q59 := (oX_kr y378 h341 (rw_ne h341 h376 (by decide))).trans k372
  have k412 : σ377.2.2.2.2 579 a0 = some q103 := (oX_kr y378 h341 (rw_ne h341 h376 (by decide))).trans k373
  have k413 : σ377.2.2.2.2 580 a0 = some q164 := (oX_kr y378 h341 (rw_ne h341 h376 (by decide))).trans k374
  have k414 : σ377.2.2.2.2 581 a0 = some q244 := (oX_kr y378 h341 (rw_ne h341 h376 (by decide))).trans k375
  have h415 : oA L τ q338 5 := oX_q y378 h376 t379
  refine o_putrF cx hw 9 6 rfl fiX10 tyX10 tyX10_ok nmX10 h380 (by decide) (by decide) rfl (by decide) rfl rfl rfl rfl hin rfl rfl k_f_X10_53 dX10_init_86 (fun σ417 H locs e416 hw => ?_)
  have k418 : σ417.1 587 a0 = 0 := (kp_r e416).trans k387
  have k419 : σ417.1 588 a0 = 0 := (kp_r e416).trans k388
  have k420 : σ417.1 385 q3 = 0 := (kp_r e416).trans k389
  have k421 : σ417.1 386 q3 = 0 := (kp_r e416).trans k390
  have k422 : σ417.1 387 q3 = 80 := (kp_r e416).trans k391
  have k423 : σ417.1 193 q25 = 0 := (kp_r e416).trans k392
  have k424 : σ417.1 64 q59 = 0 := (kp_r e416).trans k393
  have k425 : σ417.1 65 q59 = 0 := (kp_r e416).trans k394
  have k426 : σ417.1 66 q59 = 0 := (kp_r e416).trans k395
  have k427 : σ417.1 257 q103 = 0 := (kp_r e416).trans k396
  have k428 : σ417.1 259 q103 = 0 := (kp_r e416).trans k397
  have k429 : σ417.1 261 q103 = 0 := (kp_r e416).trans k398
  have k430 : σ417.1 263 q103 = 0 := (kp_r e416).trans k399
  have k431 : σ417.1 264 q103 = 0 := (kp_r e416).trans k400
  have k432 : σ417.1 265 q103 = 0 := (kp_r e416).trans k401
  have k433 : σ417.1 514 q164 = 12 := (kp_r e416).trans k402
  have k434 : σ417.1 515 q164 = 6 := (kp_r e416).trans k403
  have k435 : σ417.1 327 q244 = 0 := (kp_r e416).trans k404
  have k436 : σ417.1 328 q244 = 0 := (kp_r e416).trans k405
  have k437 : σ417.1 329 q244 = 0 := (kp_r e416).trans k406
  have k438 : σ417.1 330 q244 = 0 := (kp_r e416).trans k407
  have k439 : σ417.1 331 q244 = 0 := (kp_r e416).trans k408
  have k440 : σ417.1 327 q338 = 0 := (kp_r e416).trans fy378_327
  have k441 : σ417.1 328 q338 = 0 := (kp_r e416).trans fy378_328
  have k442 : σ417.1 329 q338 = 0 := (kp_r e416).trans fy378_329
  have k443 : σ417.1 330 q338 = 0 := (kp_r e416).trans fy378_330
  have k444 : σ417.1 331 q338 = 0 := (kp_r e416).trans fy378_331
  have k445 : σ417.2.2.2.2 576 a0 = some q3 := (kr_r e416 (by decide)).trans k409
  have k446 : σ417.2.2.2.2 577 a0 = some q25 := (kr_r e416 (by decide)).trans k410
  have k447 : σ417.2.2.2.2 578 a0 = some q59 := (kr_r e416 (by decide)).trans k411
  have k448 : σ417.2.2.2.2 579 a0 = some q103 := (kr_r e416 (by decide)).trans k412
  have k449 : σ417.2.2.2.2 580 a0 = some q164 := (kr_r e416 (by decide)).trans k413
  have k450 : σ417.2.2.2.2 581 a0 = some q244 := (kr_r e416 (by decide)).trans k414
  have k451 : σ417.2.2.2.2 582 a0 = some q338 := kr_s e416
  have hq := hq_r hq e416
  refine lv_aload_n hx hb dX10_init_89 rfl (lv_at hl 0 rfl) ?_
  refine o_new cx hA hw 0 (by decide) rfl fiX1 tyX1 tyX1_ok dfX1 k_c_X10_56 k_n_X1 k_i_X1 (by decide) (by decide) dX10_init_90 (fun q452 L τ σ454 H g453 hw => ?_)
  have h455 : oA L τ a0 25 := oG_a g453 h380
  have h456 : oA L τ q3 6 := oG_a g453 h381
  have h457 : oA L τ q25 3 := oG_a g453 h382
  have h458 : oA L τ q59 1 := oG_a g453 h383
  have h459 : oA L τ q103 4 := oG_a g453 h384
  have h460 : oA L τ q164 8 := oG_a g453 h385
  have h461 : oA L τ q244 5 := oG_a g453 h386
  have h462 : oA L τ q338 5 := oG_a g453 h415
  have k463 : σ454.1 587 a0 = 0 := (oG_i g453 h380).trans k418
  have k464 : σ454.1 588 a0 = 0 := (oG_i g453 h380).trans k419
  have k465 : σ454.1 385 q3 = 0 := (oG_i g453 h381).trans k420
  have k466 : σ454.1 386 q3 = 0 := (oG_i g453 h381).trans k421
  have k467 : σ454.1 387 q3 = 80 := (oG_i g453 h381).trans k422
  have k468 : σ454.1 193 q25 = 0 := (oG_i g453 h382).trans k423
  have k469 : σ454.1 64 q59 = 0 := (oG_i g453 h383).trans k424
  have k470 : σ454.1 65 q59 = 0 := (oG_i g453 h383).trans k425
  have k471 : σ454.1 66 q59 = 0 := (oG_i g453 h383).trans k426
  have k472 : σ454.1 257 q103 = 0 := (oG_i g453 h384).trans k427
  have k473 : σ454.1 259 q103 = 0 := (oG_i g453 h384).trans k428
  have k474 : σ454.1 261 q103 = 0 := (oG_i g453 h384).trans k429
  have k475 : σ454.1 263 q103 = 0 := (oG_i g453 h384).trans k430
  have k476 : σ454.1 264 q103 = 0 := (oG_i g453 h384).trans k431
  have k477 : σ454.1 265 q103 = 0 := (oG_i g453 h384).trans k432
  have k478 : σ454.1 514 q164 = 12 := (oG_i g453 h385).trans k433
  have k479 : σ454.1 515 q164 = 6 := (oG_i g453 h385).trans k434
  have k480 : σ454.1 327 q244 = 0 := (oG_i g453 h386).trans k435
  have k481 : σ454.1 328 q244 = 0 := (oG_i g453 h386).trans k436
  have k482 : σ454.1 329 q244 = 0 := (oG_i g453 h386).trans k437
  have k483 : σ454.1 330 q244 = 0 := (oG_i g453 h386).trans k438
  have k484 : σ454.1 331 q244 = 0 := (oG_i g453 h386).trans k439
  have k485 : σ454.1 327 q338 = 0 := (oG_i g453 h415).trans k440
  have k486 : σ454.1 328 q338 = 0 := (oG_i g453 h415).trans k441
  have k487 : σ454.1 329 q338 = 0 := (oG_i g453 h415).trans k442
  have k488 : σ454.1 330 q338 = 0 := (oG_i g453 h415).trans k443
  have k489 : σ454.1 331 q338 = 0 := (oG_i g453 h415).trans k444
  have k490 : σ454.2.2.2.2 576 a0 = some q3 := (oG_r g453 h380).trans k445
  have k491 : σ454.2.2.2.2 577 a0 = some q25 := (oG_r g453 h380).trans k446
  have k492 : σ454.2.2.2.2 578 a0 = some q59 := (oG_r g453 h380).trans k447
  have k493 : σ454.2.2.2.2 579 a0 = some q103 := (oG_r g453 h380).trans k448
  have k494 : σ454.2.2.2.2 580 a0 = some q164 := (oG_r g453 h380).trans k449
  have k495 : σ454.2.2.2.2 581 a0 = some q244 := (oG_r g453 h380).trans k450
  have k496 : σ454.2.2.2.2 582 a0 = some q338 := (oG_r g453 h380).trans k451
  have hq := hq_g hq g453
  have h497 : oA L τ q452 16 := oG_q g453
  refine lv_dup hx hb dX10_init_93 rfl ?_
  refine lv_aload_n hx hb dX10_init_94 rfl (lv_at hl 0 rfl) ?_
  refine o_getK cx hw 9 5 rfl fiX10 h455 (by decide) rfl (by decide) rfl rfl k_f_X10_49 (j := 581) rfl k495 dX10_init_95 ?_
  refine lv_aload_n hx hb dX10_init_98 rfl (lv_at hl 0 rfl) ?_
  refine o_getK cx hw 9 2 rfl fiX10 h455 (by decide) rfl (by decide) rfl rfl k_f_X10_26 (j := 578) rfl k492 dX10_init_99 ?_
  refine lv_aload_n hx hb dX10_init_102 rfl (lv_at hl 0 rfl) ?_
  refine o_getK cx hw 9 4 rfl fiX10 h455 (by decide) rfl (by decide) rfl rfl k_f_X10_42 (j := 580) rfl k494 dX10_init_103 ?_
  refine o_cI hw (oRunI cx hA hw q_X1_init k_m_X10_58 (As := [.ref q244, .ref q59, .ref q164]) (c_X1_init q452 h497 (fun j => oG_zi g453) (fun j => oG_zl g453) hq q244 h461 q59 h458 q164 h460) (by decide) rfl hl.1 rfl (Nat.le_of_ble_eq_true rfl) dX10_init_106 (by decide)) (fun L τ σ498 H locs hp hw => ?_)
  obtain ⟨y499, t500, fy499_6, fy499_7, xy499_0⟩ := hp
  have hq := xy499_0
  have h501 : oA L τ a0 25 := oX_a y499 h455 (rw_ne h455 h497 (by decide))
  have h502 : oA L τ q3 6 := oX_a y499 h456 (rw_ne h456 h497 (by decide))
  have h503 : oA L τ q25 3 := oX_a y499 h457 (rw_ne h457 h497 (by decide))
  have h504 : oA L τ q59 1 := oX_a y499 h458 (rw_ne h458 h497 (by decide))
  have h505 : oA L τ q103 4 := oX_a y499 h459 (rw_ne h459 h497 (by decide))
  have h506 : oA L τ q164 8 := oX_a y499 h460 (rw_ne h460 h497 (by decide))
  have h507 : oA L τ q244 5 := oX_a y499 h461 (rw_ne h461 h497 (by decide))
  have h508 : oA L τ q338 5 := oX_a y499 h462 (rw_ne h462 h497 (by decide))
  have k509 : σ498.1 587 a0 = 0 := (oX_ki y499 h455 (rw_ne h455 h497 (by decide))).trans k463
  have k510 : σ498.1 588 a0 = 0 := (oX_ki y499 h455 (rw_ne h455 h497 (by decide))).trans k464
  have k511 : σ498.1 385 q3 = 0 := (oX_ki y499 h456 (rw_ne h456 h497 (by decide))).trans k465
  have k512 : σ498.1 386 q3 = 0 := (oX_ki y499 h456 (rw_ne h456 h497 (by decide))).trans k466
  have k513 : σ498.1 387 q3 = 80 := (oX_ki y499 h456 (rw_ne h456 h497 (by decide))).trans k467
  have k514 : σ498.1 193 q25 = 0 := (oX_ki y499 h457 (rw_ne h457 h497 (by decide))).trans k468
  have k515 : σ498.1 64 q59 = 0 := (oX_ki y499 h458 (rw_ne h458 h497 (by decide))).trans k469
  have k516 : σ498.1 65 q59 = 0 := (oX_ki y499 h458 (rw_ne h458 h497 (by decide))).trans k470
  have k517 : σ498.1 66 q59 = 0 := (oX_ki y499 h458 (rw_ne h458 h497 (by decide))).trans k471
  have k518 : σ498.1 257 q103 = 0 := (oX_ki y499 h459 (rw_ne h459 h497 (by decide))).trans k472
  have k519 : σ498.1 259 q103 = 0 := (oX_ki y499 h459 (rw_ne h459 h497 (by decide))).trans k473
  have k520 : σ498.1 261 q103 = 0 := (oX_ki y499 h459 (rw_ne h459 h497 (by decide))).trans k474
  have k521 : σ498.1 263 q103 = 0 := (oX_ki y499 h459 (rw_ne h459 h497 (by decide))).trans k475
  have k522 : σ498.1 264 q103 = 0 := (oX_ki y499 h459 (rw_ne h459 h497 (by decide))).trans k476
  have k523 : σ498.1 265 q103 = 0 := (oX_ki y499 h459 (rw_ne h459 h497 (by decide))).trans k477
  have k524 : σ498.1 514 q164 = 12 := (oX_ki y499 h460 (rw_ne h460 h497 (by decide))).trans k478
  have k525 : σ498.1 515 q164 = 6 := (oX_ki y499 h460 (rw_ne h460 h497 (by decide))).trans k479
  have k526 : σ498.1 327 q244 = 0 := (oX_ki y499 h461 (rw_ne h461 h497 (by decide))).trans k480
  have k527 : σ498.1 328 q244 = 0 := (oX_ki y499 h461 (rw_ne h461 h497 (by decide))).trans k481
  have k528 : σ498.1 329 q244 = 0 := (oX_ki y499 h461 (rw_ne h461 h497 (by decide))).trans k482
  have k529 : σ498.1 330 q244 = 0 := (oX_ki y499 h461 (rw_ne h461 h497 (by decide))).trans k483
  have k530 : σ498.1 331 q244 = 0 := (oX_ki y499 h461 (rw_ne h461 h497 (by decide))).trans k484
  have k531 : σ498.1 327 q338 = 0 := (oX_ki y499 h462 (rw_ne h462 h497 (by decide))).trans k485
  have k532 : σ498.1 328 q338 = 0 := (oX_ki y499 h462 (rw_ne h462 h497 (by decide))).trans k486
  have k533 : σ498.1 329 q338 = 0 := (oX_ki y499 h462 (rw_ne h462 h497 (by decide))).trans k487
  have k534 : σ498.1 330 q338 = 0 := (oX_ki y499 h462 (rw_ne h462 h497 (by decide))).trans k488
  have k535 : σ498.1 331 q338 = 0 := (oX_ki y499 h462 (rw_ne h462 h497 (by decide))).trans k489
  have k536 : σ498.2.2.2.2 576 a0 = some q3 := (oX_kr y499 h455 (rw_ne h455 h497 (by decide))).trans k490
  have k537 : σ498.2.2.2.2 577 a0 = some q25 := (oX_kr y499 h455 (rw_ne h455 h497 (by decide))).trans k491
  have k538 : σ498.2.2.2.2 578 a0 = some q59 := (oX_kr y499 h455 (rw_ne h455 h497 (by decide))).trans k492
  have k539 : σ498.2.2.2.2 579 a0 = some q103 := (oX_kr y499 h455 (rw_ne h455 h497 (by decide))).trans k493
  have k540 : σ498.2.2.2.2 580 a0 = some q164 := (oX_kr y499 h455 (rw_ne h455 h497 (by decide))).trans k494
  have k541 : σ498.2.2.2.2 581 a0 = some q244 := (oX_kr y499 h455 (rw_ne h455 h497 (by decide))).trans k495
  have k542 : σ498.2.2.2.2 582 a0 = some q338 := (oX_kr y499 h455 (rw_ne h455 h497 (by decide))).trans k496
  have h543 : oA L τ q452 0 := oX_q y499 h497 t500
  refine o_putrF cx hw 9 7 rfl fiX10 tyX10 tyX10_ok nmX10 h501 (by decide) (by decide) rfl (by decide) rfl rfl rfl rfl hin rfl rfl k_f_X10_61 dX10_init_109 (fun σ545 H locs e544 hw => ?_)
  have k546 : σ545.1 587 a0 = 0 := (kp_r e544).trans k509
  have k547 : σ545.1 588 a0 = 0 := (kp_r e544).trans k510
  have k548 : σ545.1 385 q3 = 0 := (kp_r e544).trans k511
  have k549 : σ545.1 386 q3 = 0 := (kp_r e544).trans k512
  have k550 : σ545.1 387 q3 = 80 := (kp_r e544).trans k513
  have k551 : σ545.1 193 q25 = 0 := (kp_r e544).trans k514
  have k552 : σ545.1 64 q59 = 0 := (kp_r e544).trans k515
  have k553 : σ545.1 65 q59 = 0 := (kp_r e544).trans k516
  have k554 : σ545.1 66 q59 = 0 := (kp_r e544).trans k517
  have k555 : σ545.1 257 q103 = 0 := (kp_r e544).trans k518
  have k556 : σ545.1 259 q103 = 0 := (kp_r e544).trans k519
  have k557 : σ545.1 261 q103 = 0 := (kp_r e544).trans k520
  have k558 : σ545.1 263 q103 = 0 := (kp_r e544).trans k521
  have k559 : σ545.1 264 q103 = 0 := (kp_r e544).trans k522
  have k560 : σ545.1 265 q103 = 0 := (kp_r e544).trans k523
  have k561 : σ545.1 514 q164 = 12 := (kp_r e544).trans k524
  have k562 : σ545.1 515 q164 = 6 := (kp_r e544).trans k525
  have k563 : σ545.1 327 q244 = 0 := (kp_r e544).trans k526
  have k564 : σ545.1 328 q244 = 0 := (kp_r e544).trans k527
  have k565 : σ545.1 329 q244 = 0 := (kp_r e544).trans k528
  have k566 : σ545.1 330 q244 = 0 := (kp_r e544).trans k529
  have k567 : σ545.1 331 q244 = 0 := (kp_r e544).trans k530
  have k568 : σ545.1 327 q338 = 0 := (kp_r e544).trans k531
  have k569 : σ545.1 328 q338 = 0 := (kp_r e544).trans k532
  have k570 : σ545.1 329 q338 = 0 := (kp_r e544).trans k533
  have k571 : σ545.1 330 q338 = 0 := (kp_r e544).trans k534
  have k572 : σ545.1 331 q338 = 0 := (kp_r e544).trans k535
  have k573 : σ545.1 6 q452 = 0 := (kp_r e544).trans fy499_6
  have k574 : σ545.1 7 q452 = 0 := (kp_r e544).trans fy499_7
  have k575 : σ545.2.2.2.2 576 a0 = some q3 := (kr_r e544 (by decide)).trans k536
  have k576 : σ545.2.2.2.2 577 a0 = some q25 := (kr_r e544 (by decide)).trans k537
  have k577 : σ545.2.2.2.2 578 a0 = some q59 := (kr_r e544 (by decide)).trans k538
  have k578 : σ545.2.2.2.2 579 a0 = some q103 := (kr_r e544 (by decide)).trans k539
  have k579 : σ545.2.2.2.2 580 a0 = some q164 := (kr_r e544 (by decide)).trans k540
  have k580 : σ545.2.2.2.2 581 a0 = some q244 := (kr_r e544 (by decide)).trans k541
  have k581 : σ545.2.2.2.2 582 a0 = some q338 := (kr_r e544 (by decide)).trans k542
  have k582 : σ545.2.2.2.2 583 a0 = some q452 := kr_s e544
  have hq := hq_r hq e544
  refine lv_aload_n hx hb dX10_init_112 rfl (lv_at hl 0 rfl) ?_
  refine o_new cx hA hw 7 (by decide) rfl fiX8 tyX8 tyX8_ok dfX8 k_c_X10_65 k_n_X8 k_i_X8 (by decide) (by decide) dX10_init_113 (fun q583 L τ σ585 H g584 hw => ?_)
  have h586 : oA L τ a0 25 := oG_a g584 h501
  have h587 : oA L τ q3 6 := oG_a g584 h502
  have h588 : oA L τ q25 3 := oG_a g584 h503
  have h589 : oA L τ q59 1 := oG_a g584 h504
  have h590 : oA L τ q103 4 := oG_a g584 h505
  have h591 : oA L τ q164 8 := oG_a g584 h506
  have h592 : oA L τ q244 5 := oG_a g584 h507
  have h593 : oA L τ q338 5 := oG_a g584 h508
  have h594 : oA L τ q452 0 := oG_a g584 h543
  have k595 : σ585.1 587 a0 = 0 := (oG_i g584 h501).trans k546
  have k596 : σ585.1 588 a0 = 0 := (oG_i g584 h501).trans k547
  have k597 : σ585.1 385 q3 = 0 := (oG_i g584 h502).trans k548
  have k598 : σ585.1 386 q3 = 0 := (oG_i g584 h502).trans k549
  have k599 : σ585.1 387 q3 = 80 := (oG_i g584 h502).trans k550
  have k600 : σ585.1 193 q25 = 0 := (oG_i g584 h503).trans k551
  have k601 : σ585.1 64 q59 = 0 := (oG_i g584 h504).trans k552
  have k602 : σ585.1 65 q59 = 0 := (oG_i g584 h504).trans k553
  have k603 : σ585.1 66 q59 = 0 := (oG_i g584 h504).trans k554
  have k604 : σ585.1 257 q103 = 0 := (oG_i g584 h505).trans k555
  have k605 : σ585.1 259 q103 = 0 := (oG_i g584 h505).trans k556
  have k606 : σ585.1 261 q103 = 0 := (oG_i g584 h505).trans k557
  have k607 : σ585.1 263 q103 = 0 := (oG_i g584 h505).trans k558
  have k608 : σ585.1 264 q103 = 0 := (oG_i g584 h505).trans k559
  have k609 : σ585.1 265 q103 = 0 := (oG_i g584 h505).trans k560
  have k610 : σ585.1 514 q164 = 12 := (oG_i g584 h506).trans k561
  have k611 : σ585.1 515 q164 = 6 := (oG_i g584 h506).trans k562
  have k612 : σ585.1 327 q244 = 0 := (oG_i g584 h507).trans k563
  have k613 : σ585.1 328 q244 = 0 := (oG_i g584 h507).trans k564
  have k614 : σ585.1 329 q244 = 0 := (oG_i g584 h507).trans k565
  have k615 : σ585.1 330 q244 = 0 := (oG_i g584 h507).trans k566
  have k616 : σ585.1 331 q244 = 0 := (oG_i g584 h507).trans k567
  have k617 : σ585.1 327 q338 = 0 := (oG_i g584 h508).trans k568
  have k618 : σ585.1 328 q338 = 0 := (oG_i g584 h508).trans k569
  have k619 : σ585.1 329 q338 = 0 := (oG_i g584 h508).trans k570
  have k620 : σ585.1 330 q338 = 0 := (oG_i g584 h508).trans k571
  have k621 : σ585.1 331 q338 = 0 := (oG_i g584 h508).trans k572
  have k622 : σ585.1 6 q452 = 0 := (oG_i g584 h543).trans k573
  have k623 : σ585.1 7 q452 = 0 := (oG_i g584 h543).trans k574
  have k624 : σ585.2.2.2.2 576 a0 = some q3 := (oG_r g584 h501).trans k575
  have k625 : σ585.2.2.2.2 577 a0 = some q25 := (oG_r g584 h501).trans k576
  have k626 : σ585.2.2.2.2 578 a0 = some q59 := (oG_r g584 h501).trans k577
  have k627 : σ585.2.2.2.2 579 a0 = some q103 := (oG_r g584 h501).trans k578
  have k628 : σ585.2.2.2.2 580 a0 = some q164 := (oG_r g584 h501).trans k579
  have k629 : σ585.2.2.2.2 581 a0 = some q244 := (oG_r g584 h501).trans k580
  have k630 : σ585.2.2.2.2 582 a0 = some q338 := (oG_r g584 h501).trans k581
  have k631 : σ585.2.2.2.2 583 a0 = some q452 := (oG_r g584 h501).trans k582
  have hq := hq_g hq g584
  have h632 : oA L τ q583 23 := oG_q g584
  refine lv_dup hx hb dX10_init_116 rfl ?_
  refine o_cI hw (oRunIN cx hA hw q_X8_init cx.2.2.2.2.2.2.2.2.2.2.2.2.2.1 (As := []) (c_X8_init q583 h632 (fun j => oG_zi g584) (fun j => oG_zl g584) hq ) (by decide) rfl hl.1 rfl (Nat.le_of_ble_eq_true rfl) dX10_init_117 (by decide)) (fun L τ σ633 H locs hp hw => ?_)
  obtain ⟨y634, t635, xy634_0⟩ := hp
  have hq := xy634_0
  have h636 : oA L τ a0 25 := oX_a y634 h586 (rw_ne h586 h632 (by decide))
  have h637 : oA L τ q3 6 := oX_a y634 h587 (rw_ne h587 h632 (by decide))
  have h638 : oA L τ q25 3 := oX_a y634 h588 (rw_ne h588 h632 (by decide))
  have h639 : oA L τ q59 1 := oX_a y634 h589 (rw_ne h589 h632 (by decide))
  have h640 : oA L τ q103 4 := oX_a y634 h590 (rw_ne h590 h632 (by decide))
  have h641 : oA L τ q164 8 := oX_a y634 h591 (rw_ne h591 h632 (by decide))
  have h642 : oA L τ q244 5 := oX_a y634 h592 (rw_ne h592 h632 (by decide))
  have h643 : oA L τ q338 5 := oX_a y634 h593 (rw_ne h593 h632 (by decide))
  have h644 : oA L τ q452 0 := oX_a y634 h594 (rw_ne h594 h632 (by decide))
  have k645 : σ633.1 587 a0 = 0 := (oX_ki y634 h586 (rw_ne h586 h632 (by decide))).trans k595
  have k646 : σ633.1 588 a0 = 0 := (oX_ki y634 h586 (rw_ne h586 h632 (by decide))).trans k596
  have k647 : σ633.1 385 q3 = 0 := (oX_ki y634 h587 (rw_ne h587 h632 (by decide))).trans k597
  have k648 : σ633.1 386 q3 = 0 := (oX_ki y634 h587 (rw_ne h587 h632 (by decide))).trans k598
  have k649 : σ633.1 387 q3 = 80 := (oX_ki y634 h587 (rw_ne h587 h632 (by decide))).trans k599
  have k650 : σ633.1 193 q25 = 0 := (oX_ki y634 h588 (rw_ne h588 h632 (by decide))).trans k600
  have k651 : σ633.1 64 q59 = 0 := (oX_ki y634 h589 (rw_ne h589 h632 (by decide))).trans k601
  have k652 : σ633.1 65 q59 = 0 := (oX_ki y634 h589 (rw_ne h589 h632 (by decide))).trans k602
  have k653 : σ633.1 66 q59 = 0 := (oX_ki y634 h589 (rw_ne h589 h632 (by decide))).trans k603
  have k654 : σ633.1 257 q103 = 0 := (oX_ki y634 h590 (rw_ne h590 h632 (by decide))).trans k604
  have k655 : σ633.1 259 q103 = 0 := (oX_ki y634 h590 (rw_ne h590 h632 (by decide))).trans k605
  have k656 : σ633.1 261 q103 = 0 := (oX_ki y634 h590 (rw_ne h590 h632 (by decide))).trans k606
  have k657 : σ633.1 263 q103 = 0 := (oX_ki y634 h590 (rw_ne h590 h632 (by decide))).trans k607
  have k658 : σ633.1 264 q103 = 0 := (oX_ki y634 h590 (rw_ne h590 h632 (by decide))).trans k608
  have k659 : σ633.1 265 q103 = 0 := (oX_ki y634 h590 (rw_ne h590 h632 (by decide))).trans k609
  have k660 : σ633.1 514 q164 = 12 := (oX_ki y634 h591 (rw_ne h591 h632 (by decide))).trans k610
  have k661 : σ633.1 515 q164 = 6 := (oX_ki y634 h591 (rw_ne h591 h632 (by decide))).trans k611
  have k662 : σ633.1 327 q244 = 0 := (oX_ki y634 h592 (rw_ne h592 h632 (by decide))).trans k612
  have k663 : σ633.1 328 q244 = 0 := (oX_ki y634 h592 (rw_ne h592 h632 (by decide))).trans k613
  have k664 : σ633.1 329 q244 = 0 := (oX_ki y634 h592 (rw_ne h592 h632 (by decide))).trans k614
  have k665 : σ633.1 330 q244 = 0 := (oX_ki y634 h592 (rw_ne h592 h632 (by decide))).trans k615
  have k666 : σ633.1 331 q244 = 0 := (oX_ki y634 h592 (rw_ne h592 h632 (by decide))).trans k616
  have k667 : σ633.1 327 q338 = 0 := (oX_ki y634 h593 (rw_ne h593 h632 (by decide))).trans k617
  have k668 : σ633.1 328 q338 = 0 := (oX_ki y634 h593 (rw_ne h593 h632 (by decide))).trans k618
  have k669 : σ633.1 329 q338 = 0 := (oX_ki y634 h593 (rw_ne h593 h632 (by decide))).trans k619
  have k670 : σ633.1 330 q338 = 0 := (oX_ki y634 h593 (rw_ne h593 h632 (by decide))).trans k620
  have k671 : σ633.1 331 q338 = 0 := (oX_ki y634 h593 (rw_ne h593 h632 (by decide))).trans k621
  have k672 : σ633.1 6 q452 = 0 := (oX_ki y634 h594 (rw_ne h594 h632 (by decide))).trans k622
  have k673 : σ633.1 7 q452 = 0 := (oX_ki y634 h594 (rw_ne h594 h632 (by decide))).trans k623
  have k674 : σ633.2.2.2.2 576 a0 = some q3 := (oX_kr y634 h586 (rw_ne h586 h632 (by decide))).trans k624
  have k675 : σ633.2.2.2.2 577 a0 = some q25 := (oX_kr y634 h586 (rw_ne h586 h632 (by decide))).trans k625
  have k676 : σ633.2.2.2.2 578 a0 = some q59 := (oX_kr y634 h586 (rw_ne h586 h632 (by decide))).trans k626
  have k677 : σ633.2.2.2.2 579 a0 = some q103 := (oX_kr y634 h586 (rw_ne h586 h632 (by decide))).trans k627
  have k678 : σ633.2.2.2.2 580 a0 = some q164 := (oX_kr y634 h586 (rw_ne h586 h632 (by decide))).trans k628
  have k679 : σ633.2.2.2.2 581 a0 = some q244 := (oX_kr y634 h586 (rw_ne h586 h632 (by decide))).trans k629
  have k680 : σ633.2.2.2.2 582 a0 = some q338 := (oX_kr y634 h586 (rw_ne h586 h632 (by decide))).trans k630
  have k681 : σ633.2.2.2.2 583 a0 = some q452 := (oX_kr y634 h586 (rw_ne h586 h632 (by decide))).trans k631
  have h682 : oA L τ q583 7 := oX_q y634 h632 t635
  refine o_putrF cx hw 9 8 rfl fiX10 tyX10 tyX10_ok nmX10 h636 (by decide) (by decide) rfl (by decide) rfl rfl rfl rfl hin rfl rfl k_f_X10_68 dX10_init_120 (fun σ684 H locs e683 hw => ?_)
  have k685 : σ684.1 587 a0 = 0 := (kp_r e683).trans k645
  have k686 : σ684.1 588 a0 = 0 := (kp_r e683).trans k646
  have k687 : σ684.1 385 q3 = 0 := (kp_r e683).trans k647
  have k688 : σ684.1 386 q3 = 0 := (kp_r e683).trans k648
  have k689 : σ684.1 387 q3 = 80 := (kp_r e683).trans k649
  have k690 : σ684.1 193 q25 = 0 := (kp_r e683).trans k650
  have k691 : σ684.1 64 q59 = 0 := (kp_r e683).trans k651
  have k692 : σ684.1 65 q59 = 0 := (kp_r e683).trans k652
  have k693 : σ684.1 66 q59 = 0 := (kp_r e683).trans k653
  have k694 : σ684.1 257 q103 = 0 := (kp_r e683).trans k654
  have k695 : σ684.1 259 q103 = 0 := (kp_r e683).trans k655
  have k696 : σ684.1 261 q103 = 0 := (kp_r e683).trans k656
  have k697 : σ684.1 263 q103 = 0 := (kp_r e683).trans k657
  have k698 : σ684.1 264 q103 = 0 := (kp_r e683).trans k658
  have k699 : σ684.1 265 q103 = 0 := (kp_r e683).trans k659
  have k700 : σ684.1 514 q164 = 12 := (kp_r e683).trans k660
  have k701 : σ684.1 515 q164 = 6 := (kp_r e683).trans k661
  have k702 : σ684.1 327 q244 = 0 := (kp_r e683).trans k662
  have k703 : σ684.1 328 q244 = 0 := (kp_r e683).trans k663
  have k704 : σ684.1 329 q244 = 0 := (kp_r e683).trans k664
  have k705 : σ684.1 330 q244 = 0 := (kp_r e683).trans k665
  have k706 : σ684.1 331 q244 = 0 := (kp_r e683).trans k666
  have k707 : σ684.1 327 q338 = 0 := (kp_r e683).trans k667
  have k708 : σ684.1 328 q338 = 0 := (kp_r e683).trans k668
  have k709 : σ684.1 329 q338 = 0 := (kp_r e683).trans k669
  have k710 : σ684.1 330 q338 = 0 := (kp_r e683).trans k670
  have k711 : σ684.1 331 q338 = 0 := (kp_r e683).trans k671
  have k712 : σ684.1 6 q452 = 0 := (kp_r e683).trans k672
  have k713 : σ684.1 7 q452 = 0 := (kp_r e683).trans k673
  have k714 : σ684.2.2.2.2 576 a0 = some q3 := (kr_r e683 (by decide)).trans k674
  have k715 : σ684.2.2.2.2 577 a0 = some q25 := (kr_r e683 (by decide)).trans k675
  have k716 : σ684.2.2.2.2 578 a0 = some q59 := (kr_r e683 (by decide)).trans k676
  have k717 : σ684.2.2.2.2 579 a0 = some q103 := (kr_r e683 (by decide)).trans k677
  have k718 : σ684.2.2.2.2 580 a0 = some q164 := (kr_r e683 (by decide)).trans k678
  have k719 : σ684.2.2.2.2 581 a0 = some q244 := (kr_r e683 (by decide)).trans k679
  have k720 : σ684.2.2.2.2 582 a0 = some q338 := (kr_r e683 (by decide)).trans k680
  have k721 : σ684.2.2.2.2 583 a0 = some q452 := (kr_r e683 (by decide)).trans k681
  have k722 : σ684.2.2.2.2 584 a0 = some q583 := kr_s e683
  have hq := hq_r hq e683
  refine lv_aload_n hx hb dX10_init_123 rfl (lv_at hl 0 rfl) ?_
  refine o_new cx hA hw 2 (by decide) rfl fiX3 tyX3 tyX3_ok dfX3 k_c_X10_72 k_n_X3 k_i_X3 (by decide) (by decide) dX10_init_124 (fun q723 L τ σ725 H g724 hw => ?_)
  have h726 : oA L τ a0 25 := oG_a g724 h636
  have h727 : oA L τ q3 6 := oG_a g724 h637
  have h728 : oA L τ q25 3 := oG_a g724 h638
  have h729 : oA L τ q59 1 := oG_a g724 h639
  have h730 : oA L τ q103 4 := oG_a g724 h640
  have h731 : oA L τ q164 8 := oG_a g724 h641
  have h732 : oA L τ q244 5 := oG_a g724 h642
  have h733 : oA L τ q338 5 := oG_a g724 h643
  have h734 : oA L τ q452 0 := oG_a g724 h644
  have h735 : oA L τ q583 7 := oG_a g724 h682
  have k736 : σ725.1 587 a0 = 0 := (oG_i g724 h636).trans k685
  have k737 : σ725.1 588 a0 = 0 := (oG_i g724 h636).trans k686
  have k738 : σ725.1 385 q3 = 0 := (oG_i g724 h637).trans k687
  have k739 : σ725.1 386 q3 = 0 := (oG_i g724 h637).trans k688
  have k740 : σ725.1 387 q3 = 80 := (oG_i g724 h637).trans k689
  have k741 : σ725.1 193 q25 = 0 := (oG_i g724 h638).trans k690
  have k742 : σ725.1 64 q59 = 0 := (oG_i g724 h639).trans k691
  have k743 : σ725.1 65 q59 = 0 := (oG_i g724 h639).trans k692
  have k744 : σ725.1 66 q59 = 0 := (oG_i g724 h639).trans k693
  have k745 : σ725.1 257 q103 = 0 := (oG_i g724 h640).trans k694
  have k746 : σ725.1 259 q103 = 0 := (oG_i g724 h640).trans k695
  have k747 : σ725.1 261 q103 = 0 := (oG_i g724 h640).trans k696
  have k748 : σ725.1 263 q103 = 0 := (oG_i g724 h640).trans k697
  have k749 : σ725.1 264 q103 = 0 := (oG_i g724 h640).trans k698
  have k750 : σ725.1 265 q103 = 0 := (oG_i g724 h640).trans k699
  have k751 : σ725.1 514 q164 = 12 := (oG_i g724 h641).trans k700
  have k752 : σ725.1 515 q164 = 6 := (oG_i g724 h641).trans k701
  have k753 : σ725.1 327 q244 = 0 := (oG_i g724 h642).trans k702
  have k754 : σ725.1 328 q244 = 0 := (oG_i g724 h642).trans k703
  have k755 : σ725.1 329 q244 = 0 := (oG_i g724 h642).trans k704
  have k756 : σ725.1 330 q244 = 0 := (oG_i g724 h642).trans k705
  have k757 : σ725.1 331 q244 = 0 := (oG_i g724 h642).trans k706
  have k758 : σ725.1 327 q338 = 0 := (oG_i g724 h643).trans k707
  have k759 : σ725.1 328 q338 = 0 := (oG_i g724 h643).trans k708
  have k760 : σ725.1 329 q338 = 0 := (oG_i g724 h643).trans k709
  have k761 : σ725.1 330 q338 = 0 := (oG_i g724 h643).trans k710
  have k762 : σ725.1 331 q338 = 0 := (oG_i g724 h643).trans k711
  have k763 : σ725.1 6 q452 = 0 := (oG_i g724 h644).trans k712
  have k764 : σ725.1 7 q452 = 0 := (oG_i g724 h644).trans k713
  have k765 : σ725.2.2.2.2 576 a0 = some q3 := (oG_r g724 h636).trans k714
  have k766 : σ725.2.2.2.2 577 a0 = some q25 := (oG_r g724 h636).trans k715
  have k767 : σ725.2.2.2.2 578 a0 = some q59 := (oG_r g724 h636).trans k716
  have k768 : σ725.2.2.2.2 579 a0 = some q103 := (oG_r g724 h636).trans k717
  have k769 : σ725.2.2.2.2 580 a0 = some q164 := (oG_r g724 h636).trans k718
  have k770 : σ725.2.2.2.2 581 a0 = some q244 := (oG_r g724 h636).trans k719
  have k771 : σ725.2.2.2.2 582 a0 = some q338 := (oG_r g724 h636).trans k720
  have k772 : σ725.2.2.2.2 583 a0 = some q452 := (oG_r g724 h636).trans k721
  have k773 : σ725.2.2.2.2 584 a0 = some q583 := (oG_r g724 h636).trans k722
  have hq := hq_g hq g724
  have h774 : oA L τ q723 18 := oG_q g724
  refine lv_dup hx hb dX10_init_127 rfl ?_
  refine o_cI hw (oRunI cx hA hw q_X3_init k_m_X10_74 (As := []) (c_X3_init q723 h774 (fun j => oG_zi g724) (fun j => oG_zl g724) hq ) (by decide) rfl hl.1 rfl (Nat.le_of_ble_eq_true rfl) dX10_init_128 (by decide)) (fun L τ σ775 H locs hp hw => ?_)
  obtain ⟨y776, t777, fy776_129, fy776_130, xy776_0⟩ := hp
  have hq := xy776_0
  have h778 : oA L τ a0 25 := oX_a y776 h726 (rw_ne h726 h774 (by decide))
  have h779 : oA L τ q3 6 := oX_a y776 h727 (rw_ne h727 h774 (by decide))
  have h780 : oA L τ q25 3 := oX_a y776 h728 (rw_ne h728 h774 (by decide))
  have h781 : oA L τ q59 1 := oX_a y776 h729 (rw_ne h729 h774 (by decide))
  have h782 : oA L τ q103 4 := oX_a y776 h730 (rw_ne h730 h774 (by decide))
  have h783 : oA L τ q164 8 := oX_a y776 h731 (rw_ne h731 h774 (by decide))
  have h784 : oA L τ q244 5 := oX_a y776 h732 (rw_ne h732 h774 (by decide))
  have h785 : oA L τ q338 5 := oX_a y776 h733 (rw_ne h733 h774 (by decide))
  have h786 : oA L τ q452 0 := oX_a y776 h734 (rw_ne h734 h774 (by decide))
  have h787 : oA L τ q583 7 := oX_a y776 h735 (rw_ne h735 h774 (by decide))
  have k788 : σ775.1 587 a0 = 0 := (oX_ki y776 h726 (rw_ne h726 h774 (by decide))).trans k736
  have k789 : σ775.1 588 a0 = 0 := (oX_ki y776 h726 (rw_ne h726 h774 (by decide))).trans k737
  have k790 : σ775.1 385 q3 = 0 := (oX_ki y776 h727 (rw_ne h727 h774 (by decide))).trans k738
  have k791 : σ775.1 386 q3 = 0 := (oX_ki y776 h727 (rw_ne h727 h774 (by decide))).trans k739
  have k792 : σ775.1 387 q3 = 80 := (oX_ki y776 h727 (rw_ne h727 h774 (by decide))).trans k740
  have k793 : σ775.1 193 q25 = 0 := (oX_ki y776 h728 (rw_ne h728 h774 (by decide))).trans k741
  have k794 : σ775.1 64 q59 = 0 := (oX_ki y776 h729 (rw_ne h729 h774 (by decide))).trans k742
  have k795 : σ775.1 65 q59 = 0 := (oX_ki y776 h729 (rw_ne h729 h774 (by decide))).trans k743
  have k796 : σ775.1 66 q59 = 0 := (oX_ki y776 h729 (rw_ne h729 h774 (by decide))).trans k744
  have k797 : σ775.1 257 q103 = 0 := (oX_ki y776 h730 (rw_ne h730 h774 (by decide))).trans k745
  have k798 : σ775.1 259 q103 = 0 := (oX_ki y776 h730 (rw_ne h730 h774 (by decide))).trans k746
  have k799 : σ775.1 261 q103 = 0 := (oX_ki y776 h730 (rw_ne h730 h774 (by decide))).trans k747
  have k800 : σ775.1 263 q103 = 0 := (oX_ki y776 h730 (rw_ne h730 h774 (by decide))).trans k748
  have k801 : σ775.1 264 q103 = 0 := (oX_ki y776 h730 (rw_ne h730 h774 (by decide))).trans k749
  have k802 : σ775.1 265 q103 = 0 := (oX_ki y776 h730 (rw_ne h730 h774 (by decide))).trans k750
  have k803 : σ775.1 514 q164 = 12 := (oX_ki y776 h731 (rw_ne h731 h774 (by decide))).trans k751
  have k804 : σ775.1 515 q164 = 6 := (oX_ki y776 h731 (rw_ne h731 h774 (by decide))).trans k752
  have k805 : σ775.1 327 q244 = 0 := (oX_ki y776 h732 (rw_ne h732 h774 (by decide))).trans k753
  have k806 : σ775.1 328 q244 = 0 := (oX_ki y776 h732 (rw_ne h732 h774 (by decide))).trans k754
  have k807 : σ775.1 329 q244 = 0 := (oX_ki y776 h732 (rw_ne h732 h774 (by decide))).trans k755
  have k808 : σ775.1 330 q244 = 0 := (oX_ki y776 h732 (rw_ne h732 h774 (by decide))).trans k756
  have k809 : σ775.1 331 q244 = 0 := (oX_ki y776 h732 (rw_ne h732 h774 (by decide))).trans k757
  have k810 : σ775.1 327 q338 = 0 := (oX_ki y776 h733 (rw_ne h733 h774 (by decide))).trans k758
  have k811 : σ775.1 328 q338 = 0 := (oX_ki y776 h733 (rw_ne h733 h774 (by decide))).trans k759
  have k812 : σ775.1 329 q338 = 0 := (oX_ki y776 h733 (rw_ne h733 h774 (by decide))).trans k760
  have k813 : σ775.1 330 q338 = 0 := (oX_ki y776 h733 (rw_ne h733 h774 (by decide))).trans k761
  have k814 : σ775.1 331 q338 = 0 := (oX_ki y776 h733 (rw_ne h733 h774 (by decide))).trans k762
  have k815 : σ775.1 6 q452 = 0 := (oX_ki y776 h734 (rw_ne h734 h774 (by decide))).trans k763
  have k816 : σ775.1 7 q452 = 0 := (oX_ki y776 h734 (rw_ne h734 h774 (by decide))).trans k764
  have k817 : σ775.2.2.2.2 576 a0 = some q3 := (oX_kr y776 h726 (rw_ne h726 h774 (by decide))).trans k765
  have k818 : σ775.2.2.2.2 577 a0 = some q25 := (oX_kr y776 h726 (rw_ne h726 h774 (by decide))).trans k766
  have k819 : σ775.2.2.2.2 578 a0 = some q59 := (oX_kr y776 h726 (rw_ne h726 h774 (by decide))).trans k767
  have k820 : σ775.2.2.2.2 579 a0 = some q103 := (oX_kr y776 h726 (rw_ne h726 h774 (by decide))).trans k768
  have k821 : σ775.2.2.2.2 580 a0 = some q164 := (oX_kr y776 h726 (rw_ne h726 h774 (by decide))).trans k769
  have k822 : σ775.2.2.2.2 581 a0 = some q244 := (oX_kr y776 h726 (rw_ne h726 h774 (by decide))).trans k770
  have k823 : σ775.2.2.2.2 582 a0 = some q338 := (oX_kr y776 h726 (rw_ne h726 h774 (by decide))).trans k771
  have k824 : σ775.2.2.2.2 583 a0 = some q452 := (oX_kr y776 h726 (rw_ne h726 h774 (by decide))).trans k772
  have k825 : σ775.2.2.2.2 584 a0 = some q583 := (oX_kr y776 h726 (rw_ne h726 h774 (by decide))).trans k773
  have h826 : oA L τ q723 2 := oX_q y776 h774 t777
  refine o_putrF cx hw 9 9 rfl fiX10 tyX10 tyX10_ok nmX10 h778 (by decide) (by decide) rfl (by decide) rfl rfl rfl rfl hin rfl rfl k_f_X10_75 dX10_init_131 (fun σ828 H locs e827 hw => ?_)
  have k829 : σ828.1 587 a0 = 0 := (kp_r e827).trans k788
  have k830 : σ828.1 588 a0 = 0 := (kp_r e827).trans k789
  have k831 : σ828.1 385 q3 = 0 := (kp_r e827).trans k790
  have k832 : σ828.1 386 q3 = 0 := (kp_r e827).trans k791
  have k833 : σ828.1 387 q3 = 80 := (kp_r e827).trans k792
  have k834 : σ828.1 193 q25 = 0 := (kp_r e827).trans k793
  have k835 : σ828.1 64 q59 = 0 := (kp_r e827).trans k794
  have k836 : σ828.1 65 q59 = 0 := (kp_r e827).trans k795
  have k837 : σ828.1 66 q59 = 0 := (kp_r e827).trans k796
  have k838 : σ828.1 257 q103 = 0 := (kp_r e827).trans k797
  have k839 : σ828.1 259 q103 = 0 := (kp_r e827).trans k798
  have k840 : σ828.1 261 q103 = 0 := (kp_r e827).trans k799
  have k841 : σ828.1 263 q103 = 0 := (kp_r e827).trans k800
  have k842 : σ828.1 264 q103 = 0 := (kp_r e827).trans k801
  have k843 : σ828.1 265 q103 = 0 := (kp_r e827).trans k802
  have k844 : σ828.1 514 q164 = 12 := (kp_r e827).trans k803
  have k845 : σ828.1 515 q164 = 6 := (kp_r e827).trans k804
  have k846 : σ828.1 327 q244 = 0 := (kp_r e827).trans k805
  have k847 : σ828.1 328 q244 = 0 := (kp_r e827).trans k806
  have k848 : σ828.1 329 q244 = 0 := (kp_r e827).trans k807
  have k849 : σ828.1 330 q244 = 0 := (kp_r e827).trans k808
  have k850 : σ828.1 331 q244 = 0 := (kp_r e827).trans k809
  have k851 : σ828.1 327 q338 = 0 := (kp_r e827).trans k810
  have k852 : σ828.1 328 q338 = 0 := (kp_r e827).trans k811
  have k853 : σ828.1 329 q338 = 0 := (kp_r e827).trans k812
  have k854 : σ828.1 330 q338 = 0 := (kp_r e827).trans k813
  have k855 : σ828.1 331 q338 = 0 := (kp_r e827).trans k814
  have k856 : σ828.1 6 q452 = 0 := (kp_r e827).trans k815
  have k857 : σ828.1 7 q452 = 0 := (kp_r e827).trans k816
  have k858 : σ828.1 129 q723 = 0 := (kp_r e827).trans fy776_129
  have k859 : σ828.1 130 q723 = 0 := (kp_r e827).trans fy776_130
  have k860 : σ828.2.2.2.2 576 a0 = some q3 := (kr_r e827 (by decide)).trans k817
  have k861 : σ828.2.2.2.2 577 a0 = some q25 := (kr_r e827 (by decide)).trans k818
  have k862 : σ828.2.2.2.2 578 a0 = some q59 := (kr_r e827 (by decide)).trans k819
  have k863 : σ828.2.2.2.2 579 a0 = some q103 := (kr_r e827 (by decide)).trans k820
  have k864 : σ828.2.2.2.2 580 a0 = some q164 := (kr_r e827 (by decide)).trans k821
  have k865 : σ828.2.2.2.2 581 a0 = some q244 := (kr_r e827 (by decide)).trans k822
  have k866 : σ828.2.2.2.2 582 a0 = some q338 := (kr_r e827 (by decide)).trans k823
  have k867 : σ828.2.2.2.2 583 a0 = some q452 := (kr_r e827 (by decide)).trans k824
  have k868 : σ828.2.2.2.2 584 a0 = some q583 := (kr_r e827 (by decide)).trans k825
  have k869 : σ828.2.2.2.2 585 a0 = some q723 := kr_s e827
  have hq := hq_r hq e827
  refine lv_aload_n hx hb dX10_init_134 rfl (lv_at hl 0 rfl) ?_
  refine lv_iconst (v := 2) hx hb dX10_init_135 (by decide) ?_
  refine o_newq cx hA hw 43 (by decide) (fun _ => rfl) rfl k_c_X10_46 (by decide) (by decide) (by decide) (by decide) (by decide) dX10_init_136 (fun q870 L τ σ872 H g871 hw => ?_)
  have h873 : oA L τ a0 25 := oG_a g871 h778
  have h874 : oA L τ q3 6 := oG_a g871 h779
  have h875 : oA L τ q25 3 := oG_a g871 h780
  have h876 : oA L τ q59 1 := oG_a g871 h781
  have h877 : oA L τ q103 4 := oG_a g871 h782
  have h878 : oA L τ q164 8 := oG_a g871 h783
  have h879 : oA L τ q244 5 := oG_a g871 h784
  have h880 : oA L τ q338 5 := oG_a g871 h785
  have h881 : oA L τ q452 0 := oG_a g871 h786
  have h882 : oA L τ q583 7 := oG_a g871 h787
  have h883 : oA L τ q723 2 := oG_a g871 h826
  have k884 : σ872.1 587 a0 = 0 := (oG_i g871 h778).trans k829
  have k885 : σ872.1 588 a0 = 0 := (oG_i g871 h778).trans k830
  have k886 : σ872.1 385 q3 = 0 := (oG_i g871 h779).trans k831
  have k887 : σ872.1 386 q3 = 0 := (oG_i g871 h779).trans k832
  have k888 : σ872.1 387 q3 = 80 := (oG_i g871 h779).trans k833
  have k889 : σ872.1 193 q25 = 0 := (oG_i g871 h780).trans k834
  have k890 : σ872.1 64 q59 = 0 := (oG_i g871 h781).trans k835
  have k891 : σ872.1 65 q59 = 0 := (oG_i g871 h781).trans k836
  have k892 : σ872.1 66 q59 = 0 := (oG_i g871 h781).trans k837
  have k893 : σ872.1 257 q103 = 0 := (oG_i g871 h782).trans k838
  have k894 : σ872.1 259 q103 = 0 := (oG_i g871 h782).trans k839
  have k895 : σ872.1 261 q103 = 0 := (oG_i g871 h782).trans k840
  have k896 : σ872.1 263 q103 = 0 := (oG_i g871 h782).trans k841
  have k897 : σ872.1 264 q103 = 0 := (oG_i g871 h782).trans k842
  have k898 : σ872.1 265 q103 = 0 := (oG_i g871 h782).trans k843
  have k899 : σ872.1 514 q164 = 12 := (oG_i g871 h783).trans k844
  have k900 : σ872.1 515 q164 = 6 := (oG_i g871 h783).trans k845
  have k901 : σ872.1 327 q244 = 0 := (oG_i g871 h784).trans k846
  have k902 : σ872.1 328 q244 = 0 := (oG_i g871 h784).trans k847
  have k903 : σ872.1 329 q244 = 0 := (oG_i g871 h784).trans k848
  have k904 : σ872.1 330 q244 = 0 := (oG_i g871 h784).trans k849
  have k905 : σ872.1 331 q244 = 0 := (oG_i g871 h784).trans k850
  have k906 : σ872.1 327 q338 = 0 := (oG_i g871 h785).trans k851
  have k907 : σ872.1 328 q338 = 0 := (oG_i g871 h785).trans k852
  have k908 : σ872.1 329 q338 = 0 := (oG_i g871 h785).trans k853
  have k909 : σ872.1 330 q338 = 0 := (oG_i g871 h785).trans k854
  have k910 : σ872.1 331 q338 = 0 := (oG_i g871 h785).trans k855
  have k911 : σ872.1 6 q452 = 0 := (oG_i g871 h786).trans k856
  have k912 : σ872.1 7 q452 = 0 := (oG_i g871 h786).trans k857
  have k913 : σ872.1 129 q723 = 0 := (oG_i g871 h826).trans k858
  have k914 : σ872.1 130 q723 = 0 := (oG_i g871 h826).trans k859
  have k915 : σ872.2.2.2.2 576 a0 = some q3 := (oG_r g871 h778).trans k860
  have k916 : σ872.2.2.2.2 577 a0 = some q25 := (oG_r g871 h778).trans k861
  have k917 : σ872.2.2.2.2 578 a0 = some q59 := (oG_r g871 h778).trans k862
  have k918 : σ872.2.2.2.2 579 a0 = some q103 := (oG_r g871 h778).trans k863
  have k919 : σ872.2.2.2.2 580 a0 = some q164 := (oG_r g871 h778).trans k864
  have k920 : σ872.2.2.2.2 581 a0 = some q244 := (oG_r g871 h778).trans k865
  have k921 : σ872.2.2.2.2 582 a0 = some q338 := (oG_r g871 h778).trans k866
  have k922 : σ872.2.2.2.2 583 a0 = some q452 := (oG_r g871 h778).trans k867
  have k923 : σ872.2.2.2.2 584 a0 = some q583 := (oG_r g871 h778).trans k868
  have k924 : σ872.2.2.2.2 585 a0 = some q723 := (oG_r g871 h778).trans k869
  have hq := hq_g hq g871
  have h925 : oA L τ q870 43 := oG_q g871
  refine o_putrF cx hw 9 10 rfl fiX10 tyX10 tyX10_ok nmX10 h873 (by decide) (by decide) rfl (by decide) rfl rfl rfl rfl hin rfl rfl k_f_X10_79 dX10_init_139 (fun σ927 H locs e926 hw => ?_)
  have k928 : σ927.1 587 a0 = 0 := (kp_r e926).trans k884
  have k929 : σ927.1 588 a0 = 0 := (kp_r e926).trans k885
  have k930 : σ927.1 385 q3 = 0 := (kp_r e926).trans k886
  have k931 : σ927.1 386 q3 = 0 := (kp_r e926).trans k887
  have k932 : σ927.1 387 q3 = 80 := (kp_r e926).trans k888
  have k933 : σ927.1 193 q25 = 0 := (kp_r e926).trans k889
  have k934 : σ927.1 64 q59 = 0 := (kp_r e926).trans k890
  have k935 : σ927.1 65 q59 = 0 := (kp_r e926).trans k891
  have k936 : σ927.1 66 q59 = 0 := (kp_r e926).trans k892
  have k937 : σ927.1 257 q103 = 0 := (kp_r e926).trans k893
  have k938 : σ927.1 259 q103 = 0 := (kp_r e926).trans k894
  have k939 : σ927.1 261 q103 = 0 := (kp_r e926).trans k895
  have k940 : σ927.1 263 q103 = 0 := (kp_r e926).trans k896
  have k941 : σ927.1 264 q103 = 0 := (kp_r e926).trans k897
  have k942 : σ927.1 265 q103 = 0 := (kp_r e926).trans k898
  have k943 : σ927.1 514 q164 = 12 := (kp_r e926).trans k899
  have k944 : σ927.1 515 q164 = 6 := (kp_r e926).trans k900
  have k945 : σ927.1 327 q244 = 0 := (kp_r e926).trans k901
  have k946 : σ927.1 328 q244 = 0 := (kp_r e926).trans k902
  have k947 : σ927.1 329 q244 = 0 := (kp_r e926).trans k903
  have k948 : σ927.1 330 q244 = 0 := (kp_r e926).trans k904
  have k949 : σ927.1 331 q244 = 0 := (kp_r e926).trans k905
  have k950 : σ927.1 327 q338 = 0 := (kp_r e926).trans k906
  have k951 : σ927.1 328 q338 = 0 := (kp_r e926).trans k907
  have k952 : σ927.1 329 q338 = 0 := (kp_r e926).trans k908
  have k953 : σ927.1 330 q338 = 0 := (kp_r e926).trans k909
  have k954 : σ927.1 331 q338 = 0 := (kp_r e926).trans k910
  have k955 : σ927.1 6 q452 = 0 := (kp_r e926).trans k911
  have k956 : σ927.1 7 q452 = 0 := (kp_r e926).trans k912
  have k957 : σ927.1 129 q723 = 0 := (kp_r e926).trans k913
  have k958 : σ927.1 130 q723 = 0 := (kp_r e926).trans k914
  have k959 : σ927.2.2.2.2 576 a0 = some q3 := (kr_r e926 (by decide)).trans k915
  have k960 : σ927.2.2.2.2 577 a0 = some q25 := (kr_r e926 (by decide)).trans k916
  have k961 : σ927.2.2.2.2 578 a0 = some q59 := (kr_r e926 (by decide)).trans k917
  have k962 : σ927.2.2.2.2 579 a0 = some q103 := (kr_r e926 (by decide)).trans k918
  have k963 : σ927.2.2.2.2 580 a0 = some q164 := (kr_r e926 (by decide)).trans k919
  have k964 : σ927.2.2.2.2 581 a0 = some q244 := (kr_r e926 (by decide)).trans k920
  have k965 : σ927.2.2.2.2 582 a0 = some q338 := (kr_r e926 (by decide)).trans k921
  have k966 : σ927.2.2.2.2 583 a0 = some q452 := (kr_r e926 (by decide)).trans k922
  have k967 : σ927.2.2.2.2 584 a0 = some q583 := (kr_r e926 (by decide)).trans k923
  have k968 : σ927.2.2.2.2 585 a0 = some q723 := (kr_r e926 (by decide)).trans k924
  have k969 : σ927.2.2.2.2 586 a0 = some q870 := kr_s e926
  have hq := hq_r hq e926
  refine lv_iconst (v := 0) hx hb dX10_init_142 (by decide) ?_
  refine lv_istore_n (lv' := [(1, .int 0), (0, .ref a0)]) hx hb dX10_init_143 rfl hl (by decide) rfl (fun ls hl => ?_)
  refine lv_iload_n hx hb dX10_init_144 rfl (lv_at hl 0 rfl) ?_
  refine lv_iconst (v := 2) hx hb dX10_init_145 (by decide) ?_
  refine lv_icmp_ge (tgt := 168) hx hb dX10_init_146 (by decide) (fun c970 => ?_) (fun c970 => ?_)
  · exact absurd c970 (show ¬ (2 : Int32) ≤ 0 by decide)
  refine lv_aload_n hx hb dX10_init_149 rfl (lv_at hl 1 rfl) ?_
  refine o_getK cx hw 9 10 rfl fiX10 h873 (by decide) rfl (by decide) rfl rfl k_f_X10_79 (j := 586) rfl k969 dX10_init_150 ?_
  refine lv_iload_n hx hb dX10_init_153 rfl (lv_at hl 0 rfl) ?_
  refine o_new cx hA hw 5 (by decide) rfl fiX6 tyX6 tyX6_ok dfX6 k_c_X10_46 k_n_X6 k_i_X6 (by decide) (by decide) dX10_init_154 (fun q971 L τ σ973 H g972 hw => ?_)
  have h974 : oA L τ a0 25 := oG_a g972 h873
  have h975 : oA L τ q3 6 := oG_a g972 h874
  have h976 : oA L τ q25 3 := oG_a g972 h875
  have h977 : oA L τ q59 1 := oG_a g972 h876
  have h978 : oA L τ q103 4 := oG_a g972 h877
  have h979 : oA L τ q164 8 := oG_a g972 h878
  have h980 : oA L τ q244 5 := oG_a g972 h879
  have h981 : oA L τ q338 5 := oG_a g972 h880
  have h982 : oA L τ q452 0 := oG_a g972 h881
  have h983 : oA L τ q583 7 := oG_a g972 h882
  have h984 : oA L τ q723 2 := oG_a g972 h883
  have h985 : oA L τ q870 43 := oG_a g972 h925
  have k986 : σ973.1 587 a0 = 0 := (oG_i g972 h873).trans k928
  have k987 : σ973.1 588 a0 = 0 := (oG_i g972 h873).trans k929
  have k988 : σ973.1 385 q3 = 0 := (oG_i g972 h874).trans k930
  have k989 : σ973.1 386 q3 = 0 := (oG_i g972 h874).trans k931
  have k990 : σ973.1 387 q3 = 80 := (oG_i g972 h874).trans k932
  have k991 : σ973.1 193 q25 = 0 := (oG_i g972 h875).trans k933
  have k992 : σ973.1 64 q59 = 0 := (oG_i g972 h876).trans k934
  have k993 : σ973.1 65 q59 = 0 := (oG_i g972 h876).trans k935
  have k994 : σ973.1 66 q59 = 0 := (oG_i g972 h876).trans k936
  have k995 : σ973.1 257 q103 = 0 := (oG_i g972 h877).trans k937
  have k996 : σ973.1 259 q103 = 0 := (oG_i g972 h877).trans k938
  have k997 : σ973.1 261 q103 = 0 := (oG_i g972 h877).trans k939
  have k998 : σ973.1 263 q103 = 0 := (oG_i g972 h877).trans k940
  have k999 : σ973.1 264 q103 = 0 := (oG_i g972 h877).trans k941
  have k1000 : σ973.1 265 q103 = 0 := (oG_i g972 h877).trans k942
  have k1001 : σ973.1 514 q164 = 12 := (oG_i g972 h878).trans k943
  have k1002 : σ973.1 515 q164 = 6 := (oG_i g972 h878).trans k944
  have k1003 : σ973.1 327 q244 = 0 := (oG_i g972 h879).trans k945
  have k1004 : σ973.1 328 q244 = 0 := (oG_i g972 h879).trans k946
  have k1005 : σ973.1 329 q244 = 0 := (oG_i g972 h879).trans k947
  have k1006 : σ973.1 330 q244 = 0 := (oG_i g972 h879).trans k948
  have k1007 : σ973.1 331 q244 = 0 := (oG_i g972 h879).trans k949
  have k1008 : σ973.1 327 q338 = 0 := (oG_i g972 h880).trans k950
  have k1009 : σ973.1 328 q338 = 0 := (oG_i g972 h880).trans k951
  have k1010 : σ973.1 329 q338 = 0 := (oG_i g972 h880).trans k952
  have k1011 : σ973.1 330 q338 = 0 := (oG_i g972 h880).trans k953
  have k1012 : σ973.1 331 q338 = 0 := (oG_i g972 h880).trans k954
  have k1013 : σ973.1 6 q452 = 0 := (oG_i g972 h881).trans k955
  have k1014 : σ973.1 7 q452 = 0 := (oG_i g972 h881).trans k956
  have k1015 : σ973.1 129 q723 = 0 := (oG_i g972 h883).trans k957
  have k1016 : σ973.1 130 q723 = 0 := (oG_i g972 h883).trans k958
  have k1017 : σ973.2.2.2.2 576 a0 = some q3 := (oG_r g972 h873).trans k959
  have k1018 : σ973.2.2.2.2 577 a0 = some q25 := (oG_r g972 h873).trans k960
  have k1019 : σ973.2.2.2.2 578 a0 = some q59 := (oG_r g972 h873).trans k961
  have k1020 : σ973.2.2.2.2 579 a0 = some q103 := (oG_r g972 h873).trans k962
  have k1021 : σ973.2.2.2.2 580 a0 = some q164 := (oG_r g972 h873).trans k963
  have k1022 : σ973.2.2.2.2 581 a0 = some q244 := (oG_r g972 h873).trans k964
  have k1023 : σ973.2.2.2.2 582 a0 = some q338 := (oG_r g972 h873).trans k965
  have k1024 : σ973.2.2.2.2 583 a0 = some q452 := (oG_r g972 h873).trans k966
  have k1025 : σ973.2.2.2.2 584 a0 = some q583 := (oG_r g972 h873).trans k967
  have k1026 : σ973.2.2.2.2 585 a0 = some q723 := (oG_r g972 h873).trans k968
  have k1027 : σ973.2.2.2.2 586 a0 = some q870 := (oG_r g972 h873).trans k969
  have hq := hq_g hq g972
  have h1028 : oA L τ q971 21 := oG_q g972
  refine lv_dup hx hb dX10_init_157 rfl ?_
  refine o_cI hw (oRunI cx hA hw q_X6_init k_m_X10_48 (As := []) (c_X6_init q971 h1028 (fun j => oG_zi g972) (fun j => oG_zl g972) hq ) (by decide) rfl hl.1 rfl (Nat.le_of_ble_eq_true rfl) dX10_init_158 (by decide)) (fun L τ σ1029 H locs hp hw => ?_)
  obtain ⟨y1030, t1031, fy1030_327, fy1030_328, fy1030_329, fy1030_330, fy1030_331, xy1030_0⟩ := hp
  have hq := xy1030_0
  have h1032 : oA L τ a0 25 := oX_a y1030 h974 (rw_ne h974 h1028 (by decide))
  have h1033 : oA L τ q3 6 := oX_a y1030 h975 (rw_ne h975 h1028 (by decide))
  have h1034 : oA L τ q25 3 := oX_a y1030 h976 (rw_ne h976 h1028 (by decide))
  have h1035 : oA L τ q59 1 := oX_a y1030 h977 (rw_ne h977 h1028 (by decide))
  have h1036 : oA L τ q103 4 := oX_a y1030 h978 (rw_ne h978 h1028 (by decide))
  have h1037 : oA L τ q164 8 := oX_a y1030 h979 (rw_ne h979 h1028 (by decide))
  have h1038 : oA L τ q244 5 := oX_a y1030 h980 (rw_ne h980 h1028 (by decide))
  have h1039 : oA L τ q338 5 := oX_a y1030 h981 (rw_ne h981 h1028 (by decide))
  have h1040 : oA L τ q452 0 := oX_a y1030 h982 (rw_ne h982 h1028 (by decide))
  have h1041 : oA L τ q583 7 := oX_a y1030 h983 (rw_ne h983 h1028 (by decide))
  have h1042 : oA L τ q723 2 := oX_a y1030 h984 (rw_ne h984 h1028 (by decide))
  have h1043 : oA L τ q870 43 := oX_a y1030 h985 (rw_ne h985 h1028 (by decide))
  have k1044 : σ1029.1 587 a0 = 0 := (oX_ki y1030 h974 (rw_ne h974 h1028 (by decide))).trans k986
  have k1045 : σ1029.1 588 a0 = 0 := (oX_ki y1030 h974 (rw_ne h974 h1028 (by decide))).trans k987
  have k1046 : σ1029.1 385 q3 = 0 := (oX_ki y1030 h975 (rw_ne h975 h1028 (by decide))).trans k988
  have k1047 : σ1029.1 386 q3 = 0 := (oX_ki y1030 h975 (rw_ne h975 h1028 (by decide))).trans k989
  have k1048 : σ1029.1 387 q3 = 80 := (oX_ki y1030 h975 (rw_ne h975 h1028 (by decide))).trans k990
  have k1049 : σ1029.1 193 q25 = 0 := (oX_ki y1030 h976 (rw_ne h976 h1028 (by decide))).trans k991
  have k1050 : σ1029.1 64 q59 = 0 := (oX_ki y1030 h977 (rw_ne h977 h1028 (by decide))).trans k992
  have k1051 : σ1029.1 65 q59 = 0 := (oX_ki y1030 h977 (rw_ne h977 h1028 (by decide))).trans k993
  have k1052 : σ1029.1 66 q59 = 0 := (oX_ki y1030 h977 (rw_ne h977 h1028 (by decide))).trans k994
  have k1053 : σ1029.1 257 q103 = 0 := (oX_ki y1030 h978 (rw_ne h978 h1028 (by decide))).trans k995
  have k1054 : σ1029.1 259 q103 = 0 := (oX_ki y1030 h978 (rw_ne h978 h1028 (by decide))).trans k996
  have k1055 : σ1029.1 261 q103 = 0 := (oX_ki y1030 h978 (rw_ne h978 h1028 (by decide))).trans k997
  have k1056 : σ1029.1 263 q103 = 0 := (oX_ki y1030 h978 (rw_ne h978 h1028 (by decide))).trans k998
  have k1057 : σ1029.1 264 q103 = 0 := (oX_ki y1030 h978 (rw_ne h978 h1028 (by decide))).trans k999
  have k1058 : σ1029.1 265 q103 = 0 := (oX_ki y1030 h978 (rw_ne h978 h1028 (by decide))).trans k1000
  have k1059 : σ1029.1 514 q164 = 12 := (oX_ki y1030 h979 (rw_ne h979 h1028 (by decide))).trans k1001
  have k1060 : σ1029.1 515 q164 = 6 := (oX_ki y1030 h979 (rw_ne h979 h1028 (by decide))).trans k1002
  have k1061 : σ1029.1 327 q244 = 0 := (oX_ki y1030 h980 (rw_ne h980 h1028 (by decide))).trans k1003
  have k1062 : σ1029.1 328 q244 = 0 := (oX_ki y1030 h980 (rw_ne h980 h1028 (by decide))).trans k1004
  have k1063 : σ1029.1 329 q244 = 0 := (oX_ki y1030 h980 (rw_ne h980 h1028 (by decide))).trans k1005
  have k1064 : σ1029.1 330 q244 = 0 := (oX_ki y1030 h980 (rw_ne h980 h1028 (by decide))).trans k1006
  have k1065 : σ1029.1 331 q244 = 0 := (oX_ki y1030 h980 (rw_ne h980 h1028 (by decide))).trans k1007
  have k1066 : σ1029.1 327 q338 = 0 := (oX_ki y1030 h981 (rw_ne h981 h1028 (by decide))).trans k1008
  have k1067 : σ1029.1 328 q338 = 0 := (oX_ki y1030 h981 (rw_ne h981 h1028 (by decide))).trans k1009
  have k1068 : σ1029.1 329 q338 = 0 := (oX_ki y1030 h981 (rw_ne h981 h1028 (by decide))).trans k1010
  have k1069 : σ1029.1 330 q338 = 0 := (oX_ki y1030 h981 (rw_ne h981 h1028 (by decide))).trans k1011
  have k1070 : σ1029.1 331 q338 = 0 := (oX_ki y1030 h981 (rw_ne h981 h1028 (by decide))).trans k1012
  have k1071 : σ1029.1 6 q452 = 0 := (oX_ki y1030 h982 (rw_ne h982 h1028 (by decide))).trans k1013
  have k1072 : σ1029.1 7 q452 = 0 := (oX_ki y1030 h982 (rw_ne h982 h1028 (by decide))).trans k1014
  have k1073 : σ1029.1 129 q723 = 0 := (oX_ki y1030 h984 (rw_ne h984 h1028 (by decide))).trans k1015
  have k1074 : σ1029.1 130 q723 = 0 := (oX_ki y1030 h984 (rw_ne h984 h1028 (by decide))).trans k1016
  have k1075 : σ1029.2.2.2.2 576 a0 = some q3 := (oX_kr y1030 h974 (rw_ne h974 h1028 (by decide))).trans k1017
  have k1076 : σ1029.2.2.2.2 577 a0 = some q25 := (oX_kr y1030 h974 (rw_ne h974 h1028 (by decide))).trans k1018
  have k1077 : σ1029.2.2.2.2 578 a0 = some q59 := (oX_kr y1030 h974 (rw_ne h974 h1028 (by decide))).trans k1019
  have k1078 : σ1029.2.2.2.2 579 a0 = some q103 := (oX_kr y1030 h974 (rw_ne h974 h1028 (by decide))).trans k1020
  have k1079 : σ1029.2.2.2.2 580 a0 = some q164 := (oX_kr y1030 h974 (rw_ne h974 h1028 (by decide))).trans k1021
  have k1080 : σ1029.2.2.2.2 581 a0 = some q244 := (oX_kr y1030 h974 (rw_ne h974 h1028 (by decide))).trans k1022
  have k1081 : σ1029.2.2.2.2 582 a0 = some q338 := (oX_kr y1030 h974 (rw_ne h974 h1028 (by decide))).trans k1023
  have k1082 : σ1029.2.2.2.2 583 a0 = some q452 := (oX_kr y1030 h974 (rw_ne h974 h1028 (by decide))).trans k1024
  have k1083 : σ1029.2.2.2.2 584 a0 = some q583 := (oX_kr y1030 h974 (rw_ne h974 h1028 (by decide))).trans k1025
  have k1084 : σ1029.2.2.2.2 585 a0 = some q723 := (oX_kr y1030 h974 (rw_ne h974 h1028 (by decide))).trans k1026
  have k1085 : σ1029.2.2.2.2 586 a0 = some q870 := (oX_kr y1030 h974 (rw_ne h974 h1028 (by decide))).trans k1027
  have h1086 : oA L τ q971 5 := oX_q y1030 h1028 t1031
  refine o_astq cx hw h1043 (by decide) rfl (fun _ => rfl) h1086 (iv_in (⟨by decide, by decide⟩ : Iv 0 0 0) (by decide)) dX10_init_161 (fun σ1088 H locs e1087 hw => ?_)
  have k1089 : σ1088.1 587 a0 = 0 := (kp_r e1087).trans k1044
  have k1090 : σ1088.1 588 a0 = 0 := (kp_r e1087).trans k1045
  have k1091 : σ1088.1 385 q3 = 0 := (kp_r e1087).trans k1046
  have k1092 : σ1088.1 386 q3 = 0 := (kp_r e1087).trans k1047
  have k1093 : σ1088.1 387 q3 = 80 := (kp_r e1087).trans k1048
  have k1094 : σ1088.1 193 q25 = 0 := (kp_r e1087).trans k1049
  have k1095 : σ1088.1 64 q59 = 0 := (kp_r e1087).trans k1050
  have k1096 : σ1088.1 65 q59 = 0 := (kp_r e1087).trans k1051
  have k1097 : σ1088.1 66 q59 = 0 := (kp_r e1087).trans k1052
  have k1098 : σ1088.1 257 q103 = 0 := (kp_r e1087).trans k1053
  have k1099 : σ1088.1 259 q103 = 0 := (kp_r e1087).trans k1054
  have k1100 : σ1088.1 261 q103 = 0 := (kp_r e1087).trans k1055
  have k1101 : σ1088.1 263 q103 = 0 := (kp_r e1087).trans k1056
  have k1102 : σ1088.1 264 q103 = 0 := (kp_r e1087).trans k1057
  have k1103 : σ1088.1 265 q103 = 0 := (kp_r e1087).trans k1058
  have k1104 : σ1088.1 514 q164 = 12 := (kp_r e1087).trans k1059
  have k1105 : σ1088.1 515 q164 = 6 := (kp_r e1087).trans k1060
  have k1106 : σ1088.1 327 q244 = 0 := (kp_r e1087).trans k1061
  have k1107 : σ1088.1 328 q244 = 0 := (kp_r e1087).trans k1062
  have k1108 : σ1088.1 329 q244 = 0 := (kp_r e1087).trans k1063
  have k1109 : σ1088.1 330 q244 = 0 := (kp_r e1087).trans k1064
  have k1110 : σ1088.1 331 q244 = 0 := (kp_r e1087).trans k1065
  have k1111 : σ1088.1 327 q338 = 0 := (kp_r e1087).trans k1066
  have k1112 : σ1088.1 328 q338 = 0 := (kp_r e1087).trans k1067
  have k1113 : σ1088.1 329 q338 = 0 := (kp_r e1087).trans k1068
  have k1114 : σ1088.1 330 q338 = 0 := (kp_r e1087).trans k1069
  have k1115 : σ1088.1 331 q338 = 0 := (kp_r e1087).trans k1070
  have k1116 : σ1088.1 6 q452 = 0 := (kp_r e1087).trans k1071
  have k1117 : σ1088.1 7 q452 = 0 := (kp_r e1087).trans k1072
  have k1118 : σ1088.1 129 q723 = 0 := (kp_r e1087).trans k1073
  have k1119 : σ1088.1 130 q723 = 0 := (kp_r e1087).trans k1074
  have k1120 : σ1088.1 327 q971 = 0 := (kp_r e1087).trans fy1030_327
  have k1121 : σ1088.1 328 q971 = 0 := (kp_r e1087).trans fy1030_328
  have k1122 : σ1088.1 329 q971 = 0 := (kp_r e1087).trans fy1030_329
  have k1123 : σ1088.1 330 q971 = 0 := (kp_r e1087).trans fy1030_330
  have k1124 : σ1088.1 331 q971 = 0 := (kp_r e1087).trans fy1030_331
  have k1125 : σ1088.2.2.2.2 576 a0 = some q3 := (kr_r e1087 (by decide)).trans k1075
  have k1126 : σ1088.2.2.2.2 577 a0 = some q25 := (kr_r e1087 (by decide)).trans k1076
  have k1127 : σ1088.2.2.2.2 578 a0 = some q59 := (kr_r e1087 (by decide)).trans k1077
  have k1128 : σ1088.2.2.2.2 579 a0 = some q103 := (kr_r e1087 (by decide)).trans k1078
  have k1129 : σ1088.2.2.2.2 580 a0 = some q164 := (kr_r e1087 (by decide)).trans k1079
  have k1130 : σ1088.2.2.2.2 581 a0 = some q244 := (kr_r e1087 (by decide)).trans k1080
  have k1131 : σ1088.2.2.2.2 582 a0 = some q338 := (kr_r e1087 (by decide)).trans k1081
  have k1132 : σ1088.2.2.2.2 583 a0 = some q452 := (kr_r e1087 (by decide)).trans k1082
  have k1133 : σ1088.2.2.2.2 584 a0 = some q583 := (kr_r e1087 (by decide)).trans k1083
  have k1134 : σ1088.2.2.2.2 585 a0 = some q723 := (kr_r e1087 (by decide)).trans k1084
  have k1135 : σ1088.2.2.2.2 586 a0 = some q870 := (kr_r e1087 (by decide)).trans k1085
  have k1136 : σ1088.2.2.2.2 4096 q870 = some q971 := kr_s e1087
  have hq := hq_r hq e1087
  refine lv_iinc (v := 1) (lv' := [(1, .int 1), (0, .ref a0)]) hx hb dX10_init_162 hl (k := 0) rfl (by decide) (by decide) rfl (fun ls hl => ?_)
  refine lv_goto (tgt := 144) hx hb dX10_init_165 (by decide) ?_
  refine lv_iload_n hx hb dX10_init_144 rfl (lv_at hl 0 rfl) ?_
  refine lv_iconst (v := 2) hx hb dX10_init_145 (by decide) ?_
  refine lv_icmp_ge (tgt := 168) hx hb dX10_init_146 (by decide) (fun c1137 => ?_) (fun c1137 => ?_)
  · exact absurd c1137 (show ¬ (2 : Int32) ≤ 1 by decide)
  refine lv_aload_n hx hb dX10_init_149 rfl (lv_at hl 1 rfl) ?_
  refine o_getK cx hw 9 10 rfl fiX10 h1032 (by decide) rfl (by decide) rfl rfl k_f_X10_79 (j := 586) rfl k1135 dX10_init_150 ?_
  refine lv_iload_n hx hb dX10_init_153 rfl (lv_at hl 0 rfl) ?_
  refine o_new cx hA hw 5 (by decide) rfl fiX6 tyX6 tyX6_ok dfX6 k_c_X10_46 k_n_X6 k_i_X6 (by decide) (by decide) dX10_init_154 (fun q1138 L τ σ1140 H g1139 hw => ?_)
  have h1141 : oA L τ a0 25 := oG_a g1139 h1032
  have h1142 : oA L τ q3 6 := oG_a g1139 h1033
  have h1143 : oA L τ q25 3 := oG_a g1139 h1034
  have h1144 : oA L τ q59 1 := oG_a g1139 h1035
  have h1145 : oA L τ q103 4 := oG_a g1139 h1036
  have h1146 : oA L τ q164 8 := oG_a g1139 h1037
  have h1147 : oA L τ q244 5 := oG_a g1139 h1038
  have h1148 : oA L τ q338 5 := oG_a g1139 h1039
  have h1149 : oA L τ q452 0 := oG_a g1139 h1040
  have h1150 : oA L τ q583 7 := oG_a g1139 h1041
  have h1151 : oA L τ q723 2 := oG_a g1139 h1042
  have h1152 : oA L τ q870 43 := oG_a g1139 h1043
  have h1153 : oA L τ q971 5 := oG_a g1139 h1086
  have k1154 : σ1140.1 587 a0 = 0 := (oG_i g1139 h1032).trans k1089
  have k1155 : σ1140.1 588 a0 = 0 := (oG_i g1139 h1032).trans k1090
  have k1156 : σ1140.1 385 q3 = 0 := (oG_i g1139 h1033).trans k1091
  have k1157 : σ1140.1 386 q3 = 0 := (oG_i g1139 h1033).trans k1092
  have k1158 : σ1140.1 387 q3 = 80 := (oG_i g1139 h1033).trans k1093
  have k1159 : σ1140.1 193 q25 = 0 := (oG_i g1139 h1034).trans k1094
  have k1160 : σ1140.1 64 q59 = 0 := (oG_i g1139 h1035).trans k1095
  have k1161 : σ1140.1 65 q59 = 0 := (oG_i g1139 h1035).trans k1096
  have k1162 : σ1140.1 66 q59 = 0 := (oG_i g1139 h1035).trans k1097
  have k1163 : σ1140.1 257 q103 = 0 := (oG_i g1139 h1036).trans k1098
  have k1164 : σ1140.1 259 q103 = 0 := (oG_i g1139 h1036).trans k1099
  have k1165 : σ1140.1 261 q103 = 0 := (oG_i g1139 h1036).trans k1100
  have k1166 : σ1140.1 263 q103 = 0 := (oG_i g1139 h1036).trans k1101
  have k1167 : σ1140.1 264 q103 = 0 := (oG_i g1139 h1036).trans k1102
  have k1168 : σ1140.1 265 q103 = 0 := (oG_i g1139 h1036).trans k1103
  have k1169 : σ1140.1 514 q164 = 12 := (oG_i g1139 h1037).trans k1104
  have k1170 : σ1140.1 515 q164 = 6 := (oG_i g1139 h1037).trans k1105
  have k1171 : σ1140.1 327 q244 = 0 := (oG_i g1139 h1038).trans k1106
  have k1172 : σ1140.1 328 q244 = 0 := (oG_i g1139 h1038).trans k1107
  have k1173 : σ1140.1 329 q244 = 0 := (oG_i g1139 h1038).trans k1108
  have k1174 : σ1140.1 330 q244 = 0 := (oG_i g1139 h1038).trans k1109
  have k1175 : σ1140.1 331 q244 = 0 := (oG_i g1139 h1038).trans k1110
  have k1176 : σ1140.1 327 q338 = 0 := (oG_i g1139 h1039).trans k1111
  have k1177 : σ1140.1 328 q338 = 0 := (oG_i g1139 h1039).trans k1112
  have k1178 : σ1140.1 329 q338 = 0 := (oG_i g1139 h1039).trans k1113
  have k1179 : σ1140.1 330 q338 = 0 := (oG_i g1139 h1039).trans k1114
  have k1180 : σ1140.1 331 q338 = 0 := (oG_i g1139 h1039).trans k1115
  have k1181 : σ1140.1 6 q452 = 0 := (oG_i g1139 h1040).trans k1116
  have k1182 : σ1140.1 7 q452 = 0 := (oG_i g1139 h1040).trans k1117
  have k1183 : σ1140.1 129 q723 = 0 := (oG_i g1139 h1042).trans k1118
  have k1184 : σ1140.1 130 q723 = 0 := (oG_i g1139 h1042).trans k1119
  have k1185 : σ1140.1 327 q971 = 0 := (oG_i g1139 h1086).trans k1120
  have k1186 : σ1140.1 328 q971 = 0 := (oG_i g1139 h1086).trans k1121
  have k1187 : σ1140.1 329 q971 = 0 := (oG_i g1139 h1086).trans k1122
  have k1188 : σ1140.1 330 q971 = 0 := (oG_i g1139 h1086).trans k1123
  have k1189 : σ1140.1 331 q971 = 0 := (oG_i g1139 h1086).trans k1124
  have k1190 : σ1140.2.2.2.2 576 a0 = some q3 := (oG_r g1139 h1032).trans k1125
  have k1191 : σ1140.2.2.2.2 577 a0 = some q25 := (oG_r g1139 h1032).trans k1126
  have k1192 : σ1140.2.2.2.2 578 a0 = some q59 := (oG_r g1139 h1032).trans k1127
  have k1193 : σ1140.2.2.2.2 579 a0 = some q103 := (oG_r g1139 h1032).trans k1128
  have k1194 : σ1140.2.2.2.2 580 a0 = some q164 := (oG_r g1139 h1032).trans k1129
  have k1195 : σ1140.2.2.2.2 581 a0 = some q244 := (oG_r g1139 h1032).trans k1130
  have k1196 : σ1140.2.2.2.2 582 a0 = some q338 := (oG_r g1139 h1032).trans k1131
  have k1197 : σ1140.2.2.2.2 583 a0 = some q452 := (oG_r g1139 h1032).trans k1132
  have k1198 : σ1140.2.2.2.2 584 a0 = some q583 := (oG_r g1139 h1032).trans k1133
  have k1199 : σ1140.2.2.2.2 585 a0 = some q723 := (oG_r g1139 h1032).trans k1134
  have k1200 : σ1140.2.2.2.2 586 a0 = some q870 := (oG_r g1139 h1032).trans k1135
  have k1201 : σ1140.2.2.2.2 4096 q870 = some q971 := (oG_r g1139 h1043).trans k1136
  have hq := hq_g hq g1139
  have h1202 : oA L τ q1138 21 := oG_q g1139
  refine lv_dup hx hb dX10_init_157 rfl ?_
  refine o_cI hw (oRunI cx hA hw q_X6_init k_m_X10_48 (As := []) (c_X6_init q1138 h1202 (fun j => oG_zi g1139) (fun j => oG_zl g1139) hq ) (by decide) rfl hl.1 rfl (Nat.le_of_ble_eq_true rfl) dX10_init_158 (by decide)) (fun L τ σ1203 H locs hp hw => ?_)
  obtain ⟨y1204, t1205, fy1204_327, fy1204_328, fy1204_329, fy1204_330, fy1204_331, xy1204_0⟩ := hp
  have hq := xy1204_0
  have h1206 : oA L τ a0 25 := oX_a y1204 h1141 (rw_ne h1141 h1202 (by decide))
  have h1207 : oA L τ q3 6 := oX_a y1204 h1142 (rw_ne h1142 h1202 (by decide))
  have h1208 : oA L τ q25 3 := oX_a y1204 h1143 (rw_ne h1143 h1202 (by decide))
  have h1209 : oA L τ q59 1 := oX_a y1204 h1144 (rw_ne h1144 h1202 (by decide))
  have h1210 : oA L τ q103 4 := oX_a y1204 h1145 (rw_ne h1145 h1202 (by decide))
  have h1211 : oA L τ q164 8 := oX_a y1204 h1146 (rw_ne h1146 h1202 (by decide))
  have h1212 : oA L τ q244 5 := oX_a y1204 h1147 (rw_ne h1147 h1202 (by decide))
  have h1213 : oA L τ q338 5 := oX_a y1204 h1148 (rw_ne h1148 h1202 (by decide))
  have h1214 : oA L τ q452 0 := oX_a y1204 h1149 (rw_ne h1149 h1202 (by decide))
  have h1215 : oA L τ q583 7 := oX_a y1204 h1150 (rw_ne h1150 h1202 (by decide))
  have h1216 : oA L τ q723 2 := oX_a y1204 h1151 (rw_ne h1151 h1202 (by decide))
  have h1217 : oA L τ q870 43 := oX_a y1204 h1152 (rw_ne h1152 h1202 (by decide))
  have h1218 : oA L τ q971 5 := oX_a y1204 h1153 (rw_ne h1153 h1202 (by decide))
  have k1219 : σ1203.1 587 a0 = 0 := (oX_ki y1204 h1141 (rw_ne h1141 h1202 (by decide))).trans k1154
  have k1220 : σ1203.1 588 a0 = 0 := (oX_ki y1204 h1141 (rw_ne h1141 h1202 (by decide))).trans k1155
  have k1221 : σ1203.1 385 q3 = 0 := (oX_ki y1204 h1142 (rw_ne h1142 h1202 (by decide))).trans k1156
  have k1222 : σ1203.1 386 q3 = 0 := (oX_ki y1204 h1142 (rw_ne h1142 h1202 (by decide))).trans k1157
  have k1223 : σ1203.1 387 q3 = 80 := (oX_ki y1204 h1142 (rw_ne h1142 h1202 (by decide))).trans k1158
  have k1224 : σ1203.1 193 q25 = 0 := (oX_ki y1204 h1143 (rw_ne h1143 h1202 (by decide))).trans k1159
  have k1225 : σ1203.1 64 q59 = 0 := (oX_ki y1204 h1144 (rw_ne h1144 h1202 (by decide))).trans k1160
  have k1226 : σ1203.1 65 q59 = 0 := (oX_ki y1204 h1144 (rw_ne h1144 h1202 (by decide))).trans k1161
  have k1227 : σ1203.1 66 q59 = 0 := (oX_ki y1204 h1144 (rw_ne h1144 h1202 (by decide))).trans k1162
  have k1228 : σ1203.1 257 q103 = 0 := (oX_ki y1204 h1145 (rw_ne h1145 h1202 (by decide))).trans k1163
  have k1229 : σ1203.1 259 q103 = 0 := (oX_ki y1204 h1145 (rw_ne h1145 h1202 (by decide))).trans k1164
  have k1230 : σ1203.1 261 q103 = 0 := (oX_ki y1204 h1145 (rw_ne h1145 h1202 (by decide))).trans k1165
  have k1231 : σ1203.1 263 q103 = 0 := (oX_ki y1204 h1145 (rw_ne h1145 h1202 (by decide))).trans k1166
  have k1232 : σ1203.1 264 q103 = 0 := (oX_ki y1204 h1145 (rw_ne h1145 h1202 (by decide))).trans k1167
  have k1233 : σ1203.1 265 q103 = 0 := (oX_ki y1204 h1145 (rw_ne h1145 h1202 (by decide))).trans k1168
  have k1234 : σ1203.1 514 q164 = 12 := (oX_ki y1204 h1146 (rw_ne h1146 h1202 (by decide))).trans k1169
  have k1235 : σ1203.1 515 q164 = 6 := (oX_ki y1204 h1146 (rw_ne h1146 h1202 (by decide))).trans k1170
  have k1236 : σ1203.1 327 q244 = 0 := (oX_ki y1204 h1147 (rw_ne h1147 h1202 (by decide))).trans k1171
  have k1237 : σ1203.1 328 q244 = 0 := (oX_ki y1204 h1147 (rw_ne h1147 h1202 (by decide))).trans k1172
  have k1238 : σ1203.1 329 q244 = 0 := (oX_ki y1204 h1147 (rw_ne h1147 h1202 (by decide))).trans k1173
  have k1239 : σ1203.1 330 q244 = 0 := (oX_ki y1204 h1147 (rw_ne h1147 h1202 (by decide))).trans k1174
  have k1240 : σ1203.1 331 q244 = 0 := (oX_ki y1204 h1147 (rw_ne h1147 h1202 (by decide))).trans k1175
  have k1241 : σ1203.1 327 q338 = 0 := (oX_ki y1204 h1148 (rw_ne h1148 h1202 (by decide))).trans k1176
  have k1242 : σ1203.1 328 q338 = 0 := (oX_ki y1204 h1148 (rw_ne h1148 h1202 (by decide))).trans k1177
  have k1243 : σ1203.1 329 q338 = 0 := (oX_ki y1204 h1148 (rw_ne h1148 h1202 (by decide))).trans k1178
  have k1244 : σ1203.1 330 q338 = 0 := (oX_ki y1204 h1148 (rw_ne h1148 h1202 (by decide))).trans k1179
  have k1245 : σ1203.1 331 q338 = 0 := (oX_ki y1204 h1148 (rw_ne h1148 h1202 (by decide))).trans k1180
  have k1246 : σ1203.1 6 q452 = 0 := (oX_ki y1204 h1149 (rw_ne h1149 h1202 (by decide))).trans k1181
  have k1247 : σ1203.1 7 q452 = 0 := (oX_ki y1204 h1149 (rw_ne h1149 h1202 (by decide))).trans k1182
  have k1248 : σ1203.1 129 q723 = 0 := (oX_ki y1204 h1151 (rw_ne h1151 h1202 (by decide))).trans k1183
  have k1249 : σ1203.1 130 q723 = 0 := (oX_ki y1204 h1151 (rw_ne h1151 h1202 (by decide))).trans k1184
  have k1250 : σ1203.1 327 q971 = 0 := (oX_ki y1204 h1153 (rw_ne h1153 h1202 (by decide))).trans k1185
  have k1251 : σ1203.1 328 q971 = 0 := (oX_ki y1204 h1153 (rw_ne h1153 h1202 (by decide))).trans k1186
  have k1252 : σ1203.1 329 q971 = 0 := (oX_ki y1204 h1153 (rw_ne h1153 h1202 (by decide))).trans k1187
  have k1253 : σ1203.1 330 q971 = 0 := (oX_ki y1204 h1153 (rw_ne h1153 h1202 (by decide))).trans k1188
  have k1254 : σ1203.1 331 q971 = 0 := (oX_ki y1204 h1153 (rw_ne h1153 h1202 (by decide))).trans k1189
  have k1255 : σ1203.2.2.2.2 576 a0 = some q3 := (oX_kr y1204 h1141 (rw_ne h1141 h1202 (by decide))).trans k1190
  have k1256 : σ1203.2.2.2.2 577 a0 = some q25 := (oX_kr y1204 h1141 (rw_ne h1141 h1202 (by decide))).trans k1191
  have k1257 : σ1203.2.2.2.2 578 a0 = some q59 := (oX_kr y1204 h1141 (rw_ne h1141 h1202 (by decide))).trans k1192
  have k1258 : σ1203.2.2.2.2 579 a0 = some q103 := (oX_kr y1204 h1141 (rw_ne h1141 h1202 (by decide))).trans k1193
  have k1259 : σ1203.2.2.2.2 580 a0 = some q164 := (oX_kr y1204 h1141 (rw_ne h1141 h1202 (by decide))).trans k1194
  have k1260 : σ1203.2.2.2.2 581 a0 = some q244 := (oX_kr y1204 h1141 (rw_ne h1141 h1202 (by decide))).trans k1195
  have k1261 : σ1203.2.2.2.2 582 a0 = some q338 := (oX_kr y1204 h1141 (rw_ne h1141 h1202 (by decide))).trans k1196
  have k1262 : σ1203.2.2.2.2 583 a0 = some q452 := (oX_kr y1204 h1141 (rw_ne h1141 h1202 (by decide))).trans k1197
  have k1263 : σ1203.2.2.2.2 584 a0 = some q583 := (oX_kr y1204 h1141 (rw_ne h1141 h1202 (by decide))).trans k1198
  have k1264 : σ1203.2.2.2.2 585 a0 = some q723 := (oX_kr y1204 h1141 (rw_ne h1141 h1202 (by decide))).trans k1199
  have k1265 : σ1203.2.2.2.2 586 a0 = some q870 := (oX_kr y1204 h1141 (rw_ne h1141 h1202 (by decide))).trans k1200
  have k1266 : σ1203.2.2.2.2 4096 q870 = some q971 := (oX_kr y1204 h1152 (rw_ne h1152 h1202 (by decide))).trans k1201
  have h1267 : oA L τ q1138 5 := oX_q y1204 h1202 t1205
  refine o_astq cx hw h1217 (by decide) rfl (fun _ => rfl) h1267 (iv_in (⟨by decide, by decide⟩ : Iv 1 1 1) (by decide)) dX10_init_161 (fun σ1269 H locs e1268 hw => ?_)
  have k1270 : σ1269.1 587 a0 = 0 := (kp_r e1268).trans k1219
  have k1271 : σ1269.1 588 a0 = 0 := (kp_r e1268).trans k1220
  have k1272 : σ1269.1 385 q3 = 0 := (kp_r e1268).trans k1221
  have k1273 : σ1269.1 386 q3 = 0 := (kp_r e1268).trans k1222
  have k1274 : σ1269.1 387 q3 = 80 := (kp_r e1268).trans k1223
  have k1275 : σ1269.1 193 q25 = 0 := (kp_r e1268).trans k1224
  have k1276 : σ1269.1 64 q59 = 0 := (kp_r e1268).trans k1225
  have k1277 : σ1269.1 65 q59 = 0 := (kp_r e1268).trans k1226
  have k1278 : σ1269.1 66 q59 = 0 := (kp_r e1268).trans k1227
  have k1279 : σ1269.1 257 q103 = 0 := (kp_r e1268).trans k1228
  have k1280 : σ1269.1 259 q103 = 0 := (kp_r e1268).trans k1229
  have k1281 : σ1269.1 261 q103 = 0 := (kp_r e1268).trans k1230
  have k1282 : σ1269.1 263 q103 = 0 := (kp_r e1268).trans k1231
  have k1283 : σ1269.1 264 q103 = 0 := (kp_r e1268).trans k1232
  have k1284 : σ1269.1 265 q103 = 0 := (kp_r e1268).trans k1233
  have k1285 : σ1269.1 514 q164 = 12 := (kp_r e1268).trans k1234
  have k1286 : σ1269.1 515 q164 = 6 := (kp_r e1268).trans k1235
  have k1287 : σ1269.1 327 q244 = 0 := (kp_r e1268).trans k1236
  have k1288 : σ1269.1 328 q244 = 0 := (kp_r e1268).trans k1237
  have k1289 : σ1269.1 329 q244 = 0 := (kp_r e1268).trans k1238
  have k1290 : σ1269.1 330 q244 = 0 := (kp_r e1268).trans k1239
  have k1291 : σ1269.1 331 q244 = 0 := (kp_r e1268).trans k1240
  have k1292 : σ1269.1 327 q338 = 0 := (kp_r e1268).trans k1241
  have k1293 : σ1269.1 328 q338 = 0 := (kp_r e1268).trans k1242
  have k1294 : σ1269.1 329 q338 = 0 := (kp_r e1268).trans k1243
  have k1295 : σ1269.1 330 q338 = 0 := (kp_r e1268).trans k1244
  have k1296 : σ1269.1 331 q338 = 0 := (kp_r e1268).trans k1245
  have k1297 : σ1269.1 6 q452 = 0 := (kp_r e1268).trans k1246
  have k1298 : σ1269.1 7 q452 = 0 := (kp_r e1268).trans k1247
  have k1299 : σ1269.1 129 q723 = 0 := (kp_r e1268).trans k1248
  have k1300 : σ1269.1 130 q723 = 0 := (kp_r e1268).trans k1249
  have k1301 : σ1269.1 327 q971 = 0 := (kp_r e1268).trans k1250
  have k1302 : σ1269.1 328 q971 = 0 := (kp_r e1268).trans k1251
  have k1303 : σ1269.1 329 q971 = 0 := (kp_r e1268).trans k1252
  have k1304 : σ1269.1 330 q971 = 0 := (kp_r e1268).trans k1253
  have k1305 : σ1269.1 331 q971 = 0 := (kp_r e1268).trans k1254
  have k1306 : σ1269.1 327 q1138 = 0 := (kp_r e1268).trans fy1204_327
  have k1307 : σ1269.1 328 q1138 = 0 := (kp_r e1268).trans fy1204_328
  have k1308 : σ1269.1 329 q1138 = 0 := (kp_r e1268).trans fy1204_329
  have k1309 : σ1269.1 330 q1138 = 0 := (kp_r e1268).trans fy1204_330
  have k1310 : σ1269.1 331 q1138 = 0 := (kp_r e1268).trans fy1204_331
  have k1311 : σ1269.2.2.2.2 576 a0 = some q3 := (kr_r e1268 (by decide)).trans k1255
  have k1312 : σ1269.2.2.2.2 577 a0 = some q25 := (kr_r e1268 (by decide)).trans k1256
  have k1313 : σ1269.2.2.2.2 578 a0 = some q59 := (kr_r e1268 (by decide)).trans k1257
  have k1314 : σ1269.2.2.2.2 579 a0 = some q103 := (kr_r e1268 (by decide)).trans k1258
  have k1315 : σ1269.2.2.2.2 580 a0 = some q164 := (kr_r e1268 (by decide)).trans k1259
  have k1316 : σ1269.2.2.2.2 581 a0 = some q244 := (kr_r e1268 (by decide)).trans k1260
  have k1317 : σ1269.2.2.2.2 582 a0 = some q338 := (kr_r e1268 (by decide)).trans k1261
  have k1318 : σ1269.2.2.2.2 583 a0 = some q452 := (kr_r e1268 (by decide)).trans k1262
  have k1319 : σ1269.2.2.2.2 584 a0 = some q583 := (kr_r e1268 (by decide)).trans k1263
  have k1320 : σ1269.2.2.2.2 585 a0 = some q723 := (kr_r e1268 (by decide)).trans k1264
  have k1321 : σ1269.2.2.2.2 586 a0 = some q870 := (kr_r e1268 (by decide)).trans k1265
  have k1322 : σ1269.2.2.2.2 4096 q870 = some q971 := (kr_r e1268 (by decide)).trans k1266
  have k1323 : σ1269.2.2.2.2 4097 q870 = some q1138 := kr_s e1268
  have hq := hq_r hq e1268
  obtain ⟨τ9, d1324⟩ : ∃ τ9, oD τ q870 41 τ9 := ⟨_, rfl⟩
  have hw := oD_I d1324 hw h1217 (Or.inr ⟨by decide, by decide, rfl, rfl⟩) (fun j hj => oMb_hi (by omega)) (fun _ => trivial) (fun j t2 hj => by
    have hj2 : (4096 ≤ j ∧ j < 4098) ∧ t2 = 5 := by
      by_cases h9 : 4096 ≤ j ∧ j < 4098
      · exact ⟨h9, by rw [show oTg 41 j = some 5 from if_pos h9] at hj; injection hj with hj; exact hj.symm⟩
      · rw [show oTg 41 j = none from if_neg h9] at hj; cases hj
    obtain ⟨hj2, rfl⟩ := hj2
    rcases (show j = 4096 ∨ j = 4097 by omega) with rfl | rfl
    · exact ⟨q971, k1322, h1218, rw_ne h1218 h1217 (by decide)⟩
    · exact ⟨q1138, k1323, h1267, rw_ne h1267 h1217 (by decide)⟩) (oTg_no (by decide))
  have hq := hq_d hq d1324 h1217 (by decide)
  have h1325 : oA L τ9 a0 25 := oD_a d1324 h1206 (rw_ne h1206 h1217 (by decide))
  have h1326 : oA L τ9 q3 6 := oD_a d1324 h1207 (rw_ne h1207 h1217 (by decide))
  have h1327 : oA L τ9 q25 3 := oD_a d1324 h1208 (rw_ne h1208 h1217 (by decide))
  have h1328 : oA L τ9 q59 1 := oD_a d1324 h1209 (rw_ne h1209 h1217 (by decide))
  have h1329 : oA L τ9 q103 4 := oD_a d1324 h1210 (rw_ne h1210 h1217 (by decide))
  have h1330 : oA L τ9 q164 8 := oD_a d1324 h1211 (rw_ne h1211 h1217 (by decide))
  have h1331 : oA L τ9 q244 5 := oD_a d1324 h1212 (rw_ne h1212 h1217 (by decide))
  have h1332 : oA L τ9 q338 5 := oD_a d1324 h1213 (rw_ne h1213 h1217 (by decide))
  have h1333 : oA L τ9 q452 0 := oD_a d1324 h1214 (rw_ne h1214 h1217 (by decide))
  have h1334 : oA L τ9 q583 7 := oD_a d1324 h1215 (rw_ne h1215 h1217 (by decide))
  have h1335 : oA L τ9 q723 2 := oD_a d1324 h1216 (rw_ne h1216 h1217 (by decide))
  have h1336 : oA L τ9 q870 41 := oD_q d1324 h1217
  have h1337 : oA L τ9 q971 5 := oD_a d1324 h1218 (rw_ne h1218 h1217 (by decide))
  have h1338 : oA L τ9 q1138 5 := oD_a d1324 h1267 (rw_ne h1267 h1217 (by decide))
  have ⟨τ, eτ⟩ : ∃ z, z = τ9 := ⟨_, rfl⟩
  subst eτ
  refine lv_iinc (v := 2) (lv' := [(1, .int 2), (0, .ref a0)]) hx hb dX10_init_162 hl (k := 0) rfl (by decide) (by decide) rfl (fun ls hl => ?_)
  refine lv_goto (tgt := 144) hx hb dX10_init_165 (by decide) ?_
  refine lv_iload_n hx hb dX10_init_144 rfl (lv_at hl 0 rfl) ?_
  refine lv_iconst (v := 2) hx hb dX10_init_145 (by decide) ?_
  refine lv_icmp_ge (tgt := 168) hx hb dX10_init_146 (by decide) (fun c1339 => ?_) (fun c1339 => ?_)
  rotate_left
  · exact absurd (show (2 : Int32) ≤ 2 by decide) c1339
  refine lv_aload_n hx hb dX10_init_168 rfl (lv_at hl 1 rfl) ?_
  refine o_getK cx hw 9 0 rfl fiX10 h1325 (by decide) rfl (by decide) rfl rfl k_f_X10_10 (j := 576) rfl k1311 dX10_init_169 ?_
  refine va_ldcS hx hb hown cx.2.2.2.1.1 dX10_init_172 ?_
  refine o_cv hw (oRunV cx hA hw q_X7_tell k_m_X10_85 rfl h1326 (by decide) (As := [.ref (K.1 0)]) (c_X7_tell q3 h1326) (by decide) rfl hl.1 rfl (Nat.le_of_ble_eq_true rfl) dX10_init_174 (by decide)) (fun σ1340 H locs hp hw => ?_)
  obtain ⟨f1342_0, f1342_1⟩ := hp
  have k1343 : σ1340.1 587 a0 = 0 := (kp_c f1342_0 (by decide)).trans k1270
  have k1344 : σ1340.1 588 a0 = 0 := (kp_c f1342_0 (by decide)).trans k1271
  have k1345 : σ1340.1 386 q3 = 0 := (kp_c f1342_0 (by decide)).trans k1273
  have k1346 : σ1340.1 387 q3 = 80 := (kp_c f1342_0 (by decide)).trans k1274
  have k1347 : σ1340.1 193 q25 = 0 := (kp_c f1342_0 (by decide)).trans k1275
  have k1348 : σ1340.1 64 q59 = 0 := (kp_c f1342_0 (by decide)).trans k1276
  have k1349 : σ1340.1 65 q59 = 0 := (kp_c f1342_0 (by decide)).trans k1277
  have k1350 : σ1340.1 66 q59 = 0 := (kp_c f1342_0 (by decide)).trans k1278
  have k1351 : σ1340.1 257 q103 = 0 := (kp_c f1342_0 (by decide)).trans k1279
  have k1352 : σ1340.1 259 q103 = 0 := (kp_c f1342_0 (by decide)).trans k1280
  have k1353 : σ1340.1 261 q103 = 0 := (kp_c f1342_0 (by decide)).trans k1281
  have k1354 : σ1340.1 263 q103 = 0 := (kp_c f1342_0 (by decide)).trans k1282
  have k1355 : σ1340.1 264 q103 = 0 := (kp_c f1342_0 (by decide)).trans k1283
  have k1356 : σ1340.1 265 q103 = 0 := (kp_c f1342_0 (by decide)).trans k1284
  have k1357 : σ1340.1 514 q164 = 12 := (kp_c f1342_0 (by decide)).trans k1285
  have k1358 : σ1340.1 515 q164 = 6 := (kp_c f1342_0 (by decide)).trans k1286
  have k1359 : σ1340.1 327 q244 = 0 := (kp_c f1342_0 (by decide)).trans k1287
  have k1360 : σ1340.1 328 q244 = 0 := (kp_c f1342_0 (by decide)).trans k1288
  have k1361 : σ1340.1 329 q244 = 0 := (kp_c f1342_0 (by decide)).trans k1289
  have k1362 : σ1340.1 330 q244 = 0 := (kp_c f1342_0 (by decide)).trans k1290
  have k1363 : σ1340.1 331 q244 = 0 := (kp_c f1342_0 (by decide)).trans k1291
  have k1364 : σ1340.1 327 q338 = 0 := (kp_c f1342_0 (by decide)).trans k1292
  have k1365 : σ1340.1 328 q338 = 0 := (kp_c f1342_0 (by decide)).trans k1293
  have k1366 : σ1340.1 329 q338 = 0 := (kp_c f1342_0 (by decide)).trans k1294
  have k1367 : σ1340.1 330 q338 = 0 := (kp_c f1342_0 (by decide)).trans k1295
  have k1368 : σ1340.1 331 q338 = 0 := (kp_c f1342_0 (by decide)).trans k1296
  have k1369 : σ1340.1 6 q452 = 0 := (kp_c f1342_0 (by decide)).trans k1297
  have k1370 : σ1340.1 7 q452 = 0 := (kp_c f1342_0 (by decide)).trans k1298
  have k1371 : σ1340.1 129 q723 = 0 := (kp_c f1342_0 (by decide)).trans k1299
  have k1372 : σ1340.1 130 q723 = 0 := (kp_c f1342_0 (by decide)).trans k1300
  have k1373 : σ1340.1 327 q971 = 0 := (kp_c f1342_0 (by decide)).trans k1301
  have k1374 : σ1340.1 328 q971 = 0 := (kp_c f1342_0 (by decide)).trans k1302
  have k1375 : σ1340.1 329 q971 = 0 := (kp_c f1342_0 (by decide)).trans k1303
  have k1376 : σ1340.1 330 q971 = 0 := (kp_c f1342_0 (by decide)).trans k1304
  have k1377 : σ1340.1 331 q971 = 0 := (kp_c f1342_0 (by decide)).trans k1305
  have k1378 : σ1340.1 327 q1138 = 0 := (kp_c f1342_0 (by decide)).trans k1306
  have k1379 : σ1340.1 328 q1138 = 0 := (kp_c f1342_0 (by decide)).trans k1307
  have k1380 : σ1340.1 329 q1138 = 0 := (kp_c f1342_0 (by decide)).trans k1308
  have k1381 : σ1340.1 330 q1138 = 0 := (kp_c f1342_0 (by decide)).trans k1309
  have k1382 : σ1340.1 331 q1138 = 0 := (kp_c f1342_0 (by decide)).trans k1310
  have k1383 : σ1340.2.2.2.2 576 a0 = some q3 := (kr_c f1342_0 (by decide)).trans k1311
  have k1384 : σ1340.2.2.2.2 577 a0 = some q25 := (kr_c f1342_0 (by decide)).trans k1312
  have k1385 : σ1340.2.2.2.2 578 a0 = some q59 := (kr_c f1342_0 (by decide)).trans k1313
  have k1386 : σ1340.2.2.2.2 579 a0 = some q103 := (kr_c f1342_0 (by decide)).trans k1314
  have k1387 : σ1340.2.2.2.2 580 a0 = some q164 := (kr_c f1342_0 (by decide)).trans k1315
  have k1388 : σ1340.2.2.2.2 581 a0 = some q244 := (kr_c f1342_0 (by decide)).trans k1316
  have k1389 : σ1340.2.2.2.2 582 a0 = some q338 := (kr_c f1342_0 (by decide)).trans k1317
  have k1390 : σ1340.2.2.2.2 583 a0 = some q452 := (kr_c f1342_0 (by decide)).trans k1318
  have k1391 : σ1340.2.2.2.2 584 a0 = some q583 := (kr_c f1342_0 (by decide)).trans k1319
  have k1392 : σ1340.2.2.2.2 585 a0 = some q723 := (kr_c f1342_0 (by decide)).trans k1320
  have k1393 : σ1340.2.2.2.2 586 a0 = some q870 := (kr_c f1342_0 (by decide)).trans k1321
  have k1394 : σ1340.2.2.2.2 4096 q870 = some q971 := (kr_c f1342_0 (by decide)).trans k1322
  have k1395 : σ1340.2.2.2.2 4097 q870 = some q1138 := (kr_c f1342_0 (by decide)).trans k1323
  have hq := hq_c hq f1342_0 (by decide)
  refine lv_aload_n hx hb dX10_init_177 rfl (lv_at hl 1 rfl) ?_
  refine o_getK cx hw 9 3 rfl fiX10 h1325 (by decide) rfl (by decide) rfl rfl k_f_X10_33 (j := 579) rfl k1386 dX10_init_178 ?_
  refine lv_aload_n hx hb dX10_init_181 rfl (lv_at hl 1 rfl) ?_
  refine o_getK cx hw 9 0 rfl fiX10 h1325 (by decide) rfl (by decide) rfl rfl k_f_X10_10 (j := 576) rfl k1383 dX10_init_182 ?_
  refine o_ci hw (oRunV cx hA hw q_X5_learn k_m_X10_89 rfl h1329 (by decide) (As := [.ref q3]) (c_X5_learn q103 h1329 q3 h1326) (by decide) rfl hl.1 rfl (Nat.le_of_ble_eq_true rfl) dX10_init_185 (by decide)) (fun v1397 σ1396 H locs hp hw => ?_)
  obtain ⟨f1398_0, f1398_1⟩ := hp
  have k1399 : σ1396.1 587 a0 = 0 := (kp_c f1398_0 (by decide)).trans k1343
  have k1400 : σ1396.1 588 a0 = 0 := (kp_c f1398_0 (by decide)).trans k1344
  have k1401 : σ1396.1 193 q25 = 0 := (kp_c f1398_0 (by decide)).trans k1347
  have k1402 : σ1396.1 64 q59 = 0 := (kp_c f1398_0 (by decide)).trans k1348
  have k1403 : σ1396.1 65 q59 = 0 := (kp_c f1398_0 (by decide)).trans k1349
  have k1404 : σ1396.1 66 q59 = 0 := (kp_c f1398_0 (by decide)).trans k1350
  have k1405 : σ1396.1 514 q164 = 12 := (kp_c f1398_0 (by decide)).trans k1357
  have k1406 : σ1396.1 515 q164 = 6 := (kp_c f1398_0 (by decide)).trans k1358
  have k1407 : σ1396.1 327 q244 = 0 := (kp_c f1398_0 (by decide)).trans k1359
  have k1408 : σ1396.1 328 q244 = 0 := (kp_c f1398_0 (by decide)).trans k1360
  have k1409 : σ1396.1 329 q244 = 0 := (kp_c f1398_0 (by decide)).trans k1361
  have k1410 : σ1396.1 330 q244 = 0 := (kp_c f1398_0 (by decide)).trans k1362
  have k1411 : σ1396.1 331 q244 = 0 := (kp_c f1398_0 (by decide)).trans k1363
  have k1412 : σ1396.1 327 q338 = 0 := (kp_c f1398_0 (by decide)).trans k1364
  have k1413 : σ1396.1 328 q338 = 0 := (kp_c f1398_0 (by decide)).trans k1365
  have k1414 : σ1396.1 329 q338 = 0 := (kp_c f1398_0 (by decide)).trans k1366
  have k1415 : σ1396.1 330 q338 = 0 := (kp_c f1398_0 (by decide)).trans k1367
  have k1416 : σ1396.1 331 q338 = 0 := (kp_c f1398_0 (by decide)).trans k1368
  have k1417 : σ1396.1 6 q452 = 0 := (kp_c f1398_0 (by decide)).trans k1369
  have k1418 : σ1396.1 7 q452 = 0 := (kp_c f1398_0 (by decide)).trans k1370
  have k1419 : σ1396.1 129 q723 = 0 := (kp_c f1398_0 (by decide)).trans k1371
  have k1420 : σ1396.1 130 q723 = 0 := (kp_c f1398_0 (by decide)).trans k1372
  have k1421 : σ1396.1 327 q971 = 0 := (kp_c f1398_0 (by decide)).trans k1373
  have k1422 : σ1396.1 328 q971 = 0 := (kp_c f1398_0 (by decide)).trans k1374
  have k1423 : σ1396.1 329 q971 = 0 := (kp_c f1398_0 (by decide)).trans k1375
  have k1424 : σ1396.1 330 q971 = 0 := (kp_c f1398_0 (by decide)).trans k1376
  have k1425 : σ1396.1 331 q971 = 0 := (kp_c f1398_0 (by decide)).trans k1377
  have k1426 : σ1396.1 327 q1138 = 0 := (kp_c f1398_0 (by decide)).trans k1378
  have k1427 : σ1396.1 328 q1138 = 0 := (kp_c f1398_0 (by decide)).trans k1379
  have k1428 : σ1396.1 329 q1138 = 0 := (kp_c f1398_0 (by decide)).trans k1380
  have k1429 : σ1396.1 330 q1138 = 0 := (kp_c f1398_0 (by decide)).trans k1381
  have k1430 : σ1396.1 331 q1138 = 0 := (kp_c f1398_0 (by decide)).trans k1382
  have k1431 : σ1396.2.2.2.2 576 a0 = some q3 := (kr_c f1398_0 (by decide)).trans k1383
  have k1432 : σ1396.2.2.2.2 577 a0 = some q25 := (kr_c f1398_0 (by decide)).trans k1384
  have k1433 : σ1396.2.2.2.2 578 a0 = some q59 := (kr_c f1398_0 (by decide)).trans k1385
  have k1434 : σ1396.2.2.2.2 579 a0 = some q103 := (kr_c f1398_0 (by decide)).trans k1386
  have k1435 : σ1396.2.2.2.2 580 a0 = some q164 := (kr_c f1398_0 (by decide)).trans k1387
  have k1436 : σ1396.2.2.2.2 581 a0 = some q244 := (kr_c f1398_0 (by decide)).trans k1388
  have k1437 : σ1396.2.2.2.2 582 a0 = some q338 := (kr_c f1398_0 (by decide)).trans k1389
  have k1438 : σ1396.2.2.2.2 583 a0 = some q452 := (kr_c f1398_0 (by decide)).trans k1390
  have k1439 : σ1396.2.2.2.2 584 a0 = some q583 := (kr_c f1398_0 (by decide)).trans k1391
  have k1440 : σ1396.2.2.2.2 585 a0 = some q723 := (kr_c f1398_0 (by decide)).trans k1392
  have k1441 : σ1396.2.2.2.2 586 a0 = some q870 := (kr_c f1398_0 (by decide)).trans k1393
  have k1442 : σ1396.2.2.2.2 4096 q870 = some q971 := (kr_c f1398_0 (by decide)).trans k1394
  have k1443 : σ1396.2.2.2.2 4097 q870 = some q1138 := (kr_c f1398_0 (by decide)).trans k1395
  have hq := hq_c hq f1398_0 (by decide)
  refine lv_pop hx hb dX10_init_188 rfl ?_
  refine lv_aload_n hx hb dX10_init_189 rfl (lv_at hl 1 rfl) ?_
  refine o_getK cx hw 9 0 rfl fiX10 h1325 (by decide) rfl (by decide) rfl rfl k_f_X10_10 (j := 576) rfl k1431 dX10_init_190 ?_
  refine o_cv hw (oRunV cx hA hw q_X7_empty k_m_X10_93 rfl h1326 (by decide) (As := []) (c_X7_empty q3 h1326) (by decide) rfl hl.1 rfl (Nat.le_of_ble_eq_true rfl) dX10_init_193 (by decide)) (fun σ1444 H locs hp hw => ?_)
  obtain ⟨f1446_0, f1446_1⟩ := hp
  have k1447 : σ1444.1 587 a0 = 0 := (kp_c f1446_0 (by decide)).trans k1399
  have k1448 : σ1444.1 588 a0 = 0 := (kp_c f1446_0 (by decide)).trans k1400
  have k1449 : σ1444.1 193 q25 = 0 := (kp_c f1446_0 (by decide)).trans k1401
  have k1450 : σ1444.1 64 q59 = 0 := (kp_c f1446_0 (by decide)).trans k1402
  have k1451 : σ1444.1 65 q59 = 0 := (kp_c f1446_0 (by decide)).trans k1403
  have k1452 : σ1444.1 66 q59 = 0 := (kp_c f1446_0 (by decide)).trans k1404
  have k1453 : σ1444.1 514 q164 = 12 := (kp_c f1446_0 (by decide)).trans k1405
  have k1454 : σ1444.1 515 q164 = 6 := (kp_c f1446_0 (by decide)).trans k1406
  have k1455 : σ1444.1 327 q244 = 0 := (kp_c f1446_0 (by decide)).trans k1407
  have k1456 : σ1444.1 328 q244 = 0 := (kp_c f1446_0 (by decide)).trans k1408
  have k1457 : σ1444.1 329 q244 = 0 := (kp_c f1446_0 (by decide)).trans k1409
  have k1458 : σ1444.1 330 q244 = 0 := (kp_c f1446_0 (by decide)).trans k1410
  have k1459 : σ1444.1 331 q244 = 0 := (kp_c f1446_0 (by decide)).trans k1411
  have k1460 : σ1444.1 327 q338 = 0 := (kp_c f1446_0 (by decide)).trans k1412
  have k1461 : σ1444.1 328 q338 = 0 := (kp_c f1446_0 (by decide)).trans k1413
  have k1462 : σ1444.1 329 q338 = 0 := (kp_c f1446_0 (by decide)).trans k1414
  have k1463 : σ1444.1 330 q338 = 0 := (kp_c f1446_0 (by decide)).trans k1415
  have k1464 : σ1444.1 331 q338 = 0 := (kp_c f1446_0 (by decide)).trans k1416
  have k1465 : σ1444.1 6 q452 = 0 := (kp_c f1446_0 (by decide)).trans k1417
  have k1466 : σ1444.1 7 q452 = 0 := (kp_c f1446_0 (by decide)).trans k1418
  have k1467 : σ1444.1 129 q723 = 0 := (kp_c f1446_0 (by decide)).trans k1419
  have k1468 : σ1444.1 130 q723 = 0 := (kp_c f1446_0 (by decide)).trans k1420
  have k1469 : σ1444.1 327 q971 = 0 := (kp_c f1446_0 (by decide)).trans k1421
  have k1470 : σ1444.1 328 q971 = 0 := (kp_c f1446_0 (by decide)).trans k1422
  have k1471 : σ1444.1 329 q971 = 0 := (kp_c f1446_0 (by decide)).trans k1423
  have k1472 : σ1444.1 330 q971 = 0 := (kp_c f1446_0 (by decide)).trans k1424
  have k1473 : σ1444.1 331 q971 = 0 := (kp_c f1446_0 (by decide)).trans k1425
  have k1474 : σ1444.1 327 q1138 = 0 := (kp_c f1446_0 (by decide)).trans k1426
  have k1475 : σ1444.1 328 q1138 = 0 := (kp_c f1446_0 (by decide)).trans k1427
  have k1476 : σ1444.1 329 q1138 = 0 := (kp_c f1446_0 (by decide)).trans k1428
  have k1477 : σ1444.1 330 q1138 = 0 := (kp_c f1446_0 (by decide)).trans k1429
  have k1478 : σ1444.1 331 q1138 = 0 := (kp_c f1446_0 (by decide)).trans k1430
  have k1479 : σ1444.2.2.2.2 576 a0 = some q3 := (kr_c f1446_0 (by decide)).trans k1431
  have k1480 : σ1444.2.2.2.2 577 a0 = some q25 := (kr_c f1446_0 (by decide)).trans k1432
  have k1481 : σ1444.2.2.2.2 578 a0 = some q59 := (kr_c f1446_0 (by decide)).trans k1433
  have k1482 : σ1444.2.2.2.2 579 a0 = some q103 := (kr_c f1446_0 (by decide)).trans k1434
  have k1483 : σ1444.2.2.2.2 580 a0 = some q164 := (kr_c f1446_0 (by decide)).trans k1435
  have k1484 : σ1444.2.2.2.2 581 a0 = some q244 := (kr_c f1446_0 (by decide)).trans k1436
  have k1485 : σ1444.2.2.2.2 582 a0 = some q338 := (kr_c f1446_0 (by decide)).trans k1437
  have k1486 : σ1444.2.2.2.2 583 a0 = some q452 := (kr_c f1446_0 (by decide)).trans k1438
  have k1487 : σ1444.2.2.2.2 584 a0 = some q583 := (kr_c f1446_0 (by decide)).trans k1439
  have k1488 : σ1444.2.2.2.2 585 a0 = some q723 := (kr_c f1446_0 (by decide)).trans k1440
  have k1489 : σ1444.2.2.2.2 586 a0 = some q870 := (kr_c f1446_0 (by decide)).trans k1441
  have k1490 : σ1444.2.2.2.2 4096 q870 = some q971 := (kr_c f1446_0 (by decide)).trans k1442
  have k1491 : σ1444.2.2.2.2 4097 q870 = some q1138 := (kr_c f1446_0 (by decide)).trans k1443
  have hq := hq_c hq f1446_0 (by decide)
  have k1492 : σ1444.1 385 q3 = 0 := i32_eq (by have q1 := f1446_1.1; have q2 := f1446_1.2; have q3 : (0 : Int32).toInt = 0 := (by decide); omega)
  obtain ⟨τ9, d9⟩ : ∃ τ9, oD τ a0 9 τ9 := ⟨_, rfl⟩
  have hw := oD_I d9 hw h1325 (Or.inl ⟨by decide, by decide, rfl⟩) (mb_9 (f := fun j => σ1444.1 j a0) ) (fun i => oRb_lo (by decide)) (tg_9 (P := fun j t2 => ∃ b, σ1444.2.2.2.2 j a0 = some b ∧ oA L τ b t2 ∧ b ≠ a0) ⟨q3, k1479, h1326, rw_ne h1326 h1325 (by decide)⟩ ⟨q25, k1480, h1327, rw_ne h1327 h1325 (by decide)⟩ ⟨q59, k1481, h1328, rw_ne h1328 h1325 (by decide)⟩ ⟨q103, k1482, h1329, rw_ne h1329 h1325 (by decide)⟩ ⟨q164, k1483, h1330, rw_ne h1330 h1325 (by decide)⟩ ⟨q244, k1484, h1331, rw_ne h1331 h1325 (by decide)⟩ ⟨q338, k1485, h1332, rw_ne h1332 h1325 (by decide)⟩ ⟨q452, k1486, h1333, rw_ne h1333 h1325 (by decide)⟩ ⟨q583, k1487, h1334, rw_ne h1334 h1325 (by decide)⟩ ⟨q723, k1488, h1335, rw_ne h1335 h1325 (by decide)⟩ ⟨q870, k1489, h1336, rw_ne h1336 h1325 (by decide)⟩) (oTg_no (by decide))
  have hq := hq_d hq d9 h1325 (by decide)
  rw [← hQ]
  refine W.widen (k := 143) (n := 5804) (by decide) (by decide) ?_
  exact o_rI cx rx hw dX10_init_196 ⟨(oD_q d9 h1325).1, (oD_q d9 h1325).2, ⟨q3, k1479, k1492⟩, ⟨q164, k1483, k1453, k1454⟩, ⟨q244, k1484, k1455, k1457, k1458, k1459⟩, ⟨q59, k1481, k1450, k1451⟩, ⟨q25, k1480, k1449⟩, ⟨q723, k1488, k1468⟩, k1447, k1448, hq⟩
end OM
