section OM
variable {l : Launch} {A : Nat → Prop} {L : List Nat} {τ : Nat → Nat} {cy : Nat → ClassId} {D : va_G} {K : (Nat → Nat) × (Nat → Nat)} {σ : oSt}
set_option maxHeartbeats 4000000 in
set_option maxRecDepth 100000 in
theorem c_X6_init (a0 : Nat) (ha0 : oA L τ a0 21) (hz : ∀ j, σ.1 j a0 = 0) (hzl : ∀ j, σ.2.1 j a0 = 0) (hq : HQ L τ σ) : oMetI l A L τ cy D K yX6_init cX6_init 1 1 60 7 332 [.ref a0] σ (va_Qv (fun u : oW3 => oX L τ σ a0 u.1 u.2.1 u.2.2 ∧ u.2.1 a0 = 5 ∧ u.2.2.1 327 a0 = 0 ∧ u.2.2.1 328 a0 = 0 ∧ u.2.2.1 329 a0 = 0 ∧ u.2.2.1 330 a0 = 0 ∧ u.2.2.1 331 a0 = 0 ∧ HQ u.1 u.2.1 u.2.2) (oPo3 A cy D) A) := by
  refine oMkI (by decide) (Nat.le_of_ble_eq_true rfl) rfl rfl ?_
  intro p e s m args below meth c ls cx rx hin hA hw hl
  generalize hQ : MQ below _ args s 7 332 A = Q
  have hx := cx.1.1
  have hb := cx.1.2.1
  have hml := cx.1.2.2.1
  have hown := cx.1.2.2.2.1
  have hts := cx.1.2.2.2.2
  have hl : lv_has ls 1 [(0, .ref a0)] := hl
  have k1 : σ.1 327 a0 = 0 := hz 327
  have k2 : σ.1 328 a0 = 0 := hz 328
  have k3 : σ.1 329 a0 = 0 := hz 329
  have k4 : σ.1 330 a0 = 0 := hz 330
  have k5 : σ.1 331 a0 = 0 := hz 331
  have ox : oX L τ σ a0 L τ σ := oX_rf
  refine lv_aload_n hx hb dX6_init_0 rfl (lv_at hl 0 rfl) ?_
  refine W.objInit hx hb hown (hts _ k_m_X6_3) (hts _ k_oi) (hts _ k_oc) rfl (by rw [hml]; exact hl.1) rfl dX6_init_1 (Nat.le_of_ble_eq_true rfl) (Nat.le_of_ble_eq_true rfl) ?_
  show W p l e _ s m args below meth c _ _ _ _ Q (F0 m 4 ls [])
  refine lv_aload_n hx hb dX6_init_4 rfl (lv_at hl 0 rfl) ?_
  refine lv_bipush (v := 64) hx hb dX6_init_5 (by decide) ?_
  refine o_newi cx hA hw 32 (by decide) (fun _ => rfl) (atype := .int) (ty := .int) rfl k_a_int rfl (fun _ => rfl) (by decide) (by decide) (fun _ => rfl) (by decide) (by decide) (by decide) (by decide) (by decide) dX6_init_7 (fun q6 L τ σ8 H g7 hw => ?_)
  have h9 : oA L τ a0 21 := oG_a g7 ha0
  have k10 : σ8.1 327 a0 = 0 := (oG_i g7 ha0).trans k1
  have k11 : σ8.1 328 a0 = 0 := (oG_i g7 ha0).trans k2
  have k12 : σ8.1 329 a0 = 0 := (oG_i g7 ha0).trans k3
  have k13 : σ8.1 330 a0 = 0 := (oG_i g7 ha0).trans k4
  have k14 : σ8.1 331 a0 = 0 := (oG_i g7 ha0).trans k5
  have hq := hq_g hq g7
  have h15 : oA L τ q6 32 := oG_q g7
  have n16 := oX_new ox g7
  have ox := oX_g ox g7
  refine o_putrF cx hw 5 0 rfl fiX6 tyX6 tyX6_ok nmX6 h9 (by decide) (by decide) rfl (by decide) rfl rfl rfl rfl hin rfl rfl k_f_X6_9 dX6_init_9 (fun σ18 H locs e17 hw => ?_)
  have k19 : σ18.1 327 a0 = 0 := (kp_r e17).trans k10
  have k20 : σ18.1 328 a0 = 0 := (kp_r e17).trans k11
  have k21 : σ18.1 329 a0 = 0 := (kp_r e17).trans k12
  have k22 : σ18.1 330 a0 = 0 := (kp_r e17).trans k13
  have k23 : σ18.1 331 a0 = 0 := (kp_r e17).trans k14
  have k24 : σ18.2.2.2.2 320 a0 = some q6 := kr_s e17
  have ox := oX_ra ox e17
  have hq := hq_r hq e17
  refine lv_aload_n hx hb dX6_init_12 rfl (lv_at hl 0 rfl) ?_
  refine lv_bipush (v := 64) hx hb dX6_init_13 (by decide) ?_
  refine o_newi cx hA hw 32 (by decide) (fun _ => rfl) (atype := .int) (ty := .int) rfl k_a_int rfl (fun _ => rfl) (by decide) (by decide) (fun _ => rfl) (by decide) (by decide) (by decide) (by decide) (by decide) dX6_init_15 (fun q25 L τ σ27 H g26 hw => ?_)
  have h28 : oA L τ a0 21 := oG_a g26 h9
  have h29 : oA L τ q6 32 := oG_a g26 h15
  have k30 : σ27.1 327 a0 = 0 := (oG_i g26 h9).trans k19
  have k31 : σ27.1 328 a0 = 0 := (oG_i g26 h9).trans k20
  have k32 : σ27.1 329 a0 = 0 := (oG_i g26 h9).trans k21
  have k33 : σ27.1 330 a0 = 0 := (oG_i g26 h9).trans k22
  have k34 : σ27.1 331 a0 = 0 := (oG_i g26 h9).trans k23
  have k35 : σ27.2.2.2.2 320 a0 = some q6 := (oG_r g26 h9).trans k24
  have hq := hq_g hq g26
  have h36 : oA L τ q25 32 := oG_q g26
  have n37 := oX_new ox g26
  have ox := oX_g ox g26
  refine o_putrF cx hw 5 1 rfl fiX6 tyX6 tyX6_ok nmX6 h28 (by decide) (by decide) rfl (by decide) rfl rfl rfl rfl hin rfl rfl k_f_X6_15 dX6_init_17 (fun σ39 H locs e38 hw => ?_)
  have k40 : σ39.1 327 a0 = 0 := (kp_r e38).trans k30
  have k41 : σ39.1 328 a0 = 0 := (kp_r e38).trans k31
  have k42 : σ39.1 329 a0 = 0 := (kp_r e38).trans k32
  have k43 : σ39.1 330 a0 = 0 := (kp_r e38).trans k33
  have k44 : σ39.1 331 a0 = 0 := (kp_r e38).trans k34
  have k45 : σ39.2.2.2.2 320 a0 = some q6 := (kr_r e38 (by decide)).trans k35
  have k46 : σ39.2.2.2.2 321 a0 = some q25 := kr_s e38
  have ox := oX_ra ox e38
  have hq := hq_r hq e38
  refine lv_aload_n hx hb dX6_init_20 rfl (lv_at hl 0 rfl) ?_
  refine lv_bipush (v := 64) hx hb dX6_init_21 (by decide) ?_
  refine o_newi cx hA hw 32 (by decide) (fun _ => rfl) (atype := .int) (ty := .int) rfl k_a_int rfl (fun _ => rfl) (by decide) (by decide) (fun _ => rfl) (by decide) (by decide) (by decide) (by decide) (by decide) dX6_init_23 (fun q47 L τ σ49 H g48 hw => ?_)
  have h50 : oA L τ a0 21 := oG_a g48 h28
  have h51 : oA L τ q6 32 := oG_a g48 h29
  have h52 : oA L τ q25 32 := oG_a g48 h36
  have k53 : σ49.1 327 a0 = 0 := (oG_i g48 h28).trans k40
  have k54 : σ49.1 328 a0 = 0 := (oG_i g48 h28).trans k41
  have k55 : σ49.1 329 a0 = 0 := (oG_i g48 h28).trans k42
  have k56 : σ49.1 330 a0 = 0 := (oG_i g48 h28).trans k43
  have k57 : σ49.1 331 a0 = 0 := (oG_i g48 h28).trans k44
  have k58 : σ49.2.2.2.2 320 a0 = some q6 := (oG_r g48 h28).trans k45
  have k59 : σ49.2.2.2.2 321 a0 = some q25 := (oG_r g48 h28).trans k46
  have hq := hq_g hq g48
  have h60 : oA L τ q47 32 := oG_q g48
  have n61 := oX_new ox g48
  have ox := oX_g ox g48
  refine o_putrF cx hw 5 2 rfl fiX6 tyX6 tyX6_ok nmX6 h50 (by decide) (by decide) rfl (by decide) rfl rfl rfl rfl hin rfl rfl k_f_X6_18 dX6_init_25 (fun σ63 H locs e62 hw => ?_)
  have k64 : σ63.1 327 a0 = 0 := (kp_r e62).trans k53
  have k65 : σ63.1 328 a0 = 0 := (kp_r e62).trans k54
  have k66 : σ63.1 329 a0 = 0 := (kp_r e62).trans k55
  have k67 : σ63.1 330 a0 = 0 := (kp_r e62).trans k56
  have k68 : σ63.1 331 a0 = 0 := (kp_r e62).trans k57
  have k69 : σ63.2.2.2.2 320 a0 = some q6 := (kr_r e62 (by decide)).trans k58
  have k70 : σ63.2.2.2.2 321 a0 = some q25 := (kr_r e62 (by decide)).trans k59
  have k71 : σ63.2.2.2.2 322 a0 = some q47 := kr_s e62
  have ox := oX_ra ox e62
  have hq := hq_r hq e62
  refine lv_aload_n hx hb dX6_init_28 rfl (lv_at hl 0 rfl) ?_
  refine lv_bipush (v := 64) hx hb dX6_init_29 (by decide) ?_
  refine o_newi cx hA hw 71 (by decide) (fun _ => rfl) (atype := .int) (ty := .int) rfl k_a_int rfl (fun _ => rfl) (by decide) (by decide) (fun _ => rfl) (by decide) (by decide) (by decide) (by decide) (by decide) dX6_init_31 (fun q72 L τ σ74 H g73 hw => ?_)
  have h75 : oA L τ a0 21 := oG_a g73 h50
  have h76 : oA L τ q6 32 := oG_a g73 h51
  have h77 : oA L τ q25 32 := oG_a g73 h52
  have h78 : oA L τ q47 32 := oG_a g73 h60
  have k79 : σ74.1 327 a0 = 0 := (oG_i g73 h50).trans k64
  have k80 : σ74.1 328 a0 = 0 := (oG_i g73 h50).trans k65
  have k81 : σ74.1 329 a0 = 0 := (oG_i g73 h50).trans k66
  have k82 : σ74.1 330 a0 = 0 := (oG_i g73 h50).trans k67
  have k83 : σ74.1 331 a0 = 0 := (oG_i g73 h50).trans k68
  have k84 : σ74.2.2.2.2 320 a0 = some q6 := (oG_r g73 h50).trans k69
  have k85 : σ74.2.2.2.2 321 a0 = some q25 := (oG_r g73 h50).trans k70
  have k86 : σ74.2.2.2.2 322 a0 = some q47 := (oG_r g73 h50).trans k71
  have hq := hq_g hq g73
  have h87 : oA L τ q72 71 := oG_q g73
  have n88 := oX_new ox g73
  have ox := oX_g ox g73
  refine o_putrF cx hw 5 3 rfl fiX6 tyX6 tyX6_ok nmX6 h75 (by decide) (by decide) rfl (by decide) rfl rfl rfl rfl hin rfl rfl k_f_X6_21 dX6_init_33 (fun σ90 H locs e89 hw => ?_)
  have k91 : σ90.1 327 a0 = 0 := (kp_r e89).trans k79
  have k92 : σ90.1 328 a0 = 0 := (kp_r e89).trans k80
  have k93 : σ90.1 329 a0 = 0 := (kp_r e89).trans k81
  have k94 : σ90.1 330 a0 = 0 := (kp_r e89).trans k82
  have k95 : σ90.1 331 a0 = 0 := (kp_r e89).trans k83
  have k96 : σ90.2.2.2.2 320 a0 = some q6 := (kr_r e89 (by decide)).trans k84
  have k97 : σ90.2.2.2.2 321 a0 = some q25 := (kr_r e89 (by decide)).trans k85
  have k98 : σ90.2.2.2.2 322 a0 = some q47 := (kr_r e89 (by decide)).trans k86
  have k99 : σ90.2.2.2.2 323 a0 = some q72 := kr_s e89
  have ox := oX_ra ox e89
  have hq := hq_r hq e89
  refine lv_aload_n hx hb dX6_init_36 rfl (lv_at hl 0 rfl) ?_
  refine lv_bipush (v := 64) hx hb dX6_init_37 (by decide) ?_
  refine o_newi cx hA hw 71 (by decide) (fun _ => rfl) (atype := .int) (ty := .int) rfl k_a_int rfl (fun _ => rfl) (by decide) (by decide) (fun _ => rfl) (by decide) (by decide) (by decide) (by decide) (by decide) dX6_init_39 (fun q100 L τ σ102 H g101 hw => ?_)
  have h103 : oA L τ a0 21 := oG_a g101 h75
  have h104 : oA L τ q6 32 := oG_a g101 h76
  have h105 : oA L τ q25 32 := oG_a g101 h77
  have h106 : oA L τ q47 32 := oG_a g101 h78
  have h107 : oA L τ q72 71 := oG_a g101 h87
  have k108 : σ102.1 327 a0 = 0 := (oG_i g101 h75).trans k91
  have k109 : σ102.1 328 a0 = 0 := (oG_i g101 h75).trans k92
  have k110 : σ102.1 329 a0 = 0 := (oG_i g101 h75).trans k93
  have k111 : σ102.1 330 a0 = 0 := (oG_i g101 h75).trans k94
  have k112 : σ102.1 331 a0 = 0 := (oG_i g101 h75).trans k95
  have k113 : σ102.2.2.2.2 320 a0 = some q6 := (oG_r g101 h75).trans k96
  have k114 : σ102.2.2.2.2 321 a0 = some q25 := (oG_r g101 h75).trans k97
  have k115 : σ102.2.2.2.2 322 a0 = some q47 := (oG_r g101 h75).trans k98
  have k116 : σ102.2.2.2.2 323 a0 = some q72 := (oG_r g101 h75).trans k99
  have hq := hq_g hq g101
  have ne117 : q72 ≠ q100 := oG_ne g101 h87
  have h118 : oA L τ q100 71 := oG_q g101
  have n119 := oX_new ox g101
  have ox := oX_g ox g101
  refine o_putrF cx hw 5 4 rfl fiX6 tyX6 tyX6_ok nmX6 h103 (by decide) (by decide) rfl (by decide) rfl rfl rfl rfl hin rfl rfl k_f_X6_24 dX6_init_41 (fun σ121 H locs e120 hw => ?_)
  have k122 : σ121.1 327 a0 = 0 := (kp_r e120).trans k108
  have k123 : σ121.1 328 a0 = 0 := (kp_r e120).trans k109
  have k124 : σ121.1 329 a0 = 0 := (kp_r e120).trans k110
  have k125 : σ121.1 330 a0 = 0 := (kp_r e120).trans k111
  have k126 : σ121.1 331 a0 = 0 := (kp_r e120).trans k112
  have k127 : σ121.2.2.2.2 320 a0 = some q6 := (kr_r e120 (by decide)).trans k113
  have k128 : σ121.2.2.2.2 321 a0 = some q25 := (kr_r e120 (by decide)).trans k114
  have k129 : σ121.2.2.2.2 322 a0 = some q47 := (kr_r e120 (by decide)).trans k115
  have k130 : σ121.2.2.2.2 323 a0 = some q72 := (kr_r e120 (by decide)).trans k116
  have k131 : σ121.2.2.2.2 324 a0 = some q100 := kr_s e120
  have ox := oX_ra ox e120
  have hq := hq_r hq e120
  refine lv_aload_n hx hb dX6_init_44 rfl (lv_at hl 0 rfl) ?_
  refine lv_bipush (v := 6) hx hb dX6_init_45 (by decide) ?_
  refine o_newi cx hA hw 33 (by decide) (fun _ => rfl) (atype := .int) (ty := .int) rfl k_a_int rfl (fun _ => rfl) (by decide) (by decide) (fun _ => rfl) (by decide) (by decide) (by decide) (by decide) (by decide) dX6_init_47 (fun q132 L τ σ134 H g133 hw => ?_)
  have h135 : oA L τ a0 21 := oG_a g133 h103
  have h136 : oA L τ q6 32 := oG_a g133 h104
  have h137 : oA L τ q25 32 := oG_a g133 h105
  have h138 : oA L τ q47 32 := oG_a g133 h106
  have h139 : oA L τ q72 71 := oG_a g133 h107
  have h140 : oA L τ q100 71 := oG_a g133 h118
  have k141 : σ134.1 327 a0 = 0 := (oG_i g133 h103).trans k122
  have k142 : σ134.1 328 a0 = 0 := (oG_i g133 h103).trans k123
  have k143 : σ134.1 329 a0 = 0 := (oG_i g133 h103).trans k124
  have k144 : σ134.1 330 a0 = 0 := (oG_i g133 h103).trans k125
  have k145 : σ134.1 331 a0 = 0 := (oG_i g133 h103).trans k126
  have k146 : σ134.2.2.2.2 320 a0 = some q6 := (oG_r g133 h103).trans k127
  have k147 : σ134.2.2.2.2 321 a0 = some q25 := (oG_r g133 h103).trans k128
  have k148 : σ134.2.2.2.2 322 a0 = some q47 := (oG_r g133 h103).trans k129
  have k149 : σ134.2.2.2.2 323 a0 = some q72 := (oG_r g133 h103).trans k130
  have k150 : σ134.2.2.2.2 324 a0 = some q100 := (oG_r g133 h103).trans k131
  have hq := hq_g hq g133
  have h151 : oA L τ q132 33 := oG_q g133
  have n152 := oX_new ox g133
  have ox := oX_g ox g133
  refine o_putrF cx hw 5 5 rfl fiX6 tyX6 tyX6_ok nmX6 h135 (by decide) (by decide) rfl (by decide) rfl rfl rfl rfl hin rfl rfl k_f_X6_27 dX6_init_49 (fun σ154 H locs e153 hw => ?_)
  have k155 : σ154.1 327 a0 = 0 := (kp_r e153).trans k141
  have k156 : σ154.1 328 a0 = 0 := (kp_r e153).trans k142
  have k157 : σ154.1 329 a0 = 0 := (kp_r e153).trans k143
  have k158 : σ154.1 330 a0 = 0 := (kp_r e153).trans k144
  have k159 : σ154.1 331 a0 = 0 := (kp_r e153).trans k145
  have k160 : σ154.2.2.2.2 320 a0 = some q6 := (kr_r e153 (by decide)).trans k146
  have k161 : σ154.2.2.2.2 321 a0 = some q25 := (kr_r e153 (by decide)).trans k147
  have k162 : σ154.2.2.2.2 322 a0 = some q47 := (kr_r e153 (by decide)).trans k148
  have k163 : σ154.2.2.2.2 323 a0 = some q72 := (kr_r e153 (by decide)).trans k149
  have k164 : σ154.2.2.2.2 324 a0 = some q100 := (kr_r e153 (by decide)).trans k150
  have k165 : σ154.2.2.2.2 325 a0 = some q132 := kr_s e153
  have ox := oX_ra ox e153
  have hq := hq_r hq e153
  refine lv_aload_n hx hb dX6_init_52 rfl (lv_at hl 0 rfl) ?_
  refine lv_bipush (v := 6) hx hb dX6_init_53 (by decide) ?_
  refine o_newi cx hA hw 34 (by decide) (fun _ => rfl) (atype := .int) (ty := .int) rfl k_a_int rfl (fun _ => rfl) (by decide) (by decide) (fun _ => rfl) (by decide) (by decide) (by decide) (by decide) (by decide) dX6_init_55 (fun q166 L τ σ168 H g167 hw => ?_)
  have h169 : oA L τ a0 21 := oG_a g167 h135
  have h170 : oA L τ q6 32 := oG_a g167 h136
  have h171 : oA L τ q25 32 := oG_a g167 h137
  have h172 : oA L τ q47 32 := oG_a g167 h138
  have h173 : oA L τ q72 71 := oG_a g167 h139
  have h174 : oA L τ q100 71 := oG_a g167 h140
  have h175 : oA L τ q132 33 := oG_a g167 h151
  have k176 : σ168.1 327 a0 = 0 := (oG_i g167 h135).trans k155
  have k177 : σ168.1 328 a0 = 0 := (oG_i g167 h135).trans k156
  have k178 : σ168.1 329 a0 = 0 := (oG_i g167 h135).trans k157
  have k179 : σ168.1 330 a0 = 0 := (oG_i g167 h135).trans k158
  have k180 : σ168.1 331 a0 = 0 := (oG_i g167 h135).trans k159
  have k181 : σ168.2.2.2.2 320 a0 = some q6 := (oG_r g167 h135).trans k160
  have k182 : σ168.2.2.2.2 321 a0 = some q25 := (oG_r g167 h135).trans k161
  have k183 : σ168.2.2.2.2 322 a0 = some q47 := (oG_r g167 h135).trans k162
  have k184 : σ168.2.2.2.2 323 a0 = some q72 := (oG_r g167 h135).trans k163
  have k185 : σ168.2.2.2.2 324 a0 = some q100 := (oG_r g167 h135).trans k164
  have k186 : σ168.2.2.2.2 325 a0 = some q132 := (oG_r g167 h135).trans k165
  have hq := hq_g hq g167
  have h187 : oA L τ q166 34 := oG_q g167
  have n188 := oX_new ox g167
  have ox := oX_g ox g167
  refine o_putrF cx hw 5 6 rfl fiX6 tyX6 tyX6_ok nmX6 h169 (by decide) (by decide) rfl (by decide) rfl rfl rfl rfl hin rfl rfl k_f_X6_30 dX6_init_57 (fun σ190 H locs e189 hw => ?_)
  have k191 : σ190.1 327 a0 = 0 := (kp_r e189).trans k176
  have k192 : σ190.1 328 a0 = 0 := (kp_r e189).trans k177
  have k193 : σ190.1 329 a0 = 0 := (kp_r e189).trans k178
  have k194 : σ190.1 330 a0 = 0 := (kp_r e189).trans k179
  have k195 : σ190.1 331 a0 = 0 := (kp_r e189).trans k180
  have k196 : σ190.2.2.2.2 320 a0 = some q6 := (kr_r e189 (by decide)).trans k181
  have k197 : σ190.2.2.2.2 321 a0 = some q25 := (kr_r e189 (by decide)).trans k182
  have k198 : σ190.2.2.2.2 322 a0 = some q47 := (kr_r e189 (by decide)).trans k183
  have k199 : σ190.2.2.2.2 323 a0 = some q72 := (kr_r e189 (by decide)).trans k184
  have k200 : σ190.2.2.2.2 324 a0 = some q100 := (kr_r e189 (by decide)).trans k185
  have k201 : σ190.2.2.2.2 325 a0 = some q132 := (kr_r e189 (by decide)).trans k186
  have k202 : σ190.2.2.2.2 326 a0 = some q166 := kr_s e189
  have ox := oX_ra ox e189
  have hq := hq_r hq e189
  refine lv_aload_n hx hb dX6_init_60 rfl (lv_at hl 0 rfl) ?_
  refine o_getK cx hw 5 3 rfl fiX6 h169 (by decide) rfl (by decide) rfl rfl k_f_X6_21 (j := 323) rfl k199 dX6_init_61 ?_
  refine lv_iconst (v := (-1)) hx hb dX6_init_64 (by decide) ?_
  refine o_cv hw (oRunS cx hA hw q_J7_fill_53178 k_m_X6_33 (As := [.ref q72, .int (-1)]) (c_J7_fill_53178N q72 h173 (-1) (iv_w (⟨by decide, by decide⟩ : Iv (-1) (-1) (-1)) (by decide))) (by decide) rfl hl.1 rfl (Nat.le_of_ble_eq_true rfl) dX6_init_65 (by decide)) (fun σ203 H locs hp hw => ?_)
  obtain ⟨f205_0, f205_1⟩ := hp
  have k206 : σ203.1 327 a0 = 0 := (kp_c f205_0 (by decide)).trans k191
  have k207 : σ203.1 328 a0 = 0 := (kp_c f205_0 (by decide)).trans k192
  have k208 : σ203.1 329 a0 = 0 := (kp_c f205_0 (by decide)).trans k193
  have k209 : σ203.1 330 a0 = 0 := (kp_c f205_0 (by decide)).trans k194
  have k210 : σ203.1 331 a0 = 0 := (kp_c f205_0 (by decide)).trans k195
  have k211 : σ203.2.2.2.2 320 a0 = some q6 := (kr_c f205_0 (by decide)).trans k196
  have k212 : σ203.2.2.2.2 321 a0 = some q25 := (kr_c f205_0 (by decide)).trans k197
  have k213 : σ203.2.2.2.2 322 a0 = some q47 := (kr_c f205_0 (by decide)).trans k198
  have k214 : σ203.2.2.2.2 323 a0 = some q72 := (kr_c f205_0 (by decide)).trans k199
  have k215 : σ203.2.2.2.2 324 a0 = some q100 := (kr_c f205_0 (by decide)).trans k200
  have k216 : σ203.2.2.2.2 325 a0 = some q132 := (kr_c f205_0 (by decide)).trans k201
  have k217 : σ203.2.2.2.2 326 a0 = some q166 := (kr_c f205_0 (by decide)).trans k202
  have hq := hq_c hq f205_0 (by decide)
  have ox := oX_c ox f205_0
  obtain ⟨τ9, d218⟩ : ∃ τ9, oD τ q72 70 τ9 := ⟨_, rfl⟩
  have hw := oD_I d218 hw h173 (Or.inr ⟨by decide, by decide, rfl, rfl⟩) (fun j hj => oMb_hi (by omega)) (fun i hi => by rw [f205_1 i hi]; exact ⟨by decide, by decide⟩) (fun j t2 hj => by cases hj) oTg_71
  have ox := oX_dn ox d218 n88
  have hq := hq_d hq d218 h173 (by decide)
  have h219 : oA L τ9 a0 21 := oD_a d218 h169 (rw_ne h169 h173 (by decide))
  have h220 : oA L τ9 q6 32 := oD_a d218 h170 (rw_ne h170 h173 (by decide))
  have h221 : oA L τ9 q25 32 := oD_a d218 h171 (rw_ne h171 h173 (by decide))
  have h222 : oA L τ9 q47 32 := oD_a d218 h172 (rw_ne h172 h173 (by decide))
  have h223 : oA L τ9 q72 70 := oD_q d218 h173
  have h224 : oA L τ9 q100 71 := oD_a d218 h174 ((Ne.symm ne117))
  have h225 : oA L τ9 q132 33 := oD_a d218 h175 (rw_ne h175 h173 (by decide))
  have h226 : oA L τ9 q166 34 := oD_a d218 h187 (rw_ne h187 h173 (by decide))
  have ⟨τ, eτ⟩ : ∃ z, z = τ9 := ⟨_, rfl⟩
  subst eτ
  refine lv_aload_n hx hb dX6_init_68 rfl (lv_at hl 0 rfl) ?_
  refine o_getK cx hw 5 4 rfl fiX6 h219 (by decide) rfl (by decide) rfl rfl k_f_X6_24 (j := 324) rfl k215 dX6_init_69 ?_
  refine lv_iconst (v := (-1)) hx hb dX6_init_72 (by decide) ?_
  refine o_cv hw (oRunS cx hA hw q_J7_fill_53178 k_m_X6_33 (As := [.ref q100, .int (-1)]) (c_J7_fill_53178N q100 h224 (-1) (iv_w (⟨by decide, by decide⟩ : Iv (-1) (-1) (-1)) (by decide))) (by decide) rfl hl.1 rfl (Nat.le_of_ble_eq_true rfl) dX6_init_73 (by decide)) (fun σ227 H locs hp hw => ?_)
  obtain ⟨f229_0, f229_1⟩ := hp
  have k230 : σ227.1 327 a0 = 0 := (kp_c f229_0 (by decide)).trans k206
  have k231 : σ227.1 328 a0 = 0 := (kp_c f229_0 (by decide)).trans k207
  have k232 : σ227.1 329 a0 = 0 := (kp_c f229_0 (by decide)).trans k208
  have k233 : σ227.1 330 a0 = 0 := (kp_c f229_0 (by decide)).trans k209
  have k234 : σ227.1 331 a0 = 0 := (kp_c f229_0 (by decide)).trans k210
  have k235 : σ227.2.2.2.2 320 a0 = some q6 := (kr_c f229_0 (by decide)).trans k211
  have k236 : σ227.2.2.2.2 321 a0 = some q25 := (kr_c f229_0 (by decide)).trans k212
  have k237 : σ227.2.2.2.2 322 a0 = some q47 := (kr_c f229_0 (by decide)).trans k213
  have k238 : σ227.2.2.2.2 323 a0 = some q72 := (kr_c f229_0 (by decide)).trans k214
  have k239 : σ227.2.2.2.2 324 a0 = some q100 := (kr_c f229_0 (by decide)).trans k215
  have k240 : σ227.2.2.2.2 325 a0 = some q132 := (kr_c f229_0 (by decide)).trans k216
  have k241 : σ227.2.2.2.2 326 a0 = some q166 := (kr_c f229_0 (by decide)).trans k217
  have hq := hq_c hq f229_0 (by decide)
  have ox := oX_c ox f229_0
  obtain ⟨τ9, d242⟩ : ∃ τ9, oD τ q100 70 τ9 := ⟨_, rfl⟩
  have hw := oD_I d242 hw h224 (Or.inr ⟨by decide, by decide, rfl, rfl⟩) (fun j hj => oMb_hi (by omega)) (fun i hi => by rw [f229_1 i hi]; exact ⟨by decide, by decide⟩) (fun j t2 hj => by cases hj) oTg_71
  have ox := oX_dn ox d242 n119
  have hq := hq_d hq d242 h224 (by decide)
  have h243 : oA L τ9 a0 21 := oD_a d242 h219 (rw_ne h219 h224 (by decide))
  have h244 : oA L τ9 q6 32 := oD_a d242 h220 (rw_ne h220 h224 (by decide))
  have h245 : oA L τ9 q25 32 := oD_a d242 h221 (rw_ne h221 h224 (by decide))
  have h246 : oA L τ9 q47 32 := oD_a d242 h222 (rw_ne h222 h224 (by decide))
  have h247 : oA L τ9 q72 70 := oD_a d242 h223 (rw_ne h223 h224 (by decide))
  have h248 : oA L τ9 q100 70 := oD_q d242 h224
  have h249 : oA L τ9 q132 33 := oD_a d242 h225 (rw_ne h225 h224 (by decide))
  have h250 : oA L τ9 q166 34 := oD_a d242 h226 (rw_ne h226 h224 (by decide))
  have ⟨τ, eτ⟩ : ∃ z, z = τ9 := ⟨_, rfl⟩
  subst eτ
  obtain ⟨τ9, d9⟩ : ∃ τ9, oD τ a0 5 τ9 := ⟨_, rfl⟩
  have hw := oD_I d9 hw h243 (Or.inl ⟨by decide, by decide, rfl⟩) (mb_5 (f := fun j => σ227.1 j a0) (kn_iv k230 ⟨by decide, by decide⟩)) (fun i => oRb_lo (by decide)) (tg_5 (P := fun j t2 => ∃ b, σ227.2.2.2.2 j a0 = some b ∧ oA L τ b t2 ∧ b ≠ a0) ⟨q6, k235, h244, rw_ne h244 h243 (by decide)⟩ ⟨q25, k236, h245, rw_ne h245 h243 (by decide)⟩ ⟨q47, k237, h246, rw_ne h246 h243 (by decide)⟩ ⟨q72, k238, h247, rw_ne h247 h243 (by decide)⟩ ⟨q100, k239, h248, rw_ne h248 h243 (by decide)⟩ ⟨q132, k240, h249, rw_ne h249 h243 (by decide)⟩ ⟨q166, k241, h250, rw_ne h250 h243 (by decide)⟩) (oTg_no (by decide))
  have hq := hq_d hq d9 h243 (by decide)
  rw [← hQ]
  refine W.widen (k := 7) (n := 332) (by decide) (by decide) ?_
  exact o_rI cx rx hw dX6_init_76 ⟨oX_da ox d9, (oD_q d9 h243).2, k230, k231, k232, k233, k234, hq⟩
end OM
