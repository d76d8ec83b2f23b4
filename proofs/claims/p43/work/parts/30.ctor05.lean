section OM
variable {l : Launch} {A : Nat → Prop} {L : List Nat} {τ : Nat → Nat} {cy : Nat → ClassId} {D : va_G} {K : (Nat → Nat) × (Nat → Nat)} {σ : oSt}
set_option maxHeartbeats 4000000 in
set_option maxRecDepth 100000 in
theorem c_X6_init (a0 : Nat) (ha0 : oA L τ a0 21) (hz : ∀ j, σ.1 j a0 = 0) (hzl : ∀ j, σ.2.1 j a0 = 0) : oMetI l A L τ cy D K yX6_init cX6_init 1 1 60 7 332 [.ref a0] σ (va_Qv (fun u : oW3 => oX L τ σ a0 u.1 u.2.1 u.2.2 ∧ u.2.1 a0 = 5 ∧ u.2.2.1 327 a0 = 0 ∧ u.2.2.1 328 a0 = 0 ∧ u.2.2.1 329 a0 = 0 ∧ u.2.2.1 330 a0 = 0 ∧ u.2.2.1 331 a0 = 0) (oPo3 A cy D) A) := by
  refine oMkI (by decide) (Nat.le_of_ble_eq_true rfl) rfl rfl ?_
  intro p e s m args below meth c ls cx rx hin hA hw hl
  generalize hQ : MQ below _ args s 7 332 A = Q
  have hx := cx.1.1
  have hb := cx.1.2.1
  have hml := cx.1.2.2.1
  have hown := cx.1.2.2.2.1
  have hts := cx.1.2.2.2.2
  have hl : lv_has ls 1 [(0, .ref a0)] := hl
  have k1 : σ.1 327 a0 = 0 := hz 327
  have k2 : σ.1 328 a0 = 0 := hz 328
  have k3 : σ.1 329 a0 = 0 := hz 329
  have k4 : σ.1 330 a0 = 0 := hz 330
  have k5 : σ.1 331 a0 = 0 := hz 331
  have ox : oX L τ σ a0 L τ σ := oX_rf
  refine lv_aload_n hx hb dX6_init_0 rfl (lv_at hl 0 rfl) ?_
  refine W.objInit hx hb hown (hts _ k_m_X6_3) (hts _ k_oi) (hts _ k_oc) rfl (by rw [hml]; exact hl.1) rfl dX6_init_1 (Nat.le_of_ble_eq_true rfl) (Nat.le_of_ble_eq_true rfl) ?_
  show W p l e _ s m args below meth c _ _ _ _ Q (F0 m 4 ls [])
  refine lv_aload_n hx hb dX6_init_4 rfl (lv_at hl 0 rfl) ?_
  refine lv_bipush (v := 64) hx hb dX6_init_5 (by decide) ?_
  refine o_newi cx hA hw 32 (by decide) (fun _ => rfl) (atype := .int) (ty := .int) rfl k_a_int rfl (fun _ => rfl) (by decide) (by decide) (fun _ => rfl) (by decide) (by decide) (by decide) (by decide) (by decide) dX6_init_7 (fun q6 L τ σ8 H g7 hw => ?_)
  have h9 : oA L τ a0 21 := oG_a g7 ha0
  have k10 : σ8.1 327 a0 = 0 := (oG_i g7 ha0).trans k1
  have k11 : σ8.1 328 a0 = 0 := (oG_i g7 ha0).trans k2
  have k12 : σ8.1 329 a0 = 0 := (oG_i g7 ha0).trans k3
  have k13 : σ8.1 330 a0 = 0 := (oG_i g7 ha0).trans k4
  have k14 : σ8.1 331 a0 = 0 := (oG_i g7 ha0).trans k5
  have h15 : oA L τ q6 32 := oG_q g7
  have n16 := oX_new ox g7
  have ox := oX_g ox g7
  refine o_putrF cx hw 5 0 rfl fiX6 tyX6 tyX6_ok nmX6 h9 (by decide) (by decide) rfl (by decide) rfl rfl rfl rfl hin rfl rfl k_f_X6_9 dX6_init_9 (fun σ18 H locs e17 hw => ?_)
  have k19 : σ18.1 327 a0 = 0 := (kp_r e17).trans k10
  have k20 : σ18.1 328 a0 = 0 := (kp_r e17).trans k11
  have k21 : σ18.1 329 a0 = 0 := (kp_r e17).trans k12
  have k22 : σ18.1 330 a0 = 0 := (kp_r e17).trans k13
  have k23 : σ18.1 331 a0 = 0 := (kp_r e17).trans k14
  have k24 : σ18.2.2.2.2 320 a0 = some q6 := kr_s e17
  have ox := oX_ra ox e17
  refine lv_aload_n hx hb dX6_init_12 rfl (lv_at hl 0 rfl) ?_
  refine lv_bipush (v := 64) hx hb dX6_init_13 (by decide) ?_
  refine o_newi cx hA hw 32 (by decide) (fun _ => rfl) (atype := .int) (ty := .int) rfl k_a_int rfl (fun _ => rfl) (by decide) (by decide) (fun _ => rfl) (by decide) (by decide) (by decide) (by decide) (by decide) dX6_init_15 (fun q25 L τ σ27 H g26 hw => ?_)
  have h28 : oA L τ a0 21 := oG_a g26 h9
  have h29 : oA L τ q6 32 := oG_a g26 h15
  have k30 : σ27.1 327 a0 = 0 := (oG_i g26 h9).trans k19
  have k31 : σ27.1 328 a0 = 0 := (oG_i g26 h9).trans k20
  have k32 : σ27.1 329 a0 = 0 := (oG_i g26 h9).trans k21
  have k33 : σ27.1 330 a0 = 0 := (oG_i g26 h9).trans k22
  have k34 : σ27.1 331 a0 = 0 := (oG_i g26 h9).trans k23
  have k35 : σ27.2.2.2.2 320 a0 = some q6 := (oG_r g26 h9).trans k24
  have h36 : oA L τ q25 32 := oG_q g26
  have n37 := oX_new ox g26
  have ox := oX_g ox g26
  refine o_putrF cx hw 5 1 rfl fiX6 tyX6 tyX6_ok nmX6 h28 (by decide) (by decide) rfl (by decide) rfl rfl rfl rfl hin rfl rfl k_f_X6_15 dX6_init_17 (fun σ39 H locs e38 hw => ?_)
  have k40 : σ39.1 327 a0 = 0 := (kp_r e38).trans k30
  have k41 : σ39.1 328 a0 = 0 := (kp_r e38).trans k31
  have k42 : σ39.1 329 a0 = 0 := (kp_r e38).trans k32
  have k43 : σ39.1 330 a0 = 0 := (kp_r e38).trans k33
  have k44 : σ39.1 331 a0 = 0 := (kp_r e38).trans k34
  have k45 : σ39.2.2.2.2 320 a0 = some q6 := (kr_r e38 (by decide)).trans k35
  have k46 : σ39.2.2.2.2 321 a0 = some q25 := kr_s e38
  have ox := oX_ra ox e38
  refine lv_aload_n hx hb dX6_init_20 rfl (lv_at hl 0 rfl) ?_
  refine lv_bipush (v := 64) hx hb dX6_init_21 (by decide) ?_
  refine o_newi cx hA hw 32 (by decide) (fun _ => rfl) (atype := .int) (ty := .int) rfl k_a_int rfl (fun _ => rfl) (by decide) (by decide) (fun _ => rfl) (by decide) (by decide) (by decide) (by decide) (by decide) dX6_init_23 (fun q47 L τ σ49 H g48 hw => ?_)
  have h50 : oA L τ a0 21 := oG_a g48 h28
  have h51 : oA L τ q6 32 := oG_a g48 h29
  have h52 : oA L τ q25 32 := oG_a g48 h36
  have k53 : σ49.1 327 a0 = 0 := (oG_i g48 h28).trans k40
  have k54 : σ49.1 328 a0 = 0 := (oG_i g48 h28).trans k41
  have k55 : σ49.1 329 a0 = 0 := (oG_i g48 h28).trans k42
  have k56 : σ49.1 330 a0 = 0 := (oG_i g48 h28).trans k43
  have k57 : σ49.1 331 a0 = 0 := (oG_i g48 h28).trans k44
  have k58 : σ49.2.2.2.2 320 a0 = some q6 := (oG_r g48 h28).trans k45
  have k59 : σ49.2.2.2.2 321 a0 = some q25 := (oG_r g48 h28).trans k46
  have h60 : oA L τ q47 32 := oG_q g48
  have n61 := oX_new ox g48
  have ox := oX_g ox g48
  refine o_putrF cx hw 5 2 rfl fiX6 tyX6 tyX6_ok nmX6 h50 (by decide) (by decide) rfl (by decide) rfl rfl rfl rfl hin rfl rfl k_f_X6_18 dX6_init_25 (fun σ63 H locs e62 hw => ?_)
  have k64 : σ63.1 327 a0 = 0 := (kp_r e62).trans k53
  have k65 : σ63.1 328 a0 = 0 := (kp_r e62).trans k54
  have k66 : σ63.1 329 a0 = 0 := (kp_r e62).trans k55
  have k67 : σ63.1 330 a0 = 0 := (kp_r e62).trans k56
  have k68 : σ63.1 331 a0 = 0 := (kp_r e62).trans k57
  have k69 : σ63.2.2.2.2 320 a0 = some q6 := (kr_r e62 (by decide)).trans k58
  have k70 : σ63.2.2.2.2 321 a0 = some q25 := (kr_r e62 (by decide)).trans k59
  have k71 : σ63.2.2.2.2 322 a0 = some q47 := kr_s e62
  have ox := oX_ra ox e62
  refine lv_aload_n hx hb dX6_init_28 rfl (lv_at hl 0 rfl) ?_
  refine lv_bipush (v := 64) hx hb dX6_init_29 (by decide) ?_
  refine o_newi cx hA hw 32 (by decide) (fun _ => rfl) (atype := .int) (ty := .int) rfl k_a_int rfl (fun _ => rfl) (by decide) (by decide) (fun _ => rfl) (by decide) (by decide) (by decide) (by decide) (by decide) dX6_init_31 (fun q72 L τ σ74 H g73 hw => ?_)
  have h75 : oA L τ a0 21 := oG_a g73 h50
  have h76 : oA L τ q6 32 := oG_a g73 h51
  have h77 : oA L τ q25 32 := oG_a g73 h52
  have h78 : oA L τ q47 32 := oG_a g73 h60
  have k79 : σ74.1 327 a0 = 0 := (oG_i g73 h50).trans k64
  have k80 : σ74.1 328 a0 = 0 := (oG_i g73 h50).trans k65
  have k81 : σ74.1 329 a0 = 0 := (oG_i g73 h50).trans k66
  have k82 : σ74.1 330 a0 = 0 := (oG_i g73 h50).trans k67
  have k83 : σ74.1 331 a0 = 0 := (oG_i g73 h50).trans k68
  have k84 : σ74.2.2.2.2 320 a0 = some q6 := (oG_r g73 h50).trans k69
  have k85 : σ74.2.2.2.2 321 a0 = some q25 := (oG_r g73 h50).trans k70
  have k86 : σ74.2.2.2.2 322 a0 = some q47 := (oG_r g73 h50).trans k71
  have h87 : oA L τ q72 32 := oG_q g73
  have n88 := oX_new ox g73
  have ox := oX_g ox g73
  refine o_putrF cx hw 5 3 rfl fiX6 tyX6 tyX6_ok nmX6 h75 (by decide) (by decide) rfl (by decide) rfl rfl rfl rfl hin rfl rfl k_f_X6_21 dX6_init_33 (fun σ90 H locs e89 hw => ?_)
  have k91 : σ90.1 327 a0 = 0 := (kp_r e89).trans k79
  have k92 : σ90.1 328 a0 = 0 := (kp_r e89).trans k80
  have k93 : σ90.1 329 a0 = 0 := (kp_r e89).trans k81
  have k94 : σ90.1 330 a0 = 0 := (kp_r e89).trans k82
  have k95 : σ90.1 331 a0 = 0 := (kp_r e89).trans k83
  have k96 : σ90.2.2.2.2 320 a0 = some q6 := (kr_r e89 (by decide)).trans k84
  have k97 : σ90.2.2.2.2 321 a0 = some q25 := (kr_r e89 (by decide)).trans k85
  have k98 : σ90.2.2.2.2 322 a0 = some q47 := (kr_r e89 (by decide)).trans k86
  have k99 : σ90.2.2.2.2 323 a0 = some q72 := kr_s e89
  have ox := oX_ra ox e89
  refine lv_aload_n hx hb dX6_init_36 rfl (lv_at hl 0 rfl) ?_
  refine lv_bipush (v := 64) hx hb dX6_init_37 (by decide) ?_
  refine o_newi cx hA hw 32 (by decide) (fun _ => rfl) (atype := .int) (ty := .int) rfl k_a_int rfl (fun _ => rfl) (by decide) (by decide) (fun _ => rfl) (by decide) (by decide) (by decide) (by decide) (by decide) dX6_init_39 (fun q100 L τ σ102 H g101 hw => ?_)
  have h103 : oA L τ a0 21 := oG_a g101 h75
  have h104 : oA L τ q6 32 := oG_a g101 h76
  have h105 : oA L τ q25 32 := oG_a g101 h77
  have h106 : oA L τ q47 32 := oG_a g101 h78
  have h107 : oA L τ q72 32 := oG_a g101 h87
  have k108 : σ102.1 327 a0 = 0 := (oG_i g101 h75).trans k91
  have k109 : σ102.1 328 a0 = 0 := (oG_i g101 h75).trans k92
  have k110 : σ102.1 329 a0 = 0 := (oG_i g101 h75).trans k93
  have k111 : σ102.1 330 a0 = 0 := (oG_i g101 h75).trans k94
  have k112 : σ102.1 331 a0 = 0 := (oG_i g101 h75).trans k95
  have k113 : σ102.2.2.2.2 320 a0 = some q6 := (oG_r g101 h75).trans k96
  have k114 : σ102.2.2.2.2 321 a0 = some q25 := (oG_r g101 h75).trans k97
  have k115 : σ102.2.2.2.2 322 a0 = some q47 := (oG_r g101 h75).trans k98
  have k116 : σ102.2.2.2.2 323 a0 = some q72 := (oG_r g101 h75).trans k99
  have h117 : oA L τ q100 32 := oG_q g101
  have n118 := oX_new ox g101
  have ox := oX_g ox g101
  refine o_putrF cx hw 5 4 rfl fiX6 tyX6 tyX6_ok nmX6 h103 (by decide) (by decide) rfl (by decide) rfl rfl rfl rfl hin rfl rfl k_f_X6_24 dX6_init_41 (fun σ120 H locs e119 hw => ?_)
  have k121 : σ120.1 327 a0 = 0 := (kp_r e119).trans k108
  have k122 : σ120.1 328 a0 = 0 := (kp_r e119).trans k109
  have k123 : σ120.1 329 a0 = 0 := (kp_r e119).trans k110
  have k124 : σ120.1 330 a0 = 0 := (kp_r e119).trans k111
  have k125 : σ120.1 331 a0 = 0 := (kp_r e119).trans k112
  have k126 : σ120.2.2.2.2 320 a0 = some q6 := (kr_r e119 (by decide)).trans k113
  have k127 : σ120.2.2.2.2 321 a0 = some q25 := (kr_r e119 (by decide)).trans k114
  have k128 : σ120.2.2.2.2 322 a0 = some q47 := (kr_r e119 (by decide)).trans k115
  have k129 : σ120.2.2.2.2 323 a0 = some q72 := (kr_r e119 (by decide)).trans k116
  have k130 : σ120.2.2.2.2 324 a0 = some q100 := kr_s e119
  have ox := oX_ra ox e119
  refine lv_aload_n hx hb dX6_init_44 rfl (lv_at hl 0 rfl) ?_
  refine lv_bipush (v := 6) hx hb dX6_init_45 (by decide) ?_
  refine o_newi cx hA hw 33 (by decide) (fun _ => rfl) (atype := .int) (ty := .int) rfl k_a_int rfl (fun _ => rfl) (by decide) (by decide) (fun _ => rfl) (by decide) (by decide) (by decide) (by decide) (by decide) dX6_init_47 (fun q131 L τ σ133 H g132 hw => ?_)
  have h134 : oA L τ a0 21 := oG_a g132 h103
  have h135 : oA L τ q6 32 := oG_a g132 h104
  have h136 : oA L τ q25 32 := oG_a g132 h105
  have h137 : oA L τ q47 32 := oG_a g132 h106
  have h138 : oA L τ q72 32 := oG_a g132 h107
  have h139 : oA L τ q100 32 := oG_a g132 h117
  have k140 : σ133.1 327 a0 = 0 := (oG_i g132 h103).trans k121
  have k141 : σ133.1 328 a0 = 0 := (oG_i g132 h103).trans k122
  have k142 : σ133.1 329 a0 = 0 := (oG_i g132 h103).trans k123
  have k143 : σ133.1 330 a0 = 0 := (oG_i g132 h103).trans k124
  have k144 : σ133.1 331 a0 = 0 := (oG_i g132 h103).trans k125
  have k145 : σ133.2.2.2.2 320 a0 = some q6 := (oG_r g132 h103).trans k126
  have k146 : σ133.2.2.2.2 321 a0 = some q25 := (oG_r g132 h103).trans k127
  have k147 : σ133.2.2.2.2 322 a0 = some q47 := (oG_r g132 h103).trans k128
  have k148 : σ133.2.2.2.2 323 a0 = some q72 := (oG_r g132 h103).trans k129
  have k149 : σ133.2.2.2.2 324 a0 = some q100 := (oG_r g132 h103).trans k130
  have h150 : oA L τ q131 33 := oG_q g132
  have n151 := oX_new ox g132
  have ox := oX_g ox g132
  refine o_putrF cx hw 5 5 rfl fiX6 tyX6 tyX6_ok nmX6 h134 (by decide) (by decide) rfl (by decide) rfl rfl rfl rfl hin rfl rfl k_f_X6_27 dX6_init_49 (fun σ153 H locs e152 hw => ?_)
  have k154 : σ153.1 327 a0 = 0 := (kp_r e152).trans k140
  have k155 : σ153.1 328 a0 = 0 := (kp_r e152).trans k141
  have k156 : σ153.1 329 a0 = 0 := (kp_r e152).trans k142
  have k157 : σ153.1 330 a0 = 0 := (kp_r e152).trans k143
  have k158 : σ153.1 331 a0 = 0 := (kp_r e152).trans k144
  have k159 : σ153.2.2.2.2 320 a0 = some q6 := (kr_r e152 (by decide)).trans k145
  have k160 : σ153.2.2.2.2 321 a0 = some q25 := (kr_r e152 (by decide)).trans k146
  have k161 : σ153.2.2.2.2 322 a0 = some q47 := (kr_r e152 (by decide)).trans k147
  have k162 : σ153.2.2.2.2 323 a0 = some q72 := (kr_r e152 (by decide)).trans k148
  have k163 : σ153.2.2.2.2 324 a0 = some q100 := (kr_r e152 (by decide)).trans k149
  have k164 : σ153.2.2.2.2 325 a0 = some q131 := kr_s e152
  have ox := oX_ra ox e152
  refine lv_aload_n hx hb dX6_init_52 rfl (lv_at hl 0 rfl) ?_
  refine lv_bipush (v := 6) hx hb dX6_init_53 (by decide) ?_
  refine o_newi cx hA hw 34 (by decide) (fun _ => rfl) (atype := .int) (ty := .int) rfl k_a_int rfl (fun _ => rfl) (by decide) (by decide) (fun _ => rfl) (by decide) (by decide) (by decide) (by decide) (by decide) dX6_init_55 (fun q165 L τ σ167 H g166 hw => ?_)
  have h168 : oA L τ a0 21 := oG_a g166 h134
  have h169 : oA L τ q6 32 := oG_a g166 h135
  have h170 : oA L τ q25 32 := oG_a g166 h136
  have h171 : oA L τ q47 32 := oG_a g166 h137
  have h172 : oA L τ q72 32 := oG_a g166 h138
  have h173 : oA L τ q100 32 := oG_a g166 h139
  have h174 : oA L τ q131 33 := oG_a g166 h150
  have k175 : σ167.1 327 a0 = 0 := (oG_i g166 h134).trans k154
  have k176 : σ167.1 328 a0 = 0 := (oG_i g166 h134).trans k155
  have k177 : σ167.1 329 a0 = 0 := (oG_i g166 h134).trans k156
  have k178 : σ167.1 330 a0 = 0 := (oG_i g166 h134).trans k157
  have k179 : σ167.1 331 a0 = 0 := (oG_i g166 h134).trans k158
  have k180 : σ167.2.2.2.2 320 a0 = some q6 := (oG_r g166 h134).trans k159
  have k181 : σ167.2.2.2.2 321 a0 = some q25 := (oG_r g166 h134).trans k160
  have k182 : σ167.2.2.2.2 322 a0 = some q47 := (oG_r g166 h134).trans k161
  have k183 : σ167.2.2.2.2 323 a0 = some q72 := (oG_r g166 h134).trans k162
  have k184 : σ167.2.2.2.2 324 a0 = some q100 := (oG_r g166 h134).trans k163
  have k185 : σ167.2.2.2.2 325 a0 = some q131 := (oG_r g166 h134).trans k164
  have h186 : oA L τ q165 34 := oG_q g166
  have n187 := oX_new ox g166
  have ox := oX_g ox g166
  refine o_putrF cx hw 5 6 rfl fiX6 tyX6 tyX6_ok nmX6 h168 (by decide) (by decide) rfl (by decide) rfl rfl rfl rfl hin rfl rfl k_f_X6_30 dX6_init_57 (fun σ189 H locs e188 hw => ?_)
  have k190 : σ189.1 327 a0 = 0 := (kp_r e188).trans k175
  have k191 : σ189.1 328 a0 = 0 := (kp_r e188).trans k176
  have k192 : σ189.1 329 a0 = 0 := (kp_r e188).trans k177
  have k193 : σ189.1 330 a0 = 0 := (kp_r e188).trans k178
  have k194 : σ189.1 331 a0 = 0 := (kp_r e188).trans k179
  have k195 : σ189.2.2.2.2 320 a0 = some q6 := (kr_r e188 (by decide)).trans k180
  have k196 : σ189.2.2.2.2 321 a0 = some q25 := (kr_r e188 (by decide)).trans k181
  have k197 : σ189.2.2.2.2 322 a0 = some q47 := (kr_r e188 (by decide)).trans k182
  have k198 : σ189.2.2.2.2 323 a0 = some q72 := (kr_r e188 (by decide)).trans k183
  have k199 : σ189.2.2.2.2 324 a0 = some q100 := (kr_r e188 (by decide)).trans k184
  have k200 : σ189.2.2.2.2 325 a0 = some q131 := (kr_r e188 (by decide)).trans k185
  have k201 : σ189.2.2.2.2 326 a0 = some q165 := kr_s e188
  have ox := oX_ra ox e188
  refine lv_aload_n hx hb dX6_init_60 rfl (lv_at hl 0 rfl) ?_
  refine o_getK cx hw 5 3 rfl fiX6 h168 (by decide) rfl (by decide) rfl rfl k_f_X6_21 (j := 323) rfl k198 dX6_init_61 ?_
  refine lv_iconst (v := (-1)) hx hb dX6_init_64 (by decide) ?_
  refine o_cv hw (oRunS cx hA hw q_J7_fill_53178 k_m_X6_33 (As := [.ref q72, .int (-1)]) (c_J7_fill_53178 q72 h172 (-1)) (by decide) rfl hl.1 rfl (Nat.le_of_ble_eq_true rfl) dX6_init_65 (by decide)) (fun σ202 H locs hp hw => ?_)
  have f204_0 := hp
  have k205 : σ202.1 327 a0 = 0 := (kp_c f204_0 (by decide)).trans k190
  have k206 : σ202.1 328 a0 = 0 := (kp_c f204_0 (by decide)).trans k191
  have k207 : σ202.1 329 a0 = 0 := (kp_c f204_0 (by decide)).trans k192
  have k208 : σ202.1 330 a0 = 0 := (kp_c f204_0 (by decide)).trans k193
  have k209 : σ202.1 331 a0 = 0 := (kp_c f204_0 (by decide)).trans k194
  have k210 : σ202.2.2.2.2 320 a0 = some q6 := (kr_c f204_0 (by decide)).trans k195
  have k211 : σ202.2.2.2.2 321 a0 = some q25 := (kr_c f204_0 (by decide)).trans k196
  have k212 : σ202.2.2.2.2 322 a0 = some q47 := (kr_c f204_0 (by decide)).trans k197
  have k213 : σ202.2.2.2.2 323 a0 = some q72 := (kr_c f204_0 (by decide)).trans k198
  have k214 : σ202.2.2.2.2 324 a0 = some q100 := (kr_c f204_0 (by decide)).trans k199
  have k215 : σ202.2.2.2.2 325 a0 = some q131 := (kr_c f204_0 (by decide)).trans k200
  have k216 : σ202.2.2.2.2 326 a0 = some q165 := (kr_c f204_0 (by decide)).trans k201
  have ox := oX_c ox f204_0
  refine lv_aload_n hx hb dX6_init_68 rfl (lv_at hl 0 rfl) ?_
  refine o_getK cx hw 5 4 rfl fiX6 h168 (by decide) rfl (by decide) rfl rfl k_f_X6_24 (j := 324) rfl k214 dX6_init_69 ?_
  refine lv_iconst (v := (-1)) hx hb dX6_init_72 (by decide) ?_
  refine o_cv hw (oRunS cx hA hw q_J7_fill_53178 k_m_X6_33 (As := [.ref q100, .int (-1)]) (c_J7_fill_53178 q100 h173 (-1)) (by decide) rfl hl.1 rfl (Nat.le_of_ble_eq_true rfl) dX6_init_73 (by decide)) (fun σ217 H locs hp hw => ?_)
  have f219_0 := hp
  have k220 : σ217.1 327 a0 = 0 := (kp_c f219_0 (by decide)).trans k205
  have k221 : σ217.1 328 a0 = 0 := (kp_c f219_0 (by decide)).trans k206
  have k222 : σ217.1 329 a0 = 0 := (kp_c f219_0 (by decide)).trans k207
  have k223 : σ217.1 330 a0 = 0 := (kp_c f219_0 (by decide)).trans k208
  have k224 : σ217.1 331 a0 = 0 := (kp_c f219_0 (by decide)).trans k209
  have k225 : σ217.2.2.2.2 320 a0 = some q6 := (kr_c f219_0 (by decide)).trans k210
  have k226 : σ217.2.2.2.2 321 a0 = some q25 := (kr_c f219_0 (by decide)).trans k211
  have k227 : σ217.2.2.2.2 322 a0 = some q47 := (kr_c f219_0 (by decide)).trans k212
  have k228 : σ217.2.2.2.2 323 a0 = some q72 := (kr_c f219_0 (by decide)).trans k213
  have k229 : σ217.2.2.2.2 324 a0 = some q100 := (kr_c f219_0 (by decide)).trans k214
  have k230 : σ217.2.2.2.2 325 a0 = some q131 := (kr_c f219_0 (by decide)).trans k215
  have k231 : σ217.2.2.2.2 326 a0 = some q165 := (kr_c f219_0 (by decide)).trans k216
  have ox := oX_c ox f219_0
  obtain ⟨τ9, d9⟩ : ∃ τ9, oD τ a0 5 τ9 := ⟨_, rfl⟩
  have hw := oD_I d9 hw h168 (Or.inl ⟨by decide, by decide, rfl⟩) (mb_5 (f := fun j => σ217.1 j a0) (kn_iv k220 ⟨by decide, by decide⟩)) (fun i => oRb_lo (by decide)) (tg_5 (P := fun j t2 => ∃ b, σ217.2.2.2.2 j a0 = some b ∧ oA L τ b t2 ∧ b ≠ a0) ⟨q6, k225, h169, rw_ne h169 h168 (by decide)⟩ ⟨q25, k226, h170, rw_ne h170 h168 (by decide)⟩ ⟨q47, k227, h171, rw_ne h171 h168 (by decide)⟩ ⟨q72, k228, h172, rw_ne h172 h168 (by decide)⟩ ⟨q100, k229, h173, rw_ne h173 h168 (by decide)⟩ ⟨q131, k230, h174, rw_ne h174 h168 (by decide)⟩ ⟨q165, k231, h186, rw_ne h186 h168 (by decide)⟩) (oTg_no (by decide))
  rw [← hQ]
  refine W.widen (k := 7) (n := 332) (by decide) (by decide) ?_
  exact o_rI cx rx hw dX6_init_76 ⟨oX_da ox d9, (oD_q d9 h168).2, k220, k221, k222, k223, k224⟩
end OM
