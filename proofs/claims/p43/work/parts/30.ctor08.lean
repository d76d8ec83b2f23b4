section OM
variable {l : Launch} {A : Nat → Prop} {L : List Nat} {τ : Nat → Nat} {cy : Nat → ClassId} {D : va_G} {K : (Nat → Nat) × (Nat → Nat)} {σ : oSt}
set_option maxHeartbeats 4000000 in
set_option maxRecDepth 100000 in
theorem c_X3_init (a0 : Nat) (ha0 : oA L τ a0 18) (hz : ∀ j, σ.1 j a0 = 0) (hzl : ∀ j, σ.2.1 j a0 = 0) : oMetI l A L τ cy D K yX3_init cX3_init 2 2 80 81 3450 [.ref a0] σ (va_Qv (fun u : oW3 => oX L τ σ a0 u.1 u.2.1 u.2.2 ∧ u.2.1 a0 = 2 ∧ u.2.2.1 129 a0 = 0 ∧ u.2.2.1 130 a0 = 0 ∧ (∃ R, u.2.2.2.2.2.2 128 a0 = some R ∧ ∀ i, i < 10 → ∃ b, u.2.2.2.2.2.2 (4096 + i) R = some b ∧ b ∉ L)) (oPo3 A cy D) A) := by
  refine oMkI (by decide) (Nat.le_of_ble_eq_true rfl) rfl rfl ?_
  intro p e s m args below meth c ls cx rx hin hA hw hl
  generalize hQ : MQ below _ args s 81 3450 A = Q
  have hx := cx.1.1
  have hb := cx.1.2.1
  have hml := cx.1.2.2.1
  have hown := cx.1.2.2.2.1
  have hts := cx.1.2.2.2.2
  have hl : lv_has ls 2 [(0, .ref a0)] := hl
  have k1 : σ.1 129 a0 = 0 := hz 129
  have k2 : σ.1 130 a0 = 0 := hz 130
  have ox : oX L τ σ a0 L τ σ := oX_rf
  refine lv_aload_n hx hb dX3_init_0 rfl (lv_at hl 0 rfl) ?_
  refine W.objInit hx hb hown (hts _ k_m_X3_1) (hts _ k_oi) (hts _ k_oc) rfl (by rw [hml]; exact hl.1) rfl dX3_init_1 (Nat.le_of_ble_eq_true rfl) (Nat.le_of_ble_eq_true rfl) ?_
  show W p l e _ s m args below meth c _ _ _ _ Q (F0 m 4 ls [])
  refine lv_aload_n hx hb dX3_init_4 rfl (lv_at hl 0 rfl) ?_
  refine lv_bipush (v := 10) hx hb dX3_init_5 (by decide) ?_
  refine o_newq cx hA hw 42 (by decide) (fun _ => rfl) rfl k_c_X3_9 (by decide) (by decide) (by decide) (by decide) (by decide) dX3_init_7 (fun q3 L τ σ5 H g4 hw => ?_)
  have h6 : oA L τ a0 18 := oG_a g4 ha0
  have k7 : σ5.1 129 a0 = 0 := (oG_i g4 ha0).trans k1
  have k8 : σ5.1 130 a0 = 0 := (oG_i g4 ha0).trans k2
  have h9 : oA L τ q3 42 := oG_q g4
  have n10 := oX_new ox g4
  have ox := oX_g ox g4
  refine o_putrF cx hw 2 0 rfl fiX3 tyX3 tyX3_ok nmX3 h6 (by decide) (by decide) rfl (by decide) rfl rfl rfl rfl hin rfl rfl k_f_X3_11 dX3_init_10 (fun σ12 H locs e11 hw => ?_)
  have k13 : σ12.1 129 a0 = 0 := (kp_r e11).trans k7
  have k14 : σ12.1 130 a0 = 0 := (kp_r e11).trans k8
  have k15 : σ12.2.2.2.2 128 a0 = some q3 := kr_s e11
  have ox := oX_ra ox e11
  refine lv_iconst (v := 0) hx hb dX3_init_13 (by decide) ?_
  refine lv_istore_n (lv' := [(1, .int 0), (0, .ref a0)]) hx hb dX3_init_14 rfl hl (by decide) rfl (fun ls hl => ?_)
  refine lv_iload_n hx hb dX3_init_15 rfl (lv_at hl 0 rfl) ?_
  refine lv_bipush (v := 10) hx hb dX3_init_16 (by decide) ?_
  refine lv_icmp_ge (tgt := 40) hx hb dX3_init_18 (by decide) (fun c16 => ?_) (fun c16 => ?_)
  · exact absurd c16 (show ¬ (10 : Int32) ≤ 0 by decide)
  refine lv_aload_n hx hb dX3_init_21 rfl (lv_at hl 1 rfl) ?_
  refine o_getK cx hw 2 0 rfl fiX3 h6 (by decide) rfl (by decide) rfl rfl k_f_X3_11 (j := 128) rfl k15 dX3_init_22 ?_
  refine lv_iload_n hx hb dX3_init_25 rfl (lv_at hl 0 rfl) ?_
  refine o_new cx hA hw 5 (by decide) rfl fiX6 tyX6 tyX6_ok dfX6 k_c_X3_9 k_n_X6 k_i_X6 (by decide) (by decide) dX3_init_26 (fun q17 L τ σ19 H g18 hw => ?_)
  have h20 : oA L τ a0 18 := oG_a g18 h6
  have h21 : oA L τ q3 42 := oG_a g18 h9
  have k22 : σ19.1 129 a0 = 0 := (oG_i g18 h6).trans k13
  have k23 : σ19.1 130 a0 = 0 := (oG_i g18 h6).trans k14
  have k24 : σ19.2.2.2.2 128 a0 = some q3 := (oG_r g18 h6).trans k15
  have h25 : oA L τ q17 21 := oG_q g18
  have n26 := oX_new ox g18
  have ox := oX_g ox g18
  refine lv_dup hx hb dX3_init_29 rfl ?_
  refine o_cI hw (oRunI cx hA hw q_X6_init k_m_X3_15 (As := []) (c_X6_init q17 h25 (fun j => oG_zi g18) (fun j => oG_zl g18) ) (by decide) rfl hl.1 rfl (Nat.le_of_ble_eq_true rfl) dX3_init_30 (by decide)) (fun L τ σ27 H locs hp hw => ?_)
  obtain ⟨y28, t29, fy28_327, fy28_328, fy28_329, fy28_330, fy28_331⟩ := hp
  have h30 : oA L τ a0 18 := oX_a y28 h20 (rw_ne h20 h25 (by decide))
  have h31 : oA L τ q3 42 := oX_a y28 h21 (rw_ne h21 h25 (by decide))
  have k32 : σ27.1 129 a0 = 0 := (oX_ki y28 h20 (rw_ne h20 h25 (by decide))).trans k22
  have k33 : σ27.1 130 a0 = 0 := (oX_ki y28 h20 (rw_ne h20 h25 (by decide))).trans k23
  have k34 : σ27.2.2.2.2 128 a0 = some q3 := (oX_kr y28 h20 (rw_ne h20 h25 (by decide))).trans k24
  have h35 : oA L τ q17 5 := oX_q y28 h25 t29
  have ox := oX_x ox y28 n26
  refine o_astq cx hw h31 (by decide) rfl (fun _ => rfl) h35 (iv_in (⟨by decide, by decide⟩ : Iv 0 0 0) (by decide)) dX3_init_33 (fun σ37 H locs e36 hw => ?_)
  have k38 : σ37.1 129 a0 = 0 := (kp_r e36).trans k32
  have k39 : σ37.1 130 a0 = 0 := (kp_r e36).trans k33
  have k40 : σ37.1 327 q17 = 0 := (kp_r e36).trans fy28_327
  have k41 : σ37.1 328 q17 = 0 := (kp_r e36).trans fy28_328
  have k42 : σ37.1 329 q17 = 0 := (kp_r e36).trans fy28_329
  have k43 : σ37.1 330 q17 = 0 := (kp_r e36).trans fy28_330
  have k44 : σ37.1 331 q17 = 0 := (kp_r e36).trans fy28_331
  have k45 : σ37.2.2.2.2 128 a0 = some q3 := (kr_r e36 (by decide)).trans k34
  have k46 : σ37.2.2.2.2 4096 q3 = some q17 := kr_s e36
  have ox := oX_rn ox e36 n10
  refine lv_iinc (v := 1) (lv' := [(1, .int 1), (0, .ref a0)]) hx hb dX3_init_34 hl (k := 0) rfl (by decide) (by decide) rfl (fun ls hl => ?_)
  refine lv_goto (tgt := 15) hx hb dX3_init_37 (by decide) ?_
  refine lv_iload_n hx hb dX3_init_15 rfl (lv_at hl 0 rfl) ?_
  refine lv_bipush (v := 10) hx hb dX3_init_16 (by decide) ?_
  refine lv_icmp_ge (tgt := 40) hx hb dX3_init_18 (by decide) (fun c47 => ?_) (fun c47 => ?_)
  · exact absurd c47 (show ¬ (10 : Int32) ≤ 1 by decide)
  refine lv_aload_n hx hb dX3_init_21 rfl (lv_at hl 1 rfl) ?_
  refine o_getK cx hw 2 0 rfl fiX3 h30 (by decide) rfl (by decide) rfl rfl k_f_X3_11 (j := 128) rfl k45 dX3_init_22 ?_
  refine lv_iload_n hx hb dX3_init_25 rfl (lv_at hl 0 rfl) ?_
  refine o_new cx hA hw 5 (by decide) rfl fiX6 tyX6 tyX6_ok dfX6 k_c_X3_9 k_n_X6 k_i_X6 (by decide) (by decide) dX3_init_26 (fun q48 L τ σ50 H g49 hw => ?_)
  have h51 : oA L τ a0 18 := oG_a g49 h30
  have h52 : oA L τ q3 42 := oG_a g49 h31
  have h53 : oA L τ q17 5 := oG_a g49 h35
  have k54 : σ50.1 129 a0 = 0 := (oG_i g49 h30).trans k38
  have k55 : σ50.1 130 a0 = 0 := (oG_i g49 h30).trans k39
  have k56 : σ50.1 327 q17 = 0 := (oG_i g49 h35).trans k40
  have k57 : σ50.1 328 q17 = 0 := (oG_i g49 h35).trans k41
  have k58 : σ50.1 329 q17 = 0 := (oG_i g49 h35).trans k42
  have k59 : σ50.1 330 q17 = 0 := (oG_i g49 h35).trans k43
  have k60 : σ50.1 331 q17 = 0 := (oG_i g49 h35).trans k44
  have k61 : σ50.2.2.2.2 128 a0 = some q3 := (oG_r g49 h30).trans k45
  have k62 : σ50.2.2.2.2 4096 q3 = some q17 := (oG_r g49 h31).trans k46
  have h63 : oA L τ q48 21 := oG_q g49
  have n64 := oX_new ox g49
  have ox := oX_g ox g49
  refine lv_dup hx hb dX3_init_29 rfl ?_
  refine o_cI hw (oRunI cx hA hw q_X6_init k_m_X3_15 (As := []) (c_X6_init q48 h63 (fun j => oG_zi g49) (fun j => oG_zl g49) ) (by decide) rfl hl.1 rfl (Nat.le_of_ble_eq_true rfl) dX3_init_30 (by decide)) (fun L τ σ65 H locs hp hw => ?_)
  obtain ⟨y66, t67, fy66_327, fy66_328, fy66_329, fy66_330, fy66_331⟩ := hp
  have h68 : oA L τ a0 18 := oX_a y66 h51 (rw_ne h51 h63 (by decide))
  have h69 : oA L τ q3 42 := oX_a y66 h52 (rw_ne h52 h63 (by decide))
  have h70 : oA L τ q17 5 := oX_a y66 h53 (rw_ne h53 h63 (by decide))
  have k71 : σ65.1 129 a0 = 0 := (oX_ki y66 h51 (rw_ne h51 h63 (by decide))).trans k54
  have k72 : σ65.1 130 a0 = 0 := (oX_ki y66 h51 (rw_ne h51 h63 (by decide))).trans k55
  have k73 : σ65.1 327 q17 = 0 := (oX_ki y66 h53 (rw_ne h53 h63 (by decide))).trans k56
  have k74 : σ65.1 328 q17 = 0 := (oX_ki y66 h53 (rw_ne h53 h63 (by decide))).trans k57
  have k75 : σ65.1 329 q17 = 0 := (oX_ki y66 h53 (rw_ne h53 h63 (by decide))).trans k58
  have k76 : σ65.1 330 q17 = 0 := (oX_ki y66 h53 (rw_ne h53 h63 (by decide))).trans k59
  have k77 : σ65.1 331 q17 = 0 := (oX_ki y66 h53 (rw_ne h53 h63 (by decide))).trans k60
  have k78 : σ65.2.2.2.2 128 a0 = some q3 := (oX_kr y66 h51 (rw_ne h51 h63 (by decide))).trans k61
  have k79 : σ65.2.2.2.2 4096 q3 = some q17 := (oX_kr y66 h52 (rw_ne h52 h63 (by decide))).trans k62
  have h80 : oA L τ q48 5 := oX_q y66 h63 t67
  have ox := oX_x ox y66 n64
  refine o_astq cx hw h69 (by decide) rfl (fun _ => rfl) h80 (iv_in (⟨by decide, by decide⟩ : Iv 1 1 1) (by decide)) dX3_init_33 (fun σ82 H locs e81 hw => ?_)
  have k83 : σ82.1 129 a0 = 0 := (kp_r e81).trans k71
  have k84 : σ82.1 130 a0 = 0 := (kp_r e81).trans k72
  have k85 : σ82.1 327 q17 = 0 := (kp_r e81).trans k73
  have k86 : σ82.1 328 q17 = 0 := (kp_r e81).trans k74
  have k87 : σ82.1 329 q17 = 0 := (kp_r e81).trans k75
  have k88 : σ82.1 330 q17 = 0 := (kp_r e81).trans k76
  have k89 : σ82.1 331 q17 = 0 := (kp_r e81).trans k77
  have k90 : σ82.1 327 q48 = 0 := (kp_r e81).trans fy66_327
  have k91 : σ82.1 328 q48 = 0 := (kp_r e81).trans fy66_328
  have k92 : σ82.1 329 q48 = 0 := (kp_r e81).trans fy66_329
  have k93 : σ82.1 330 q48 = 0 := (kp_r e81).trans fy66_330
  have k94 : σ82.1 331 q48 = 0 := (kp_r e81).trans fy66_331
  have k95 : σ82.2.2.2.2 128 a0 = some q3 := (kr_r e81 (by decide)).trans k78
  have k96 : σ82.2.2.2.2 4096 q3 = some q17 := (kr_r e81 (by decide)).trans k79
  have k97 : σ82.2.2.2.2 4097 q3 = some q48 := kr_s e81
  have ox := oX_rn ox e81 n10
  refine lv_iinc (v := 2) (lv' := [(1, .int 2), (0, .ref a0)]) hx hb dX3_init_34 hl (k := 0) rfl (by decide) (by decide) rfl (fun ls hl => ?_)
  refine lv_goto (tgt := 15) hx hb dX3_init_37 (by decide) ?_
  refine lv_iload_n hx hb dX3_init_15 rfl (lv_at hl 0 rfl) ?_
  refine lv_bipush (v := 10) hx hb dX3_init_16 (by decide) ?_
  refine lv_icmp_ge (tgt := 40) hx hb dX3_init_18 (by decide) (fun c98 => ?_) (fun c98 => ?_)
  · exact absurd c98 (show ¬ (10 : Int32) ≤ 2 by decide)
  refine lv_aload_n hx hb dX3_init_21 rfl (lv_at hl 1 rfl) ?_
  refine o_getK cx hw 2 0 rfl fiX3 h68 (by decide) rfl (by decide) rfl rfl k_f_X3_11 (j := 128) rfl k95 dX3_init_22 ?_
  refine lv_iload_n hx hb dX3_init_25 rfl (lv_at hl 0 rfl) ?_
  refine o_new cx hA hw 5 (by decide) rfl fiX6 tyX6 tyX6_ok dfX6 k_c_X3_9 k_n_X6 k_i_X6 (by decide) (by decide) dX3_init_26 (fun q99 L τ σ101 H g100 hw => ?_)
  have h102 : oA L τ a0 18 := oG_a g100 h68
  have h103 : oA L τ q3 42 := oG_a g100 h69
  have h104 : oA L τ q17 5 := oG_a g100 h70
  have h105 : oA L τ q48 5 := oG_a g100 h80
  have k106 : σ101.1 129 a0 = 0 := (oG_i g100 h68).trans k83
  have k107 : σ101.1 130 a0 = 0 := (oG_i g100 h68).trans k84
  have k108 : σ101.1 327 q17 = 0 := (oG_i g100 h70).trans k85
  have k109 : σ101.1 328 q17 = 0 := (oG_i g100 h70).trans k86
  have k110 : σ101.1 329 q17 = 0 := (oG_i g100 h70).trans k87
  have k111 : σ101.1 330 q17 = 0 := (oG_i g100 h70).trans k88
  have k112 : σ101.1 331 q17 = 0 := (oG_i g100 h70).trans k89
  have k113 : σ101.1 327 q48 = 0 := (oG_i g100 h80).trans k90
  have k114 : σ101.1 328 q48 = 0 := (oG_i g100 h80).trans k91
  have k115 : σ101.1 329 q48 = 0 := (oG_i g100 h80).trans k92
  have k116 : σ101.1 330 q48 = 0 := (oG_i g100 h80).trans k93
  have k117 : σ101.1 331 q48 = 0 := (oG_i g100 h80).trans k94
  have k118 : σ101.2.2.2.2 128 a0 = some q3 := (oG_r g100 h68).trans k95
  have k119 : σ101.2.2.2.2 4096 q3 = some q17 := (oG_r g100 h69).trans k96
  have k120 : σ101.2.2.2.2 4097 q3 = some q48 := (oG_r g100 h69).trans k97
  have h121 : oA L τ q99 21 := oG_q g100
  have n122 := oX_new ox g100
  have ox := oX_g ox g100
  refine lv_dup hx hb dX3_init_29 rfl ?_
  refine o_cI hw (oRunI cx hA hw q_X6_init k_m_X3_15 (As := []) (c_X6_init q99 h121 (fun j => oG_zi g100) (fun j => oG_zl g100) ) (by decide) rfl hl.1 rfl (Nat.le_of_ble_eq_true rfl) dX3_init_30 (by decide)) (fun L τ σ123 H locs hp hw => ?_)
  obtain ⟨y124, t125, fy124_327, fy124_328, fy124_329, fy124_330, fy124_331⟩ := hp
  have h126 : oA L τ a0 18 := oX_a y124 h102 (rw_ne h102 h121 (by decide))
  have h127 : oA L τ q3 42 := oX_a y124 h103 (rw_ne h103 h121 (by decide))
  have h128 : oA L τ q17 5 := oX_a y124 h104 (rw_ne h104 h121 (by decide))
  have h129 : oA L τ q48 5 := oX_a y124 h105 (rw_ne h105 h121 (by decide))
  have k130 : σ123.1 129 a0 = 0 := (oX_ki y124 h102 (rw_ne h102 h121 (by decide))).trans k106
  have k131 : σ123.1 130 a0 = 0 := (oX_ki y124 h102 (rw_ne h102 h121 (by decide))).trans k107
  have k132 : σ123.1 327 q17 = 0 := (oX_ki y124 h104 (rw_ne h104 h121 (by decide))).trans k108
  have k133 : σ123.1 328 q17 = 0 := (oX_ki y124 h104 (rw_ne h104 h121 (by decide))).trans k109
  have k134 : σ123.1 329 q17 = 0 := (oX_ki y124 h104 (rw_ne h104 h121 (by decide))).trans k110
  have k135 : σ123.1 330 q17 = 0 := (oX_ki y124 h104 (rw_ne h104 h121 (by decide))).trans k111
  have k136 : σ123.1 331 q17 = 0 := (oX_ki y124 h104 (rw_ne h104 h121 (by decide))).trans k112
  have k137 : σ123.1 327 q48 = 0 := (oX_ki y124 h105 (rw_ne h105 h121 (by decide))).trans k113
  have k138 : σ123.1 328 q48 = 0 := (oX_ki y124 h105 (rw_ne h105 h121 (by decide))).trans k114
  have k139 : σ123.1 329 q48 = 0 := (oX_ki y124 h105 (rw_ne h105 h121 (by decide))).trans k115
  have k140 : σ123.1 330 q48 = 0 := (oX_ki y124 h105 (rw_ne h105 h121 (by decide))).trans k116
  have k141 : σ123.1 331 q48 = 0 := (oX_ki y124 h105 (rw_ne h105 h121 (by decide))).trans k117
  have k142 : σ123.2.2.2.2 128 a0 = some q3 := (oX_kr y124 h102 (rw_ne h102 h121 (by decide))).trans k118
  have k143 : σ123.2.2.2.2 4096 q3 = some q17 := (oX_kr y124 h103 (rw_ne h103 h121 (by decide))).trans k119
  have k144 : σ123.2.2.2.2 4097 q3 = some q48 := (oX_kr y124 h103 (rw_ne h103 h121 (by decide))).trans k120
  have h145 : oA L τ q99 5 := oX_q y124 h121 t125
  have ox := oX_x ox y124 n122
  refine o_astq cx hw h127 (by decide) rfl (fun _ => rfl) h145 (iv_in (⟨by decide, by decide⟩ : Iv 2 2 2) (by decide)) dX3_init_33 (fun σ147 H locs e146 hw => ?_)
  have k148 : σ147.1 129 a0 = 0 := (kp_r e146).trans k130
  have k149 : σ147.1 130 a0 = 0 := (kp_r e146).trans k131
  have k150 : σ147.1 327 q17 = 0 := (kp_r e146).trans k132
  have k151 : σ147.1 328 q17 = 0 := (kp_r e146).trans k133
  have k152 : σ147.1 329 q17 = 0 := (kp_r e146).trans k134
  have k153 : σ147.1 330 q17 = 0 := (kp_r e146).trans k135
  have k154 : σ147.1 331 q17 = 0 := (kp_r e146).trans k136
  have k155 : σ147.1 327 q48 = 0 := (kp_r e146).trans k137
  have k156 : σ147.1 328 q48 = 0 := (kp_r e146).trans k138
  have k157 : σ147.1 329 q48 = 0 := (kp_r e146).trans k139
  have k158 : σ147.1 330 q48 = 0 := (kp_r e146).trans k140
  have k159 : σ147.1 331 q48 = 0 := (kp_r e146).trans k141
  have k160 : σ147.1 327 q99 = 0 := (kp_r e146).trans fy124_327
  have k161 : σ147.1 328 q99 = 0 := (kp_r e146).trans fy124_328
  have k162 : σ147.1 329 q99 = 0 := (kp_r e146).trans fy124_329
  have k163 : σ147.1 330 q99 = 0 := (kp_r e146).trans fy124_330
  have k164 : σ147.1 331 q99 = 0 := (kp_r e146).trans fy124_331
  have k165 : σ147.2.2.2.2 128 a0 = some q3 := (kr_r e146 (by decide)).trans k142
  have k166 : σ147.2.2.2.2 4096 q3 = some q17 := (kr_r e146 (by decide)).trans k143
  have k167 : σ147.2.2.2.2 4097 q3 = some q48 := (kr_r e146 (by decide)).trans k144
  have k168 : σ147.2.2.2.2 4098 q3 = some q99 := kr_s e146
  have ox := oX_rn ox e146 n10
  refine lv_iinc (v := 3) (lv' := [(1, .int 3), (0, .ref a0)]) hx hb dX3_init_34 hl (k := 0) rfl (by decide) (by decide) rfl (fun ls hl => ?_)
  refine lv_goto (tgt := 15) hx hb dX3_init_37 (by decide) ?_
  refine lv_iload_n hx hb dX3_init_15 rfl (lv_at hl 0 rfl) ?_
  refine lv_bipush (v := 10) hx hb dX3_init_16 (by decide) ?_
  refine lv_icmp_ge (tgt := 40) hx hb dX3_init_18 (by decide) (fun c169 => ?_) (fun c169 => ?_)
  · exact absurd c169 (show ¬ (10 : Int32) ≤ 3 by decide)
  refine lv_aload_n hx hb dX3_init_21 rfl (lv_at hl 1 rfl) ?_
  refine o_getK cx hw 2 0 rfl fiX3 h126 (by decide) rfl (by decide) rfl rfl k_f_X3_11 (j := 128) rfl k165 dX3_init_22 ?_
  refine lv_iload_n hx hb dX3_init_25 rfl (lv_at hl 0 rfl) ?_
  refine o_new cx hA hw 5 (by decide) rfl fiX6 tyX6 tyX6_ok dfX6 k_c_X3_9 k_n_X6 k_i_X6 (by decide) (by decide) dX3_init_26 (fun q170 L τ σ172 H g171 hw => ?_)
  have h173 : oA L τ a0 18 := oG_a g171 h126
  have h174 : oA L τ q3 42 := oG_a g171 h127
  have h175 : oA L τ q17 5 := oG_a g171 h128
  have h176 : oA L τ q48 5 := oG_a g171 h129
  have h177 : oA L τ q99 5 := oG_a g171 h145
  have k178 : σ172.1 129 a0 = 0 := (oG_i g171 h126).trans k148
  have k179 : σ172.1 130 a0 = 0 := (oG_i g171 h126).trans k149
  have k180 : σ172.1 327 q17 = 0 := (oG_i g171 h128).trans k150
  have k181 : σ172.1 328 q17 = 0 := (oG_i g171 h128).trans k151
  have k182 : σ172.1 329 q17 = 0 := (oG_i g171 h128).trans k152
  have k183 : σ172.1 330 q17 = 0 := (oG_i g171 h128).trans k153
  have k184 : σ172.1 331 q17 = 0 := (oG_i g171 h128).trans k154
  have k185 : σ172.1 327 q48 = 0 := (oG_i g171 h129).trans k155
  have k186 : σ172.1 328 q48 = 0 := (oG_i g171 h129).trans k156
  have k187 : σ172.1 329 q48 = 0 := (oG_i g171 h129).trans k157
  have k188 : σ172.1 330 q48 = 0 := (oG_i g171 h129).trans k158
  have k189 : σ172.1 331 q48 = 0 := (oG_i g171 h129).trans k159
  have k190 : σ172.1 327 q99 = 0 := (oG_i g171 h145).trans k160
  have k191 : σ172.1 328 q99 = 0 := (oG_i g171 h145).trans k161
  have k192 : σ172.1 329 q99 = 0 := (oG_i g171 h145).trans k162
  have k193 : σ172.1 330 q99 = 0 := (oG_i g171 h145).trans k163
  have k194 : σ172.1 331 q99 = 0 := (oG_i g171 h145).trans k164
  have k195 : σ172.2.2.2.2 128 a0 = some q3 := (oG_r g171 h126).trans k165
  have k196 : σ172.2.2.2.2 4096 q3 = some q17 := (oG_r g171 h127).trans k166
  have k197 : σ172.2.2.2.2 4097 q3 = some q48 := (oG_r g171 h127).trans k167
  have k198 : σ172.2.2.2.2 4098 q3 = some q99 := (oG_r g171 h127).trans k168
  have h199 : oA L τ q170 21 := oG_q g171
  have n200 := oX_new ox g171
  have ox := oX_g ox g171
  refine lv_dup hx hb dX3_init_29 rfl ?_
  refine o_cI hw (oRunI cx hA hw q_X6_init k_m_X3_15 (As := []) (c_X6_init q170 h199 (fun j => oG_zi g171) (fun j => oG_zl g171) ) (by decide) rfl hl.1 rfl (Nat.le_of_ble_eq_true rfl) dX3_init_30 (by decide)) (fun L τ σ201 H locs hp hw => ?_)
  obtain ⟨y202, t203, fy202_327, fy202_328, fy202_329, fy202_330, fy202_331⟩ := hp
  have h204 : oA L τ a0 18 := oX_a y202 h173 (rw_ne h173 h199 (by decide))
  have h205 : oA L τ q3 42 := oX_a y202 h174 (rw_ne h174 h199 (by decide))
  have h206 : oA L τ q17 5 := oX_a y202 h175 (rw_ne h175 h199 (by decide))
  have h207 : oA L τ q48 5 := oX_a y202 h176 (rw_ne h176 h199 (by decide))
  have h208 : oA L τ q99 5 := oX_a y202 h177 (rw_ne h177 h199 (by decide))
  have k209 : σ201.1 129 a0 = 0 := (oX_ki y202 h173 (rw_ne h173 h199 (by decide))).trans k178
  have k210 : σ201.1 130 a0 = 0 := (oX_ki y202 h173 (rw_ne h173 h199 (by decide))).trans k179
  have k211 : σ201.1 327 q17 = 0 := (oX_ki y202 h175 (rw_ne h175 h199 (by decide))).trans k180
  have k212 : σ201.1 328 q17 = 0 := (oX_ki y202 h175 (rw_ne h175 h199 (by decide))).trans k181
  have k213 : σ201.1 329 q17 = 0 := (oX_ki y202 h175 (rw_ne h175 h199 (by decide))).trans k182
  have k214 : σ201.1 330 q17 = 0 := (oX_ki y202 h175 (rw_ne h175 h199 (by decide))).trans k183
  have k215 : σ201.1 331 q17 = 0 := (oX_ki y202 h175 (rw_ne h175 h199 (by decide))).trans k184
  have k216 : σ201.1 327 q48 = 0 := (oX_ki y202 h176 (rw_ne h176 h199 (by decide))).trans k185
  have k217 : σ201.1 328 q48 = 0 := (oX_ki y202 h176 (rw_ne h176 h199 (by decide))).trans k186
  have k218 : σ201.1 329 q48 = 0 := (oX_ki y202 h176 (rw_ne h176 h199 (by decide))).trans k187
  have k219 : σ201.1 330 q48 = 0 := (oX_ki y202 h176 (rw_ne h176 h199 (by decide))).trans k188
  have k220 : σ201.1 331 q48 = 0 := (oX_ki y202 h176 (rw_ne h176 h199 (by decide))).trans k189
  have k221 : σ201.1 327 q99 = 0 := (oX_ki y202 h177 (rw_ne h177 h199 (by decide))).trans k190
  have k222 : σ201.1 328 q99 = 0 := (oX_ki y202 h177 (rw_ne h177 h199 (by decide))).trans k191
  have k223 : σ201.1 329 q99 = 0 := (oX_ki y202 h177 (rw_ne h177 h199 (by decide))).trans k192
  have k224 : σ201.1 330 q99 = 0 := (oX_ki y202 h177 (rw_ne h177 h199 (by decide))).trans k193
  have k225 : σ201.1 331 q99 = 0 := (oX_ki y202 h177 (rw_ne h177 h199 (by decide))).trans k194
  have k226 : σ201.2.2.2.2 128 a0 = some q3 := (oX_kr y202 h173 (rw_ne h173 h199 (by decide))).trans k195
  have k227 : σ201.2.2.2.2 4096 q3 = some q17 := (oX_kr y202 h174 (rw_ne h174 h199 (by decide))).trans k196
  have k228 : σ201.2.2.2.2 4097 q3 = some q48 := (oX_kr y202 h174 (rw_ne h174 h199 (by decide))).trans k197
  have k229 : σ201.2.2.2.2 4098 q3 = some q99 := (oX_kr y202 h174 (rw_ne h174 h199 (by decide))).trans k198
  have h230 : oA L τ q170 5 := oX_q y202 h199 t203
  have ox := oX_x ox y202 n200
  refine o_astq cx hw h205 (by decide) rfl (fun _ => rfl) h230 (iv_in (⟨by decide, by decide⟩ : Iv 3 3 3) (by decide)) dX3_init_33 (fun σ232 H locs e231 hw => ?_)
  have k233 : σ232.1 129 a0 = 0 := (kp_r e231).trans k209
  have k234 : σ232.1 130 a0 = 0 := (kp_r e231).trans k210
  have k235 : σ232.1 327 q17 = 0 := (kp_r e231).trans k211
  have k236 : σ232.1 328 q17 = 0 := (kp_r e231).trans k212
  have k237 : σ232.1 329 q17 = 0 := (kp_r e231).trans k213
  have k238 : σ232.1 330 q17 = 0 := (kp_r e231).trans k214
  have k239 : σ232.1 331 q17 = 0 := (kp_r e231).trans k215
  have k240 : σ232.1 327 q48 = 0 := (kp_r e231).trans k216
  have k241 : σ232.1 328 q48 = 0 := (kp_r e231).trans k217
  have k242 : σ232.1 329 q48 = 0 := (kp_r e231).trans k218
  have k243 : σ232.1 330 q48 = 0 := (kp_r e231).trans k219
  have k244 : σ232.1 331 q48 = 0 := (kp_r e231).trans k220
  have k245 : σ232.1 327 q99 = 0 := (kp_r e231).trans k221
  have k246 : σ232.1 328 q99 = 0 := (kp_r e231).trans k222
  have k247 : σ232.1 329 q99 = 0 := (kp_r e231).trans k223
  have k248 : σ232.1 330 q99 = 0 := (kp_r e231).trans k224
  have k249 : σ232.1 331 q99 = 0 := (kp_r e231).trans k225
  have k250 : σ232.1 327 q170 = 0 := (kp_r e231).trans fy202_327
  have k251 : σ232.1 328 q170 = 0 := (kp_r e231).trans fy202_328
  have k252 : σ232.1 329 q170 = 0 := (kp_r e231).trans fy202_329
  have k253 : σ232.1 330 q170 = 0 := (kp_r e231).trans fy202_330
  have k254 : σ232.1 331 q170 = 0 := (kp_r e231).trans fy202_331
  have k255 : σ232.2.2.2.2 128 a0 = some q3 := (kr_r e231 (by decide)).trans k226
  have k256 : σ232.2.2.2.2 4096 q3 = some q17 := (kr_r e231 (by decide)).trans k227
  have k257 : σ232.2.2.2.2 4097 q3 = some q48 := (kr_r e231 (by decide)).trans k228
  have k258 : σ232.2.2.2.2 4098 q3 = some q99 := (kr_r e231 (by decide)).trans k229
  have k259 : σ232.2.2.2.2 4099 q3 = some q170 := kr_s e231
  have ox := oX_rn ox e231 n10
  refine lv_iinc (v := 4) (lv' := [(1, .int 4), (0, .ref a0)]) hx hb dX3_init_34 hl (k := 0) rfl (by decide) (by decide) rfl (fun ls hl => ?_)
  refine lv_goto (tgt := 15) hx hb dX3_init_37 (by decide) ?_
  refine lv_iload_n hx hb dX3_init_15 rfl (lv_at hl 0 rfl) ?_
  refine lv_bipush (v := 10) hx hb dX3_init_16 (by decide) ?_
  refine lv_icmp_ge (tgt := 40) hx hb dX3_init_18 (by decide) (fun c260 => ?_) (fun c260 => ?_)
  · exact absurd c260 (show ¬ (10 : Int32) ≤ 4 by decide)
  refine lv_aload_n hx hb dX3_init_21 rfl (lv_at hl 1 rfl) ?_
  refine o_getK cx hw 2 0 rfl fiX3 h204 (by decide) rfl (by decide) rfl rfl k_f_X3_11 (j := 128) rfl k255 dX3_init_22 ?_
  refine lv_iload_n hx hb dX3_init_25 rfl (lv_at hl 0 rfl) ?_
  refine o_new cx hA hw 5 (by decide) rfl fiX6 tyX6 tyX6_ok dfX6 k_c_X3_9 k_n_X6 k_i_X6 (by decide) (by decide) dX3_init_26 (fun q261 L τ σ263 H g262 hw => ?_)
  have h264 : oA L τ a0 18 := oG_a g262 h204
  have h265 : oA L τ q3 42 := oG_a g262 h205
  have h266 : oA L τ q17 5 := oG_a g262 h206
  have h267 : oA L τ q48 5 := oG_a g262 h207
  have h268 : oA L τ q99 5 := oG_a g262 h208
  have h269 : oA L τ q170 5 := oG_a g262 h230
  have k270 : σ263.1 129 a0 = 0 := (oG_i g262 h204).trans k233
  have k271 : σ263.1 130 a0 = 0 := (oG_i g262 h204).trans k234
  have k272 : σ263.1 327 q17 = 0 := (oG_i g262 h206).trans k235
  have k273 : σ263.1 328 q17 = 0 := (oG_i g262 h206).trans k236
  have k274 : σ263.1 329 q17 = 0 := (oG_i g262 h206).trans k237
  have k275 : σ263.1 330 q17 = 0 := (oG_i g262 h206).trans k238
  have k276 : σ263.1 331 q17 = 0 := (oG_i g262 h206).trans k239
  have k277 : σ263.1 327 q48 = 0 := (oG_i g262 h207).trans k240
  have k278 : σ263.1 328 q48 = 0 := (oG_i g262 h207).trans k241
  have k279 : σ263.1 329 q48 = 0 := (oG_i g262 h207).trans k242
  have k280 : σ263.1 330 q48 = 0 := (oG_i g262 h207).trans k243
  have k281 : σ263.1 331 q48 = 0 := (oG_i g262 h207).trans k244
  have k282 : σ263.1 327 q99 = 0 := (oG_i g262 h208).trans k245
  have k283 : σ263.1 328 q99 = 0 := (oG_i g262 h208).trans k246
  have k284 : σ263.1 329 q99 = 0 := (oG_i g262 h208).trans k247
  have k285 : σ263.1 330 q99 = 0 := (oG_i g262 h208).trans k248
  have k286 : σ263.1 331 q99 = 0 := (oG_i g262 h208).trans k249
  have k287 : σ263.1 327 q170 = 0 := (oG_i g262 h230).trans k250
  have k288 : σ263.1 328 q170 = 0 := (oG_i g262 h230).trans k251
  have k289 : σ263.1 329 q170 = 0 := (oG_i g262 h230).trans k252
  have k290 : σ263.1 330 q170 = 0 := (oG_i g262 h230).trans k253
  have k291 : σ263.1 331 q170 = 0 := (oG_i g262 h230).trans k254
  have k292 : σ263.2.2.2.2 128 a0 = some q3 := (oG_r g262 h204).trans k255
  have k293 : σ263.2.2.2.2 4096 q3 = some q17 := (oG_r g262 h205).trans k256
  have k294 : σ263.2.2.2.2 4097 q3 = some q48 := (oG_r g262 h205).trans k257
  have k295 : σ263.2.2.2.2 4098 q3 = some q99 := (oG_r g262 h205).trans k258
  have k296 : σ263.2.2.2.2 4099 q3 = some q170 := (oG_r g262 h205).trans k259
  have h297 : oA L τ q261 21 := oG_q g262
  have n298 := oX_new ox g262
  have ox := oX_g ox g262
  refine lv_dup hx hb dX3_init_29 rfl ?_
  refine o_cI hw (oRunI cx hA hw q_X6_init k_m_X3_15 (As := []) (c_X6_init q261 h297 (fun j => oG_zi g262) (fun j => oG_zl g262) ) (by decide) rfl hl.1 rfl (Nat.le_of_ble_eq_true rfl) dX3_init_30 (by decide)) (fun L τ σ299 H locs hp hw => ?_)
  obtain ⟨y300, t301, fy300_327, fy300_328, fy300_329, fy300_330, fy300_331⟩ := hp
  have h302 : oA L τ a0 18 := oX_a y300 h264 (rw_ne h264 h297 (by decide))
  have h303 : oA L τ q3 42 := oX_a y300 h265 (rw_ne h265 h297 (by decide))
  have h304 : oA L τ q17 5 := oX_a y300 h266 (rw_ne h266 h297 (by decide))
  have h305 : oA L τ q48 5 := oX_a y300 h267 (rw_ne h267 h297 (by decide))
  have h306 : oA L τ q99 5 := oX_a y300 h268 (rw_ne h268 h297 (by decide))
  have h307 : oA L τ q170 5 := oX_a y300 h269 (rw_ne h269 h297 (by decide))
  have k308 : σ299.1 129 a0 = 0 := (oX_ki y300 h264 (rw_ne h264 h297 (by decide))).trans k270
  have k309 : σ299.1 130 a0 = 0 := (oX_ki y300 h264 (rw_ne h264 h297 (by decide))).trans k271
  have k310 : σ299.1 327 q17 = 0 := (oX_ki y300 h266 (rw_ne h266 h297 (by decide))).trans k272
  have k311 : σ299.1 328 q17 = 0 := (oX_ki y300 h266 (rw_ne h266 h297 (by decide))).trans k273
  have k312 : σ299.1 329 q17 = 0 := (oX_ki y300 h266 (rw_ne h266 h297 (by decide))).trans k274
  have k313 : σ299.1 330 q17 = 0 := (oX_ki y300 h266 (rw_ne h266 h297 (by decide))).trans k275
  have k314 : σ299.1 331 q17 = 0 := (oX_ki y300 h266 (rw_ne h266 h297 (by decide))).trans k276
  have k315 : σ299.1 327 q48 = 0 := (oX_ki y300 h267 (rw_ne h267 h297 (by decide))).trans k277
  have k316 : σ299.1 328 q48 = 0 := (oX_ki y300 h267 (rw_ne h267 h297 (by decide))).trans k278
  have k317 : σ299.1 329 q48 = 0 := (oX_ki y300 h267 (rw_ne h267 h297 (by decide))).trans k279
  have k318 : σ299.1 330 q48 = 0 := (oX_ki y300 h267 (rw_ne h267 h297 (by decide))).trans k280
  have k319 : σ299.1 331 q48 = 0 := (oX_ki y300 h267 (rw_ne h267 h297 (by decide))).trans k281
  have k320 : σ299.1 327 q99 = 0 := (oX_ki y300 h268 (rw_ne h268 h297 (by decide))).trans k282
  have k321 : σ299.1 328 q99 = 0 := (oX_ki y300 h268 (rw_ne h268 h297 (by decide))).trans k283
  have k322 : σ299.1 329 q99 = 0 := (oX_ki y300 h268 (rw_ne h268 h297 (by decide))).trans k284
  have k323 : σ299.1 330 q99 = 0 := (oX_ki y300 h268 (rw_ne h268 h297 (by decide))).trans k285
  have k324 : σ299.1 331 q99 = 0 := (oX_ki y300 h268 (rw_ne h268 h297 (by decide))).trans k286
  have k325 : σ299.1 327 q170 = 0 := (oX_ki y300 h269 (rw_ne h269 h297 (by decide))).trans k287
  have k326 : σ299.1 328 q170 = 0 := (oX_ki y300 h269 (rw_ne h269 h297 (by decide))).trans k288
  have k327 : σ299.1 329 q170 = 0 := (oX_ki y300 h269 (rw_ne h269 h297 (by decide))).trans k289
  have k328 : σ299.1 330 q170 = 0 := (oX_ki y300 h269 (rw_ne h269 h297 (by decide))).trans k290
  have k329 : σ299.1 331 q170 = 0 := (oX_ki y300 h269 (rw_ne h269 h297 (by decide))).trans k291
  have k330 : σ299.2.2.2.2 128 a0 = some q3 := (oX_kr y300 h264 (rw_ne h264 h297 (by decide))).trans k292
  have k331 : σ299.2.2.2.2 4096 q3 = some q17 := (oX_kr y300 h265 (rw_ne h265 h297 (by decide))).trans k293
  have k332 : σ299.2.2.2.2 4097 q3 = some q48 := (oX_kr y300 h265 (rw_ne h265 h297 (by decide))).trans k294
  have k333 : σ299.2.2.2.2 4098 q3 = some q99 := (oX_kr y300 h265 (rw_ne h265 h297 (by decide))).trans k295
  have k334 : σ299.2.2.2.2 4099 q3 = some q170 := (oX_kr y300 h265 (rw_ne h265 h297 (by decide))).trans k296
  have h335 : oA L τ q261 5 := oX_q y300 h297 t301
  have ox := oX_x ox y300 n298
  refine o_astq cx hw h303 (by decide) rfl (fun _ => rfl) h335 (iv_in (⟨by decide, by decide⟩ : Iv 4 4 4) (by decide)) dX3_init_33 (fun σ337 H locs e336 hw => ?_)
  have k338 : σ337.1 129 a0 = 0 := (kp_r e336).trans k308
  have k339 : σ337.1 130 a0 = 0 := (kp_r e336).trans k309
  have k340 : σ337.1 327 q17 = 0 := (kp_r e336).trans k310
  have k341 : σ337.1 328 q17 = 0 := (kp_r e336).trans k311
  have k342 : σ337.1 329 q17 = 0 := (kp_r e336).trans k312
  have k343 : σ337.1 330 q17 = 0 := (kp_r e336).trans k313
  have k344 : σ337.1 331 q17 = 0 := (kp_r e336).trans k314
  have k345 : σ337.1 327 q48 = 0 := (kp_r e336).trans k315
  have k346 : σ337.1 328 q48 = 0 := (kp_r e336).trans k316
  have k347 : σ337.1 329 q48 = 0 := (kp_r e336).trans k317
  have k348 : σ337.1 330 q48 = 0 := (kp_r e336).trans k318
  have k349 : σ337.1 331 q48 = 0 := (kp_r e336).trans k319
  have k350 : σ337.1 327 q99 = 0 := (kp_r e336).trans k320
  have k351 : σ337.1 328 q99 = 0 := (kp_r e336).trans k321
  have k352 : σ337.1 329 q99 = 0 := (kp_r e336).trans k322
  have k353 : σ337.1 330 q99 = 0 := (kp_r e336).trans k323
  have k354 : σ337.1 331 q99 = 0 := (kp_r e336).trans k324
  have k355 : σ337.1 327 q170 = 0 := (kp_r e336).trans k325
  have k356 : σ337.1 328 q170 = 0 := (kp_r e336).trans k326
  have k357 : σ337.1 329 q170 = 0 := (kp_r e336).trans k327
  have k358 : σ337.1 330 q170 = 0 := (kp_r e336).trans k328
  have k359 : σ337.1 331 q170 = 0 := (kp_r e336).trans k329
  have k360 : σ337.1 327 q261 = 0 := (kp_r e336).trans fy300_327
  have k361 : σ337.1 328 q261 = 0 := (kp_r e336).trans fy300_328
  have k362 : σ337.1 329 q261 = 0 := (kp_r e336).trans fy300_329
  have k363 : σ337.1 330 q261 = 0 := (kp_r e336).trans fy300_330
  have k364 : σ337.1 331 q261 = 0 := (kp_r e336).trans fy300_331
  have k365 : σ337.2.2.2.2 128 a0 = some q3 := (kr_r e336 (by decide)).trans k330
  have k366 : σ337.2.2.2.2 4096 q3 = some q17 := (kr_r e336 (by decide)).trans k331
  have k367 : σ337.2.2.2.2 4097 q3 = some q48 := (kr_r e336 (by decide)).trans k332
  have k368 : σ337.2.2.2.2 4098 q3 = some q99 := (kr_r e336 (by decide)).trans k333
  have k369 : σ337.2.2.2.2 4099 q3 = some q170 := (kr_r e336 (by decide)).trans k334
  have k370 : σ337.2.2.2.2 4100 q3 = some q261 := kr_s e336
  have ox := oX_rn ox e336 n10
  refine lv_iinc (v := 5) (lv' := [(1, .int 5), (0, .ref a0)]) hx hb dX3_init_34 hl (k := 0) rfl (by decide) (by decide) rfl (fun ls hl => ?_)
  refine lv_goto (tgt := 15) hx hb dX3_init_37 (by decide) ?_
  refine lv_iload_n hx hb dX3_init_15 rfl (lv_at hl 0 rfl) ?_
  refine lv_bipush (v := 10) hx hb dX3_init_16 (by decide) ?_
  refine lv_icmp_ge (tgt := 40) hx hb dX3_init_18 (by decide) (fun c371 => ?_) (fun c371 => ?_)
  · exact absurd c371 (show ¬ (10 : Int32) ≤ 5 by decide)
  refine lv_aload_n hx hb dX3_init_21 rfl (lv_at hl 1 rfl) ?_
  refine o_getK cx hw 2 0 rfl fiX3 h302 (by decide) rfl (by decide) rfl rfl k_f_X3_11 (j := 128) rfl k365 dX3_init_22 ?_
  refine lv_iload_n hx hb dX3_init_25 rfl (lv_at hl 0 rfl) ?_
  refine o_new cx hA hw 5 (by decide) rfl fiX6 tyX6 tyX6_ok dfX6 k_c_X3_9 k_n_X6 k_i_X6 (by decide) (by decide) dX3_init_26 (fun q372 L τ σ374 H g373 hw => ?_)
  have h375 : oA L τ a0 18 := oG_a g373 h302
  have h376 : oA L τ q3 42 := oG_a g373 h303
  have h377 : oA L τ q17 5 := oG_a g373 h304
  have h378 : oA L τ q48 5 := oG_a g373 h305
  have h379 : oA L τ q99 5 := oG_a g373 h306
  have h380 : oA L τ q170 5 := oG_a g373 h307
  have h381 : oA L τ q261 5 := oG_a g373 h335
  have k382 : σ374.1 129 a0 = 0 := (oG_i g373 h302).trans k338
  have k383 : σ374.1 130 a0 = 0 := (oG_i g373 h302).trans k339
  have k384 : σ374.1 327 q17 = 0 := (oG_i g373 h304).trans k340
  have k385 : σ374.1 328 q17 = 0 := (oG_i g373 h304).trans k341
  have k386 : σ374.1 329 q17 = 0 := (oG_i g373 h304).trans k342
  have k387 : σ374.1 330 q17 = 0 := (oG_i g373 h304).trans k343
  have k388 : σ374.1 331 q17 = 0 := (oG_i g373 h304).trans k344
  have k389 : σ374.1 327 q48 = 0 := (oG_i g373 h305).trans k345
  have k390 : σ374.1 328 q48 = 0 := (oG_i g373 h305).trans k346
  have k391 : σ374.1 329 q48 = 0 := (oG_i g373 h305).trans k347
  have k392 : σ374.1 330 q48 = 0 := (oG_i g373 h305).trans k348
  have k393 : σ374.1 331 q48 = 0 := (oG_i g373 h305).trans k349
  have k394 : σ374.1 327 q99 = 0 := (oG_i g373 h306).trans k350
  have k395 : σ374.1 328 q99 = 0 := (oG_i g373 h306).trans k351
  have k396 : σ374.1 329 q99 = 0 := (oG_i g373 h306).trans k352
  have k397 : σ374.1 330 q99 = 0 := (oG_i g373 h306).trans k353
  have k398 : σ374.1 331 q99 = 0 := (oG_i g373 h306).trans k354
  have k399 : σ374.1 327 q170 = 0 := (oG_i g373 h307).trans k355
  have k400 : σ374.1 328 q170 = 0 := (oG_i g373 h307).trans k356
  have k401 : σ374.1 329 q170 = 0 := (oG_i g373 h307).trans k357
  have k402 : σ374.1 330 q170 = 0 := (oG_i g373 h307).trans k358
  have k403 : σ374.1 331 q170 = 0 := (oG_i g373 h307).trans k359
  have k404 : σ374.1 327 q261 = 0 := (oG_i g373 h335).trans k360
  have k405 : σ374.1 328 q261 = 0 := (oG_i g373 h335).trans k361
  have k406 : σ374.1 329 q261 = 0 := (oG_i g373 h335).trans k362
  have k407 : σ374.1 330 q261 = 0 := (oG_i g373 h335).trans k363
  have k408 : σ374.1 331 q261 = 0 := (oG_i g373 h335).trans k364
  have k409 : σ374.2.2.2.2 128 a0 = some q3 := (oG_r g373 h302).trans k365
  have k410 : σ374.2.2.2.2 4096 q3 = some q17 := (oG_r g373 h303).trans k366
  have k411 : σ374.2.2.2.2 4097 q3 = some q48 := (oG_r g373 h303).trans k367
  have k412 : σ374.2.2.2.2 4098 q3 = some q99 := (oG_r g373 h303).trans k368
  have k413 : σ374.2.2.2.2 4099 q3 = some q170 := (oG_r g373 h303).trans k369
  have k414 : σ374.2.2.2.2 4100 q3 = some q261 := (oG_r g373 h303).trans k370
  have h415 : oA L τ q372 21 := oG_q g373
  have n416 := oX_new ox g373
  have ox := oX_g ox g373
  refine lv_dup hx hb dX3_init_29 rfl ?_
  refine o_cI hw (oRunI cx hA hw q_X6_init k_m_X3_15 (As := []) (c_X6_init q372 h415 (fun j => oG_zi g373) (fun j => oG_zl g373) ) (by decide) rfl hl.1 rfl (Nat.le_of_ble_eq_true rfl) dX3_init_30 (by decide)) (fun L τ σ417 H locs hp hw => ?_)
  obtain ⟨y418, t419, fy418_327, fy418_328, fy418_329, fy418_330, fy418_331⟩ := hp
  have h420 : oA L τ a0 18 := oX_a y418 h375 (rw_ne h375 h415 (by decide))
  have h421 : oA L τ q3 42 := oX_a y418 h376 (rw_ne h376 h415 (by decide))
  have h422 : oA L τ q17 5 := oX_a y418 h377 (rw_ne h377 h415 (by decide))
  have h423 : oA L τ q48 5 := oX_a y418 h378 (rw_ne h378 h415 (by decide))
  have h424 : oA L τ q99 5 := oX_a y418 h379 (rw_ne h379 h415 (by decide))
  have h425 : oA L τ q170 5 := oX_a y418 h380 (rw_ne h380 h415 (by decide))
  have h426 : oA L τ q261 5 := oX_a y418 h381 (rw_ne h381 h415 (by decide))
  have k427 : σ417.1 129 a0 = 0 := (oX_ki y418 h375 (rw_ne h375 h415 (by decide))).trans k382
  have k428 : σ417.1 130 a0 = 0 := (oX_ki y418 h375 (rw_ne h375 h415 (by decide))).trans k383
  have k429 : σ417.1 327 q17 = 0 := (oX_ki y418 h377 (rw_ne h377 h415 (by decide))).trans k384
  have k430 : σ417.1 328 q17 = 0 := (oX_ki y418 h377 (rw_ne h377 h415 (by decide))).trans k385
  have k431 : σ417.1 329 q17 = 0 := (oX_ki y418 h377 (rw_ne h377 h415 (by decide))).trans k386
  have k432 : σ417.1 330 q17 = 0 := (oX_ki y418 h377 (rw_ne h377 h415 (by decide))).trans k387
  have k433 : σ417.1 331 q17 = 0 := (oX_ki y418 h377 (rw_ne h377 h415 (by decide))).trans k388
  have k434 : σ417.1 327 q48 = 0 := (oX_ki y418 h378 (rw_ne h378 h415 (by decide))).trans k389
  have k435 : σ417.1 328 q48 = 0 := (oX_ki y418 h378 (rw_ne h378 h415 (by decide))).trans k390
  have k436 : σ417.1 329 q48 = 0 := (oX_ki y418 h378 (rw_ne h378 h415 (by decide))).trans k391
  have k437 : σ417.1 330 q48 = 0 := (oX_ki y418 h378 (rw_ne h378 h415 (by decide))).trans k392
  have k438 : σ417.1 331 q48 = 0 := (oX_ki y418 h378 (rw_ne h378 h415 (by decide))).trans k393
  have k439 : σ417.1 327 q99 = 0 := (oX_ki y418 h379 (rw_ne h379 h415 (by decide))).trans k394
  have k440 : σ417.1 328 q99 = 0 := (oX_ki y418 h379 (rw_ne h379 h415 (by decide))).trans k395
  have k441 : σ417.1 329 q99 = 0 := (oX_ki y418 h379 (rw_ne h379 h415 (by decide))).trans k396
  have k442 : σ417.1 330 q99 = 0 := (oX_ki y418 h379 (rw_ne h379 h415 (by decide))).trans k397
  have k443 : σ417.1 331 q99 = 0 := (oX_ki y418 h379 (rw_ne h379 h415 (by decide))).trans k398
  have k444 : σ417.1 327 q170 = 0 := (oX_ki y418 h380 (rw_ne h380 h415 (by decide))).trans k399
  have k445 : σ417.1 328 q170 = 0 := (oX_ki y418 h380 (rw_ne h380 h415 (by decide))).trans k400
  have k446 : σ417.1 329 q170 = 0 := (oX_ki y418 h380 (rw_ne h380 h415 (by decide))).trans k401
  have k447 : σ417.1 330 q170 = 0 := (oX_ki y418 h380 (rw_ne h380 h415 (by decide))).trans k402
  have k448 : σ417.1 331 q170 = 0 := (oX_ki y418 h380 (rw_ne h380 h415 (by decide))).trans k403
  have k449 : σ417.1 327 q261 = 0 := (oX_ki y418 h381 (rw_ne h381 h415 (by decide))).trans k404
  have k450 : σ417.1 328 q261 = 0 := (oX_ki y418 h381 (rw_ne h381 h415 (by decide))).trans k405
  have k451 : σ417.1 329 q261 = 0 := (oX_ki y418 h381 (rw_ne h381 h415 (by decide))).trans k406
  have k452 : σ417.1 330 q261 = 0 := (oX_ki y418 h381 (rw_ne h381 h415 (by decide))).trans k407
  have k453 : σ417.1 331 q261 = 0 := (oX_ki y418 h381 (rw_ne h381 h415 (by decide))).trans k408
  have k454 : σ417.2.2.2.2 128 a0 = some q3 := (oX_kr y418 h375 (rw_ne h375 h415 (by decide))).trans k409
  have k455 : σ417.2.2.2.2 4096 q3 = some q17 := (oX_kr y418 h376 (rw_ne h376 h415 (by decide))).trans k410
  have k456 : σ417.2.2.2.2 4097 q3 = some q48 := (oX_kr y418 h376 (rw_ne h376 h415 (by decide))).trans k411
  have k457 : σ417.2.2.2.2 4098 q3 = some q99 := (oX_kr y418 h376 (rw_ne h376 h415 (by decide))).trans k412
  have k458 : σ417.2.2.2.2 4099 q3 = some q170 := (oX_kr y418 h376 (rw_ne h376 h415 (by decide))).trans k413
  have k459 : σ417.2.2.2.2 4100 q3 = some q261 := (oX_kr y418 h376 (rw_ne h376 h415 (by decide))).trans k414
  have h460 : oA L τ q372 5 := oX_q y418 h415 t419
  have ox := oX_x ox y418 n416
  refine o_astq cx hw h421 (by decide) rfl (fun _ => rfl) h460 (iv_in (⟨by decide, by decide⟩ : Iv 5 5 5) (by decide)) dX3_init_33 (fun σ462 H locs e461 hw => ?_)
  have k463 : σ462.1 129 a0 = 0 := (kp_r e461).trans k427
  have k464 : σ462.1 130 a0 = 0 := (kp_r e461).trans k428
  have k465 : σ462.1 327 q17 = 0 := (kp_r e461).trans k429
  have k466 : σ462.1 328 q17 = 0 := (kp_r e461).trans k430
  have k467 : σ462.1 329 q17 = 0 := (kp_r e461).trans k431
  have k468 : σ462.1 330 q17 = 0 := (kp_r e461).trans k432
  have k469 : σ462.1 331 q17 = 0 := (kp_r e461).trans k433
  have k470 : σ462.1 327 q48 = 0 := (kp_r e461).trans k434
  have k471 : σ462.1 328 q48 = 0 := (kp_r e461).trans k435
  have k472 : σ462.1 329 q48 = 0 := (kp_r e461).trans k436
  have k473 : σ462.1 330 q48 = 0 := (kp_r e461).trans k437
  have k474 : σ462.1 331 q48 = 0 := (kp_r e461).trans k438
  have k475 : σ462.1 327 q99 = 0 := (kp_r e461).trans k439
  have k476 : σ462.1 328 q99 = 0 := (kp_r e461).trans k440
  have k477 : σ462.1 329 q99 = 0 := (kp_r e461).trans k441
  have k478 : σ462.1 330 q99 = 0 := (kp_r e461).trans k442
  have k479 : σ462.1 331 q99 = 0 := (kp_r e461).trans k443
  have k480 : σ462.1 327 q170 = 0 := (kp_r e461).trans k444
  have k481 : σ462.1 328 q170 = 0 := (kp_r e461).trans k445
  have k482 : σ462.1 329 q170 = 0 := (kp_r e461).trans k446
  have k483 : σ462.1 330 q170 = 0 := (kp_r e461).trans k447
  have k484 : σ462.1 331 q170 = 0 := (kp_r e461).trans k448
  have k485 : σ462.1 327 q261 = 0 := (kp_r e461).trans k449
  have k486 : σ462.1 328 q261 = 0 := (kp_r e461).trans k450
  have k487 : σ462.1 329 q261 = 0 := (kp_r e461).trans k451
  have k488 : σ462.1 330 q261 = 0 := (kp_r e461).trans k452
  have k489 : σ462.1 331 q261 = 0 := (kp_r e461).trans k453
  have k490 : σ462.1 327 q372 = 0 := (kp_r e461).trans fy418_327
  have k491 : σ462.1 328 q372 = 0 := (kp_r e461).trans fy418_328
  have k492 : σ462.1 329 q372 = 0 := (kp_r e461).trans fy418_329
  have k493 : σ462.1 330 q372 = 0 := (kp_r e461).trans fy418_330
  have k494 : σ462.1 331 q372 = 0 := (kp_r e461).trans fy418_331
  have k495 : σ462.2.2.2.2 128 a0 = some q3 := (kr_r e461 (by decide)).trans k454
  have k496 : σ462.2.2.2.2 4096 q3 = some q17 := (kr_r e461 (by decide)).trans k455
  have k497 : σ462.2.2.2.2 4097 q3 = some q48 := (kr_r e461 (by decide)).trans k456
  have k498 : σ462.2.2.2.2 4098 q3 = some q99 := (kr_r e461 (by decide)).trans k457
  have k499 : σ462.2.2.2.2 4099 q3 = some q170 := (kr_r e461 (by decide)).trans k458
  have k500 : σ462.2.2.2.2 4100 q3 = some q261 := (kr_r e461 (by decide)).trans k459
  have k501 : σ462.2.2.2.2 4101 q3 = some q372 := kr_s e461
  have ox := oX_rn ox e461 n10
  refine lv_iinc (v := 6) (lv' := [(1, .int 6), (0, .ref a0)]) hx hb dX3_init_34 hl (k := 0) rfl (by decide) (by decide) rfl (fun ls hl => ?_)
  refine lv_goto (tgt := 15) hx hb dX3_init_37 (by decide) ?_
  refine lv_iload_n hx hb dX3_init_15 rfl (lv_at hl 0 rfl) ?_
  refine lv_bipush (v := 10) hx hb dX3_init_16 (by decide) ?_
  refine lv_icmp_ge (tgt := 40) hx hb dX3_init_18 (by decide) (fun c502 => ?_) (fun c502 => ?_)
  · exact absurd c502 (show ¬ (10 : Int32) ≤ 6 by decide)
  refine lv_aload_n hx hb dX3_init_21 rfl (lv_at hl 1 rfl) ?_
  refine o_getK cx hw 2 0 rfl fiX3 h420 (by decide) rfl (by decide) rfl rfl k_f_X3_11 (j := 128) rfl k495 dX3_init_22 ?_
  refine lv_iload_n hx hb dX3_init_25 rfl (lv_at hl 0 rfl) ?_
  refine o_new cx hA hw 5 (by decide) rfl fiX6 tyX6 tyX6_ok dfX6 k_c_X3_9 k_n_X6 k_i_X6 (by decide) (by decide) dX3_init_26 (fun q503 L τ σ505 H g504 hw => ?_)
  have h506 : oA L τ a0 18 := oG_a g504 h420
  have h507 : oA L τ q3 42 := oG_a g504 h421
  have h508 : oA L τ q17 5 := oG_a g504 h422
  have h509 : oA L τ q48 5 := oG_a g504 h423
  have h510 : oA L τ q99 5 := oG_a g504 h424
  have h511 : oA L τ q170 5 := oG_a g504 h425
  have h512 : oA L τ q261 5 := oG_a g504 h426
  have h513 : oA L τ q372 5 := oG_a g504 h460
  have k514 : σ505.1 129 a0 = 0 := (oG_i g504 h420).trans k463
  have k515 : σ505.1 130 a0 = 0 := (oG_i g504 h420).trans k464
  have k516 : σ505.1 327 q17 = 0 := (oG_i g504 h422).trans k465
  have k517 : σ505.1 328 q17 = 0 := (oG_i g504 h422).trans k466
  have k518 : σ505.1 329 q17 = 0 := (oG_i g504 h422).trans k467
  have k519 : σ505.1 330 q17 = 0 := (oG_i g504 h422).trans k468
  have k520 : σ505.1 331 q17 = 0 := (oG_i g504 h422).trans k469
  have k521 : σ505.1 327 q48 = 0 := (oG_i g504 h423).trans k470
  have k522 : σ505.1 328 q48 = 0 := (oG_i g504 h423).trans k471
  have k523 : σ505.1 329 q48 = 0 := (oG_i g504 h423).trans k472
  have k524 : σ505.1 330 q48 = 0 := (oG_i g504 h423).trans k473
  have k525 : σ505.1 331 q48 = 0 := (oG_i g504 h423).trans k474
  have k526 : σ505.1 327 q99 = 0 := (oG_i g504 h424).trans k475
  have k527 : σ505.1 328 q99 = 0 := (oG_i g504 h424).trans k476
  have k528 : σ505.1 329 q99 = 0 := (oG_i g504 h424).trans k477
  have k529 : σ505.1 330 q99 = 0 := (oG_i g504 h424).trans k478
  have k530 : σ505.1 331 q99 = 0 := (oG_i g504 h424).trans k479
  have k531 : σ505.1 327 q170 = 0 := (oG_i g504 h425).trans k480
  have k532 : σ505.1 328 q170 = 0 := (oG_i g504 h425).trans k481
  have k533 : σ505.1 329 q170 = 0 := (oG_i g504 h425).trans k482
  have k534 : σ505.1 330 q170 = 0 := (oG_i g504 h425).trans k483
  have k535 : σ505.1 331 q170 = 0 := (oG_i g504 h425).trans k484
  have k536 : σ505.1 327 q261 = 0 := (oG_i g504 h426).trans k485
  have k537 : σ505.1 328 q261 = 0 := (oG_i g504 h426).trans k486
  have k538 : σ505.1 329 q261 = 0 := (oG_i g504 h426).trans k487
  have k539 : σ505.1 330 q261 = 0 := (oG_i g504 h426).trans k488
  have k540 : σ505.1 331 q261 = 0 := (oG_i g504 h426).trans k489
  have k541 : σ505.1 327 q372 = 0 := (oG_i g504 h460).trans k490
  have k542 : σ505.1 328 q372 = 0 := (oG_i g504 h460).trans k491
  have k543 : σ505.1 329 q372 = 0 := (oG_i g504 h460).trans k492
  have k544 : σ505.1 330 q372 = 0 := (oG_i g504 h460).trans k493
  have k545 : σ505.1 331 q372 = 0 := (oG_i g504 h460).trans k494
  have k546 : σ505.2.2.2.2 128 a0 = some q3 := (oG_r g504 h420).trans k495
  have k547 : σ505.2.2.2.2 4096 q3 = some q17 := (oG_r g504 h421).trans k496
  have k548 : σ505.2.2.2.2 4097 q3 = some q48 := (oG_r g504 h421).trans k497
  have k549 : σ505.2.2.2.2 4098 q3 = some q99 := (oG_r g504 h421).trans k498
  have k550 : σ505.2.2.2.2 4099 q3 = some q170 := (oG_r g504 h421).trans k499
  have k551 : σ505.2.2.2.2 4100 q3 = some q261 := (oG_r g504 h421).trans k500
  have k552 : σ505.2.2.2.2 4101 q3 = some q372 := (oG_r g504 h421).trans k501
  have h553 : oA L τ q503 21 := oG_q g504
  have n554 := oX_new ox g504
  have ox := oX_g ox g504
  refine lv_dup hx hb dX3_init_29 rfl ?_
  refine o_cI hw (oRunI cx hA hw q_X6_init k_m_X3_15 (As := []) (c_X6_init q503 h553 (fun j => oG_zi g504) (fun j => oG_zl g504) ) (by decide) rfl hl.1 rfl (Nat.le_of_ble_eq_true rfl) dX3_init_30 (by decide)) (fun L τ σ555 H locs hp hw => ?_)
  obtain ⟨y556, t557, fy556_327, fy556_328, fy556_329, fy556_330, fy556_331⟩ := hp
  have h558 : oA L τ a0 18 := oX_a y556 h506 (rw_ne h506 h553 (by decide))
  have h559 : oA L τ q3 42 := oX_a y556 h507 (rw_ne h507 h553 (by decide))
  have h560 : oA L τ q17 5 := oX_a y556 h508 (rw_ne h508 h553 (by decide))
  have h561 : oA L τ q48 5 := oX_a y556 h509 (rw_ne h509 h553 (by decide))
  have h562 : oA L τ q99 5 := oX_a y556 h510 (rw_ne h510 h553 (by decide))
  have h563 : oA L τ q170 5 := oX_a y556 h511 (rw_ne h511 h553 (by decide))
  have h564 : oA L τ q261 5 := oX_a y556 h512 (rw_ne h512 h553 (by decide))
  have h565 : oA L τ q372 5 := oX_a y556 h513 (rw_ne h513 h553 (by decide))
  have k566 : σ555.1 129 a0 = 0 := (oX_ki y556 h506 (rw_ne h506 h553 (by decide))).trans k514
  have k567 : σ555.1 130 a0 = 0 := (oX_ki y556 h506 (rw_ne h506 h553 (by decide))).trans k515
  have k568 : σ555.1 327 q17 = 0 := (oX_ki y556 h508 (rw_ne h508 h553 (by decide))).trans k516
  have k569 : σ555.1 328 q17 = 0 := (oX_ki y556 h508 (rw_ne h508 h553 (by decide))).trans k517
  have k570 : σ555.1 329 q17 = 0 := (oX_ki y556 h508 (rw_ne h508 h553 (by decide))).trans k518
  have k571 : σ555.1 330 q17 = 0 := (oX_ki y556 h508 (rw_ne h508 h553 (by decide))).trans k519
  have k572 : σ555.1 331 q17 = 0 := (oX_ki y556 h508 (rw_ne h508 h553 (by decide))).trans k520
  have k573 : σ555.1 327 q48 = 0 := (oX_ki y556 h509 (rw_ne h509 h553 (by decide))).trans k521
  have k574 : σ555.1 328 q48 = 0 := (oX_ki y556 h509 (rw_ne h509 h553 (by decide))).trans k522
  have k575 : σ555.1 329 q48 = 0 := (oX_ki y556 h509 (rw_ne h509 h553 (by decide))).trans k523
  have k576 : σ555.1 330 q48 = 0 := (oX_ki y556 h509 (rw_ne h509 h553 (by decide))).trans k524
  have k577 : σ555.1 331 q48 = 0 := (oX_ki y556 h509 (rw_ne h509 h553 (by decide))).trans k525
  have k578 : σ555.1 327 q99 = 0 := (oX_ki y556 h510 (rw_ne h510 h553 (by decide))).trans k526
  have k579 : σ555.1 328 q99 = 0 := (oX_ki y556 h510 (rw_ne h510 h553 (by decide))).trans k527
  have k580 : σ555.1 329 q99 = 0 := (oX_ki y556 h510 (rw_ne h510 h553 (by decide))).trans k528
  have k581 : σ555.1 330 q99 = 0 := (oX_ki y556 h510 (rw_ne h510 h553 (by decide))).trans k529
  have k582 : σ555.1 331 q99 = 0 := (oX_ki y556 h510 (rw_ne h510 h553 (by decide))).trans k530
  have k583 : σ555.1 327 q170 = 0 := (oX_ki y556 h511 (rw_ne h511 h553 (by decide))).trans k531
  have k584 : σ555.1 328 q170 = 0 := (oX_ki y556 h511 (rw_ne h511 h553 (by decide))).trans k532
  have k585 : σ555.1 329 q170 = 0 := (oX_ki y556 h511 (rw_ne h511 h553 (by decide))).trans k533
  have k586 : σ555.1 330 q170 = 0 := (oX_ki y556 h511 (rw_ne h511 h553 (by decide))).trans k534
  have k587 : σ555.1 331 q170 = 0 := (oX_ki y556 h511 (rw_ne h511 h553 (by decide))).trans k535
  have k588 : σ555.1 327 q261 = 0 := (oX_ki y556 h512 (rw_ne h512 h553 (by decide))).trans k536
  have k589 : σ555.1 328 q261 = 0 := (oX_ki y556 h512 (rw_ne h512 h553 (by decide))).trans k537
  have k590 : σ555.1 329 q261 = 0 := (oX_ki y556 h512 (rw_ne h512 h553 (by decide))).trans k538
  have k591 : σ555.1 330 q261 = 0 := (oX_ki y556 h512 (rw_ne h512 h553 (by decide))).trans k539
  have k592 : σ555.1 331 q261 = 0 := (oX_ki y556 h512 (rw_ne h512 h553 (by decide))).trans k540
  have k593 : σ555.1 327 q372 = 0 := (oX_ki y556 h513 (rw_ne h513 h553 (by decide))).trans k541
  have k594 : σ555.1 328 q372 = 0 := (oX_ki y556 h513 (rw_ne h513 h553 (by decide))).trans k542
  have k595 : σ555.1 329 q372 = 0 := (oX_ki y556 h513 (rw_ne h513 h553 (by decide))).trans k543
  have k596 : σ555.1 330 q372 = 0 := (oX_ki y556 h513 (rw_ne h513 h553 (by decide))).trans k544
  have k597 : σ555.1 331 q372 = 0 := (oX_ki y556 h513 (rw_ne h513 h553 (by decide))).trans k545
  have k598 : σ555.2.2.2.2 128 a0 = some q3 := (oX_kr y556 h506 (rw_ne h506 h553 (by decide))).trans k546
  have k599 : σ555.2.2.2.2 4096 q3 = some q17 := (oX_kr y556 h507 (rw_ne h507 h553 (by decide))).trans k547
  have k600 : σ555.2.2.2.2 4097 q3 = some q48 := (oX_kr y556 h507 (rw_ne h507 h553 (by decide))).trans k548
  have k601 : σ555.2.2.2.2 4098 q3 = some q99 := (oX_kr y556 h507 (rw_ne h507 h553 (by decide))).trans k549
  have k602 : σ555.2.2.2.2 4099 q3 = some q170 := (oX_kr y556 h507 (rw_ne h507 h553 (by decide))).trans k550
  have k603 : σ555.2.2.2.2 4100 q3 = some q261 := (oX_kr y556 h507 (rw_ne h507 h553 (by decide))).trans k551
  have k604 : σ555.2.2.2.2 4101 q3 = some q372 := (oX_kr y556 h507 (rw_ne h507 h553 (by decide))).trans k552
  have h605 : oA L τ q503 5 := oX_q y556 h553 t557
  have ox := oX_x ox y556 n554
  refine o_astq cx hw h559 (by decide) rfl (fun _ => rfl) h605 (iv_in (⟨by decide, by decide⟩ : Iv 6 6 6) (by decide)) dX3_init_33 (fun σ607 H locs e606 hw => ?_)
  have k608 : σ607.1 129 a0 = 0 := (kp_r e606).trans k566
  have k609 : σ607.1 130 a0 = 0 := (kp_r e606).trans k567
  have k610 : σ607.1 327 q17 = 0 := (kp_r e606).trans k568
  have k611 : σ607.1 328 q17 = 0 := (kp_r e606).trans k569
  have k612 : σ607.1 329 q17 = 0 := (kp_r e606).trans k570
  have k613 : σ607.1 330 q17 = 0 := (kp_r e606).trans k571
  have k614 : σ607.1 331 q17 = 0 := (kp_r e606).trans k572
  have k615 : σ607.1 327 q48 = 0 := (kp_r e606).trans k573
  have k616 : σ607.1 328 q48 = 0 := (kp_r e606).trans k574
  have k617 : σ607.1 329 q48 = 0 := (kp_r e606).trans k575
  have k618 : σ607.1 330 q48 = 0 := (kp_r e606).trans k576
  have k619 : σ607.1 331 q48 = 0 := (kp_r e606).trans k577
  have k620 : σ607.1 327 q99 = 0 := (kp_r e606).trans k578
  have k621 : σ607.1 328 q99 = 0 := (kp_r e606).trans k579
  have k622 : σ607.1 329 q99 = 0 := (kp_r e606).trans k580
  have k623 : σ607.1 330 q99 = 0 := (kp_r e606).trans k581
  have k624 : σ607.1 331 q99 = 0 := (kp_r e606).trans k582
  have k625 : σ607.1 327 q170 = 0 := (kp_r e606).trans k583
  have k626 : σ607.1 328 q170 = 0 := (kp_r e606).trans k584
  have k627 : σ607.1 329 q170 = 0 := (kp_r e606).trans k585
  have k628 : σ607.1 330 q170 = 0 := (kp_r e606).trans k586
  have k629 : σ607.1 331 q170 = 0 := (kp_r e606).trans k587
  have k630 : σ607.1 327 q261 = 0 := (kp_r e606).trans k588
  have k631 : σ607.1 328 q261 = 0 := (kp_r e606).trans k589
  have k632 : σ607.1 329 q261 = 0 := (kp_r e606).trans k590
  have k633 : σ607.1 330 q261 = 0 := (kp_r e606).trans k591
  have k634 : σ607.1 331 q261 = 0 := (kp_r e606).trans k592
  have k635 : σ607.1 327 q372 = 0 := (kp_r e606).trans k593
  have k636 : σ607.1 328 q372 = 0 := (kp_r e606).trans k594
  have k637 : σ607.1 329 q372 = 0 := (kp_r e606).trans k595
  have k638 : σ607.1 330 q372 = 0 := (kp_r e606).trans k596
  have k639 : σ607.1 331 q372 = 0 := (kp_r e606).trans k597
  have k640 : σ607.1 327 q503 = 0 := (kp_r e606).trans fy556_327
  have k641 : σ607.1 328 q503 = 0 := (kp_r e606).trans fy556_328
  have k642 : σ607.1 329 q503 = 0 := (kp_r e606).trans fy556_329
  have k643 : σ607.1 330 q503 = 0 := (kp_r e606).trans fy556_330
  have k644 : σ607.1 331 q503 = 0 := (kp_r e606).trans fy556_331
  have k645 : σ607.2.2.2.2 128 a0 = some q3 := (kr_r e606 (by decide)).trans k598
  have k646 : σ607.2.2.2.2 4096 q3 = some q17 := (kr_r e606 (by decide)).trans k599
  have k647 : σ607.2.2.2.2 4097 q3 = some q48 := (kr_r e606 (by decide)).trans k600
  have k648 : σ607.2.2.2.2 4098 q3 = some q99 := (kr_r e606 (by decide)).trans k601
  have k649 : σ607.2.2.2.2 4099 q3 = some q170 := (kr_r e606 (by decide)).trans k602
  have k650 : σ607.2.2.2.2 4100 q3 = some q261 := (kr_r e606 (by decide)).trans k603
  have k651 : σ607.2.2.2.2 4101 q3 = some q372 := (kr_r e606 (by decide)).trans k604
  have k652 : σ607.2.2.2.2 4102 q3 = some q503 := kr_s e606
  have ox := oX_rn ox e606 n10
  refine lv_iinc (v := 7) (lv' := [(1, .int 7), (0, .ref a0)]) hx hb dX3_init_34 hl (k := 0) rfl (by decide) (by decide) rfl (fun ls hl => ?_)
  refine lv_goto (tgt := 15) hx hb dX3_init_37 (by decide) ?_
  refine lv_iload_n hx hb dX3_init_15 rfl (lv_at hl 0 rfl) ?_
  refine lv_bipush (v := 10) hx hb dX3_init_16 (by decide) ?_
  refine lv_icmp_ge (tgt := 40) hx hb dX3_init_18 (by decide) (fun c653 => ?_) (fun c653 => ?_)
  · exact absurd c653 (show ¬ (10 : Int32) ≤ 7 by decide)
  refine lv_aload_n hx hb dX3_init_21 rfl (lv_at hl 1 rfl) ?_
  refine o_getK cx hw 2 0 rfl fiX3 h558 (by decide) rfl (by decide) rfl rfl k_f_X3_11 (j := 128) rfl k645 dX3_init_22 ?_
  refine lv_iload_n hx hb dX3_init_25 rfl (lv_at hl 0 rfl) ?_
  refine o_new cx hA hw 5 (by decide) rfl fiX6 tyX6 tyX6_ok dfX6 k_c_X3_9 k_n_X6 k_i_X6 (by decide) (by decide) dX3_init_26 (fun q654 L τ σ656 H g655 hw => ?_)
  have h657 : oA L τ a0 18 := oG_a g655 h558
  have h658 : oA L τ q3 42 := oG_a g655 h559
  have h659 : oA L τ q17 5 := oG_a g655 h560
  have h660 : oA L τ q48 5 := oG_a g655 h561
  have h661 : oA L τ q99 5 := oG_a g655 h562
  have h662 : oA L τ q170 5 := oG_a g655 h563
  have h663 : oA L τ q261 5 := oG_a g655 h564
  have h664 : oA L τ q372 5 := oG_a g655 h565
  have h665 : oA L τ q503 5 := oG_a g655 h605
  have k666 : σ656.1 129 a0 = 0 := (oG_i g655 h558).trans k608
  have k667 : σ656.1 130 a0 = 0 := (oG_i g655 h558).trans k609
  have k668 : σ656.1 327 q17 = 0 := (oG_i g655 h560).trans k610
  have k669 : σ656.1 328 q17 = 0 := (oG_i g655 h560).trans k611
  have k670 : σ656.1 329 q17 = 0 := (oG_i g655 h560).trans k612
  have k671 : σ656.1 330 q17 = 0 := (oG_i g655 h560).trans k613
  have k672 : σ656.1 331 q17 = 0 := (oG_i g655 h560).trans k614
  have k673 : σ656.1 327 q48 = 0 := (oG_i g655 h561).trans k615
  have k674 : σ656.1 328 q48 = 0 := (oG_i g655 h561).trans k616
  have k675 : σ656.1 329 q48 = 0 := (oG_i g655 h561).trans k617
  have k676 : σ656.1 330 q48 = 0 := (oG_i g655 h561).trans k618
  have k677 : σ656.1 331 q48 = 0 := (oG_i g655 h561).trans k619
  have k678 : σ656.1 327 q99 = 0 := (oG_i g655 h562).trans k620
  have k679 : σ656.1 328 q99 = 0 := (oG_i g655 h562).trans k621
  have k680 : σ656.1 329 q99 = 0 := (oG_i g655 h562).trans k622
  have k681 : σ656.1 330 q99 = 0 := (oG_i g655 h562).trans k623
  have k682 : σ656.1 331 q99 = 0 := (oG_i g655 h562).trans k624
  have k683 : σ656.1 327 q170 = 0 := (oG_i g655 h563).trans k625
  have k684 : σ656.1 328 q170 = 0 := (oG_i g655 h563).trans k626
  have k685 : σ656.1 329 q170 = 0 := (oG_i g655 h563).trans k627
  have k686 : σ656.1 330 q170 = 0 := (oG_i g655 h563).trans k628
  have k687 : σ656.1 331 q170 = 0 := (oG_i g655 h563).trans k629
  have k688 : σ656.1 327 q261 = 0 := (oG_i g655 h564).trans k630
  have k689 : σ656.1 328 q261 = 0 := (oG_i g655 h564).trans k631
  have k690 : σ656.1 329 q261 = 0 := (oG_i g655 h564).trans k632
  have k691 : σ656.1 330 q261 = 0 := (oG_i g655 h564).trans k633
  have k692 : σ656.1 331 q261 = 0 := (oG_i g655 h564).trans k634
  have k693 : σ656.1 327 q372 = 0 := (oG_i g655 h565).trans k635
  have k694 : σ656.1 328 q372 = 0 := (oG_i g655 h565).trans k636
  have k695 : σ656.1 329 q372 = 0 := (oG_i g655 h565).trans k637
  have k696 : σ656.1 330 q372 = 0 := (oG_i g655 h565).trans k638
  have k697 : σ656.1 331 q372 = 0 := (oG_i g655 h565).trans k639
  have k698 : σ656.1 327 q503 = 0 := (oG_i g655 h605).trans k640
  have k699 : σ656.1 328 q503 = 0 := (oG_i g655 h605).trans k641
  have k700 : σ656.1 329 q503 = 0 := (oG_i g655 h605).trans k642
  have k701 : σ656.1 330 q503 = 0 := (oG_i g655 h605).trans k643
  have k702 : σ656.1 331 q503 = 0 := (oG_i g655 h605).trans k644
  have k703 : σ656.2.2.2.2 128 a0 = some q3 := (oG_r g655 h558).trans k645
  have k704 : σ656.2.2.2.2 4096 q3 = some q17 := (oG_r g655 h559).trans k646
  have k705 : σ656.2.2.2.2 4097 q3 = some q48 := (oG_r g655 h559).trans k647
  have k706 : σ656.2.2.2.2 4098 q3 = some q99 := (oG_r g655 h559).trans k648
  have k707 : σ656.2.2.2.2 4099 q3 = some q170 := (oG_r g655 h559).trans k649
  have k708 : σ656.2.2.2.2 4100 q3 = some q261 := (oG_r g655 h559).trans k650
  have k709 : σ656.2.2.2.2 4101 q3 = some q372 := (oG_r g655 h559).trans k651
  have k710 : σ656.2.2.2.2 4102 q3 = some q503 := (oG_r g655 h559).trans k652
  have h711 : oA L τ q654 21 := oG_q g655
  have n712 := oX_new ox g655
  have ox := oX_g ox g655
  refine lv_dup hx hb dX3_init_29 rfl ?_
  refine o_cI hw (oRunI cx hA hw q_X6_init k_m_X3_15 (As := []) (c_X6_init q654 h711 (fun j => oG_zi g655) (fun j => oG_zl g655) ) (by decide) rfl hl.1 rfl (Nat.le_of_ble_eq_true rfl) dX3_init_30 (by decide)) (fun L τ σ713 H locs hp hw => ?_)
  obtain ⟨y714, t715, fy714_327, fy714_328, fy714_329, fy714_330, fy714_331⟩ := hp
  have h716 : oA L τ a0 18 := oX_a y714 h657 (rw_ne h657 h711 (by decide))
  have h717 : oA L τ q3 42 := oX_a y714 h658 (rw_ne h658 h711 (by decide))
  have h718 : oA L τ q17 5 := oX_a y714 h659 (rw_ne h659 h711 (by decide))
  have h719 : oA L τ q48 5 := oX_a y714 h660 (rw_ne h660 h711 (by decide))
  have h720 : oA L τ q99 5 := oX_a y714 h661 (rw_ne h661 h711 (by decide))
  have h721 : oA L τ q170 5 := oX_a y714 h662 (rw_ne h662 h711 (by decide))
  have h722 : oA L τ q261 5 := oX_a y714 h663 (rw_ne h663 h711 (by decide))
  have h723 : oA L τ q372 5 := oX_a y714 h664 (rw_ne h664 h711 (by decide))
  have h724 : oA L τ q503 5 := oX_a y714 h665 (rw_ne h665 h711 (by decide))
  have k725 : σ713.1 129 a0 = 0 := (oX_ki y714 h657 (rw_ne h657 h711 (by decide))).trans k666
  have k726 : σ713.1 130 a0 = 0 := (oX_ki y714 h657 (rw_ne h657 h711 (by decide))).trans k667
  have k727 : σ713.1 327 q17 = 0 := (oX_ki y714 h659 (rw_ne h659 h711 (by decide))).trans k668
  have k728 : σ713.1 328 q17 = 0 := (oX_ki y714 h659 (rw_ne h659 h711 (by decide))).trans k669
  have k729 : σ713.1 329 q17 = 0 := (oX_ki y714 h659 (rw_ne h659 h711 (by decide))).trans k670
  have k730 : σ713.1 330 q17 = 0 := (oX_ki y714 h659 (rw_ne h659 h711 (by decide))).trans k671
  have k731 : σ713.1 331 q17 = 0 := (oX_ki y714 h659 (rw_ne h659 h711 (by decide))).trans k672
  have k732 : σ713.1 327 q48 = 0 := (oX_ki y714 h660 (rw_ne h660 h711 (by decide))).trans k673
  have k733 : σ713.1 328 q48 = 0 := (oX_ki y714 h660 (rw_ne h660 h711 (by decide))).trans k674
  have k734 : σ713.1 329 q48 = 0 := (oX_ki y714 h660 (rw_ne h660 h711 (by decide))).trans k675
  have k735 : σ713.1 330 q48 = 0 := (oX_ki y714 h660 (rw_ne h660 h711 (by decide))).trans k676
  have k736 : σ713.1 331 q48 = 0 := (oX_ki y714 h660 (rw_ne h660 h711 (by decide))).trans k677
  have k737 : σ713.1 327 q99 = 0 := (oX_ki y714 h661 (rw_ne h661 h711 (by decide))).trans k678
  have k738 : σ713.1 328 q99 = 0 := (oX_ki y714 h661 (rw_ne h661 h711 (by decide))).trans k679
  have k739 : σ713.1 329 q99 = 0 := (oX_ki y714 h661 (rw_ne h661 h711 (by decide))).trans k680
  have k740 : σ713.1 330 q99 = 0 := (oX_ki y714 h661 (rw_ne h661 h711 (by decide))).trans k681
  have k741 : σ713.1 331 q99 = 0 := (oX_ki y714 h661 (rw_ne h661 h711 (by decide))).trans k682
  have k742 : σ713.1 327 q170 = 0 := (oX_ki y714 h662 (rw_ne h662 h711 (by decide))).trans k683
  have k743 : σ713.1 328 q170 = 0 := (oX_ki y714 h662 (rw_ne h662 h711 (by decide))).trans k684
  have k744 : σ713.1 329 q170 = 0 := (oX_ki y714 h662 (rw_ne h662 h711 (by decide))).trans k685
  have k745 : σ713.1 330 q170 = 0 := (oX_ki y714 h662 (rw_ne h662 h711 (by decide))).trans k686
  have k746 : σ713.1 331 q170 = 0 := (oX_ki y714 h662 (rw_ne h662 h711 (by decide))).trans k687
  have k747 : σ713.1 327 q261 = 0 := (oX_ki y714 h663 (rw_ne h663 h711 (by decide))).trans k688
  have k748 : σ713.1 328 q261 = 0 := (oX_ki y714 h663 (rw_ne h663 h711 (by decide))).trans k689
  have k749 : σ713.1 329 q261 = 0 := (oX_ki y714 h663 (rw_ne h663 h711 (by decide))).trans k690
  have k750 : σ713.1 330 q261 = 0 := (oX_ki y714 h663 (rw_ne h663 h711 (by decide))).trans k691
  have k751 : σ713.1 331 q261 = 0 := (oX_ki y714 h663 (rw_ne h663 h711 (by decide))).trans k692
  have k752 : σ713.1 327 q372 = 0 := (oX_ki y714 h664 (rw_ne h664 h711 (by decide))).trans k693
  have k753 : σ713.1 328 q372 = 0 := (oX_ki y714 h664 (rw_ne h664 h711 (by decide))).trans k694
  have k754 : σ713.1 329 q372 = 0 := (oX_ki y714 h664 (rw_ne h664 h711 (by decide))).trans k695
  have k755 : σ713.1 330 q372 = 0 := (oX_ki y714 h664 (rw_ne h664 h711 (by decide))).trans k696
  have k756 : σ713.1 331 q372 = 0 := (oX_ki y714 h664 (rw_ne h664 h711 (by decide))).trans k697
  have k757 : σ713.1 327 q503 = 0 := (oX_ki y714 h665 (rw_ne h665 h711 (by decide))).trans k698
  have k758 : σ713.1 328 q503 = 0 := (oX_ki y714 h665 (rw_ne h665 h711 (by decide))).trans k699
  have k759 : σ713.1 329 q503 = 0 := (oX_ki y714 h665 (rw_ne h665 h711 (by decide))).trans k700
  have k760 : σ713.1 330 q503 = 0 := (oX_ki y714 h665 (rw_ne h665 h711 (by decide))).trans k701
  have k761 : σ713.1 331 q503 = 0 := (oX_ki y714 h665 (rw_ne h665 h711 (by decide))).trans k702
  have k762 : σ713.2.2.2.2 128 a0 = some q3 := (oX_kr y714 h657 (rw_ne h657 h711 (by decide))).trans k703
  have k763 : σ713.2.2.2.2 4096 q3 = some q17 := (oX_kr y714 h658 (rw_ne h658 h711 (by decide))).trans k704
  have k764 : σ713.2.2.2.2 4097 q3 = some q48 := (oX_kr y714 h658 (rw_ne h658 h711 (by decide))).trans k705
  have k765 : σ713.2.2.2.2 4098 q3 = some q99 := (oX_kr y714 h658 (rw_ne h658 h711 (by decide))).trans k706
  have k766 : σ713.2.2.2.2 4099 q3 = some q170 := (oX_kr y714 h658 (rw_ne h658 h711 (by decide))).trans k707
  have k767 : σ713.2.2.2.2 4100 q3 = some q261 := (oX_kr y714 h658 (rw_ne h658 h711 (by decide))).trans k708
  have k768 : σ713.2.2.2.2 4101 q3 = some q372 := (oX_kr y714 h658 (rw_ne h658 h711 (by decide))).trans k709
  have k769 : σ713.2.2.2.2 4102 q3 = some q503 := (oX_kr y714 h658 (rw_ne h658 h711 (by decide))).trans k710
  have h770 : oA L τ q654 5 := oX_q y714 h711 t715
  have ox := oX_x ox y714 n712
  refine o_astq cx hw h717 (by decide) rfl (fun _ => rfl) h770 (iv_in (⟨by decide, by decide⟩ : Iv 7 7 7) (by decide)) dX3_init_33 (fun σ772 H locs e771 hw => ?_)
  have k773 : σ772.1 129 a0 = 0 := (kp_r e771).trans k725
  have k774 : σ772.1 130 a0 = 0 := (kp_r e771).trans k726
  have k775 : σ772.1 327 q17 = 0 := (kp_r e771).trans k727
  have k776 : σ772.1 328 q17 = 0 := (kp_r e771).trans k728
  have k777 : σ772.1 329 q17 = 0 := (kp_r e771).trans k729
  have k778 : σ772.1 330 q17 = 0 := (kp_r e771).trans k730
  have k779 : σ772.1 331 q17 = 0 := (kp_r e771).trans k731
  have k780 : σ772.1 327 q48 = 0 := (kp_r e771).trans k732
  have k781 : σ772.1 328 q48 = 0 := (kp_r e771).trans k733
  have k782 : σ772.1 329 q48 = 0 := (kp_r e771).trans k734
  have k783 : σ772.1 330 q48 = 0 := (kp_r e771).trans k735
  have k784 : σ772.1 331 q48 = 0 := (kp_r e771).trans k736
  have k785 : σ772.1 327 q99 = 0 := (kp_r e771).trans k737
  have k786 : σ772.1 328 q99 = 0 := (kp_r e771).trans k738
  have k787 : σ772.1 329 q99 = 0 := (kp_r e771).trans k739
  have k788 : σ772.1 330 q99 = 0 := (kp_r e771).trans k740
  have k789 : σ772.1 331 q99 = 0 := (kp_r e771).trans k741
  have k790 : σ772.1 327 q170 = 0 := (kp_r e771).trans k742
  have k791 : σ772.1 328 q170 = 0 := (kp_r e771).trans k743
  have k792 : σ772.1 329 q170 = 0 := (kp_r e771).trans k744
  have k793 : σ772.1 330 q170 = 0 := (kp_r e771).trans k745
  have k794 : σ772.1 331 q170 = 0 := (kp_r e771).trans k746
  have k795 : σ772.1 327 q261 = 0 := (kp_r e771).trans k747
  have k796 : σ772.1 328 q261 = 0 := (kp_r e771).trans k748
  have k797 : σ772.1 329 q261 = 0 := (kp_r e771).trans k749
  have k798 : σ772.1 330 q261 = 0 := (kp_r e771).trans k750
  have k799 : σ772.1 331 q261 = 0 := (kp_r e771).trans k751
  have k800 : σ772.1 327 q372 = 0 := (kp_r e771).trans k752
  have k801 : σ772.1 328 q372 = 0 := (kp_r e771).trans k753
  have k802 : σ772.1 329 q372 = 0 := (kp_r e771).trans k754
  have k803 : σ772.1 330 q372 = 0 := (kp_r e771).trans k755
  have k804 : σ772.1 331 q372 = 0 := (kp_r e771).trans k756
  have k805 : σ772.1 327 q503 = 0 := (kp_r e771).trans k757
  have k806 : σ772.1 328 q503 = 0 := (kp_r e771).trans k758
  have k807 : σ772.1 329 q503 = 0 := (kp_r e771).trans k759
  have k808 : σ772.1 330 q503 = 0 := (kp_r e771).trans k760
  have k809 : σ772.1 331 q503 = 0 := (kp_r e771).trans k761
  have k810 : σ772.1 327 q654 = 0 := (kp_r e771).trans fy714_327
  have k811 : σ772.1 328 q654 = 0 := (kp_r e771).trans fy714_328
  have k812 : σ772.1 329 q654 = 0 := (kp_r e771).trans fy714_329
  have k813 : σ772.1 330 q654 = 0 := (kp_r e771).trans fy714_330
  have k814 : σ772.1 331 q654 = 0 := (kp_r e771).trans fy714_331
  have k815 : σ772.2.2.2.2 128 a0 = some q3 := (kr_r e771 (by decide)).trans k762
  have k816 : σ772.2.2.2.2 4096 q3 = some q17 := (kr_r e771 (by decide)).trans k763
  have k817 : σ772.2.2.2.2 4097 q3 = some q48 := (kr_r e771 (by decide)).trans k764
  have k818 : σ772.2.2.2.2 4098 q3 = some q99 := (kr_r e771 (by decide)).trans k765
  have k819 : σ772.2.2.2.2 4099 q3 = some q170 := (kr_r e771 (by decide)).trans k766
  have k820 : σ772.2.2.2.2 4100 q3 = some q261 := (kr_r e771 (by decide)).trans k767
  have k821 : σ772.2.2.2.2 4101 q3 = some q372 := (kr_r e771 (by decide)).trans k768
  have k822 : σ772.2.2.2.2 4102 q3 = some q503 := (kr_r e771 (by decide)).trans k769
  have k823 : σ772.2.2.2.2 4103 q3 = some q654 := kr_s e771
  have ox := oX_rn ox e771 n10
  refine lv_iinc (v := 8) (lv' := [(1, .int 8), (0, .ref a0)]) hx hb dX3_init_34 hl (k := 0) rfl (by decide) (by decide) rfl (fun ls hl => ?_)
  refine lv_goto (tgt := 15) hx hb dX3_init_37 (by decide) ?_
  refine lv_iload_n hx hb dX3_init_15 rfl (lv_at hl 0 rfl) ?_
  refine lv_bipush (v := 10) hx hb dX3_init_16 (by decide) ?_
  refine lv_icmp_ge (tgt := 40) hx hb dX3_init_18 (by decide) (fun c824 => ?_) (fun c824 => ?_)
  · exact absurd c824 (show ¬ (10 : Int32) ≤ 8 by decide)
  refine lv_aload_n hx hb dX3_init_21 rfl (lv_at hl 1 rfl) ?_
  refine o_getK cx hw 2 0 rfl fiX3 h716 (by decide) rfl (by decide) rfl rfl k_f_X3_11 (j := 128) rfl k815 dX3_init_22 ?_
  refine lv_iload_n hx hb dX3_init_25 rfl (lv_at hl 0 rfl) ?_
  refine o_new cx hA hw 5 (by decide) rfl fiX6 tyX6 tyX6_ok dfX6 k_c_X3_9 k_n_X6 k_i_X6 (by decide) (by decide) dX3_init_26 (fun q825 L τ σ827 H g826 hw => ?_)
  have h828 : oA L τ a0 18 := oG_a g826 h716
  have h829 : oA L τ q3 42 := oG_a g826 h717
  have h830 : oA L τ q17 5 := oG_a g826 h718
  have h831 : oA L τ q48 5 := oG_a g826 h719
  have h832 : oA L τ q99 5 := oG_a g826 h720
  have h833 : oA L τ q170 5 := oG_a g826 h721
  have h834 : oA L τ q261 5 := oG_a g826 h722
  have h835 : oA L τ q372 5 := oG_a g826 h723
  have h836 : oA L τ q503 5 := oG_a g826 h724
  have h837 : oA L τ q654 5 := oG_a g826 h770
  have k838 : σ827.1 129 a0 = 0 := (oG_i g826 h716).trans k773
  have k839 : σ827.1 130 a0 = 0 := (oG_i g826 h716).trans k774
  have k840 : σ827.1 327 q17 = 0 := (oG_i g826 h718).trans k775
  have k841 : σ827.1 328 q17 = 0 := (oG_i g826 h718).trans k776
  have k842 : σ827.1 329 q17 = 0 := (oG_i g826 h718).trans k777
  have k843 : σ827.1 330 q17 = 0 := (oG_i g826 h718).trans k778
  have k844 : σ827.1 331 q17 = 0 := (oG_i g826 h718).trans k779
  have k845 : σ827.1 327 q48 = 0 := (oG_i g826 h719).trans k780
  have k846 : σ827.1 328 q48 = 0 := (oG_i g826 h719).trans k781
  have k847 : σ827.1 329 q48 = 0 := (oG_i g826 h719).trans k782
  have k848 : σ827.1 330 q48 = 0 := (oG_i g826 h719).trans k783
  have k849 : σ827.1 331 q48 = 0 := (oG_i g826 h719).trans k784
  have k850 : σ827.1 327 q99 = 0 := (oG_i g826 h720).trans k785
  have k851 : σ827.1 328 q99 = 0 := (oG_i g826 h720).trans k786
  have k852 : σ827.1 329 q99 = 0 := (oG_i g826 h720).trans k787
  have k853 : σ827.1 330 q99 = 0 := (oG_i g826 h720).trans k788
  have k854 : σ827.1 331 q99 = 0 := (oG_i g826 h720).trans k789
  have k855 : σ827.1 327 q170 = 0 := (oG_i g826 h721).trans k790
  have k856 : σ827.1 328 q170 = 0 := (oG_i g826 h721).trans k791
  have k857 : σ827.1 329 q170 = 0 := (oG_i g826 h721).trans k792
  have k858 : σ827.1 330 q170 = 0 := (oG_i g826 h721).trans k793
  have k859 : σ827.1 331 q170 = 0 := (oG_i g826 h721).trans k794
  have k860 : σ827.1 327 q261 = 0 := (oG_i g826 h722).trans k795
  have k861 : σ827.1 328 q261 = 0 := (oG_i g826 h722).trans k796
  have k862 : σ827.1 329 q261 = 0 := (oG_i g826 h722).trans k797
  have k863 : σ827.1 330 q261 = 0 := (oG_i g826 h722).trans k798
  have k864 : σ827.1 331 q261 = 0 := (oG_i g826 h722).trans k799
  have k865 : σ827.1 327 q372 = 0 := (oG_i g826 h723).trans k800
  have k866 : σ827.1 328 q372 = 0 := (oG_i g826 h723).trans k801
  have k867 : σ827.1 329 q372 = 0 := (oG_i g826 h723).trans k802
  have k868 : σ827.1 330 q372 = 0 := (oG_i g826 h723).trans k803
  have k869 : σ827.1 331 q372 = 0 := (oG_i g826 h723).trans k804
  have k870 : σ827.1 327 q503 = 0 := (oG_i g826 h724).trans k805
  have k871 : σ827.1 328 q503 = 0 := (oG_i g826 h724).trans k806
  have k872 : σ827.1 329 q503 = 0 := (oG_i g826 h724).trans k807
  have k873 : σ827.1 330 q503 = 0 := (oG_i g826 h724).trans k808
  have k874 : σ827.1 331 q503 = 0 := (oG_i g826 h724).trans k809
  have k875 : σ827.1 327 q654 = 0 := (oG_i g826 h770).trans k810
  have k876 : σ827.1 328 q654 = 0 := (oG_i g826 h770).trans k811
  have k877 : σ827.1 329 q654 = 0 := (oG_i g826 h770).trans k812
  have k878 : σ827.1 330 q654 = 0 := (oG_i g826 h770).trans k813
  have k879 : σ827.1 331 q654 = 0 := (oG_i g826 h770).trans k814
  have k880 : σ827.2.2.2.2 128 a0 = some q3 := (oG_r g826 h716).trans k815
  have k881 : σ827.2.2.2.2 4096 q3 = some q17 := (oG_r g826 h717).trans k816
  have k882 : σ827.2.2.2.2 4097 q3 = some q48 := (oG_r g826 h717).trans k817
  have k883 : σ827.2.2.2.2 4098 q3 = some q99 := (oG_r g826 h717).trans k818
  have k884 : σ827.2.2.2.2 4099 q3 = some q170 := (oG_r g826 h717).trans k819
  have k885 : σ827.2.2.2.2 4100 q3 = some q261 := (oG_r g826 h717).trans k820
  have k886 : σ827.2.2.2.2 4101 q3 = some q372 := (oG_r g826 h717).trans k821
  have k887 : σ827.2.2.2.2 4102 q3 = some q503 := (oG_r g826 h717).trans k822
  have k888 : σ827.2.2.2.2 4103 q3 = some q654 := (oG_r g826 h717).trans k823
  have h889 : oA L τ q825 21 := oG_q g826
  have n890 := oX_new ox g826
  have ox := oX_g ox g826
  refine lv_dup hx hb dX3_init_29 rfl ?_
  refine o_cI hw (oRunI cx hA hw q_X6_init k_m_X3_15 (As := []) (c_X6_init q825 h889 (fun j => oG_zi g826) (fun j => oG_zl g826) ) (by decide) rfl hl.1 rfl (Nat.le_of_ble_eq_true rfl) dX3_init_30 (by decide)) (fun L τ σ891 H locs hp hw => ?_)
  obtain ⟨y892, t893, fy892_327, fy892_328, fy892_329, fy892_330, fy892_331⟩ := hp
  have h894 : oA L τ a0 18 := oX_a y892 h828 (rw_ne h828 h889 (by decide))
  have h895 : oA L τ q3 42 := oX_a y892 h829 (rw_ne h829 h889 (by decide))
  have h896 : oA L τ q17 5 := oX_a y892 h830 (rw_ne h830 h889 (by decide))
  have h897 : oA L τ q48 5 := oX_a y892 h831 (rw_ne h831 h889 (by decide))
  have h898 : oA L τ q99 5 := oX_a y892 h832 (rw_ne h832 h889 (by decide))
  have h899 : oA L τ q170 5 := oX_a y892 h833 (rw_ne h833 h889 (by decide))
  have h900 : oA L τ q261 5 := oX_a y892 h834 (rw_ne h834 h889 (by decide))
  have h901 : oA L τ q372 5 := oX_a y892 h835 (rw_ne h835 h889 (by decide))
  have h902 : oA L τ q503 5 := oX_a y892 h836 (rw_ne h836 h889 (by decide))
  have h903 : oA L τ q654 5 := oX_a y892 h837 (rw_ne h837 h889 (by decide))
  have k904 : σ891.1 129 a0 = 0 := (oX_ki y892 h828 (rw_ne h828 h889 (by decide))).trans k838
  have k905 : σ891.1 130 a0 = 0 := (oX_ki y892 h828 (rw_ne h828 h889 (by decide))).trans k839
  have k906 : σ891.1 327 q17 = 0 := (oX_ki y892 h830 (rw_ne h830 h889 (by decide))).trans k840
  have k907 : σ891.1 328 q17 = 0 := (oX_ki y892 h830 (rw_ne h830 h889 (by decide))).trans k841
  have k908 : σ891.1 329 q17 = 0 := (oX_ki y892 h830 (rw_ne h830 h889 (by decide))).trans k842
  have k909 : σ891.1 330 q17 = 0 := (oX_ki y892 h830 (rw_ne h830 h889 (by decide))).trans k843
  have k910 : σ891.1 331 q17 = 0 := (oX_ki y892 h830 (rw_ne h830 h889 (by decide))).trans k844
  have k911 : σ891.1 327 q48 = 0 := (oX_ki y892 h831 (rw_ne h831 h889 (by decide))).trans k845
  have k912 : σ891.1 328 q48 = 0 := (oX_ki y892 h831 (rw_ne h831 h889 (by decide))).trans k846
  have k913 : σ891.1 329 q48 = 0 := (oX_ki y892 h831 (rw_ne h831 h889 (by decide))).trans k847
  have k914 : σ891.1 330 q48 = 0 := (oX_ki y892 h831 (rw_ne h831 h889 (by decide))).trans k848
  have k915 : σ891.1 331 q48 = 0 := (oX_ki y892 h831 (rw_ne h831 h889 (by decide))).trans k849
  have k916 : σ891.1 327 q99 = 0 := (oX_ki y892 h832 (rw_ne h832 h889 (by decide))).trans k850
  have k917 : σ891.1 328 q99 = 0 := (oX_ki y892 h832 (rw_ne h832 h889 (by decide))).trans k851
  have k918 : σ891.1 329 q99 = 0 := (oX_ki y892 h832 (rw_ne h832 h889 (by decide))).trans k852
  have k919 : σ891.1 330 q99 = 0 := (oX_ki y892 h832 (rw_ne h832 h889 (by decide))).trans k853
  have k920 : σ891.1 331 q99 = 0 := (oX_ki y892 h832 (rw_ne h832 h889 (by decide))).trans k854
  have k921 : σ891.1 327 q170 = 0 := (oX_ki y892 h833 (rw_ne h833 h889 (by decide))).trans k855
  have k922 : σ891.1 328 q170 = 0 := (oX_ki y892 h833 (rw_ne h833 h889 (by decide))).trans k856
  have k923 : σ891.1 329 q170 = 0 := (oX_ki y892 h833 (rw_ne h833 h889 (by decide))).trans k857
  have k924 : σ891.1 330 q170 = 0 := (oX_ki y892 h833 (rw_ne h833 h889 (by decide))).trans k858
  have k925 : σ891.1 331 q170 = 0 := (oX_ki y892 h833 (rw_ne h833 h889 (by decide))).trans k859
  have k926 : σ891.1 327 q261 = 0 := (oX_ki y892 h834 (rw_ne h834 h889 (by decide))).trans k860
  have k927 : σ891.1 328 q261 = 0 := (oX_ki y892 h834 (rw_ne h834 h889 (by decide))).trans k861
  have k928 : σ891.1 329 q261 = 0 := (oX_ki y892 h834 (rw_ne h834 h889 (by decide))).trans k862
  have k929 : σ891.1 330 q261 = 0 := (oX_ki y892 h834 (rw_ne h834 h889 (by decide))).trans k863
  have k930 : σ891.1 331 q261 = 0 := (oX_ki y892 h834 (rw_ne h834 h889 (by decide))).trans k864
  have k931 : σ891.1 327 q372 = 0 := (oX_ki y892 h835 (rw_ne h835 h889 (by decide))).trans k865
  have k932 : σ891.1 328 q372 = 0 := (oX_ki y892 h835 (rw_ne h835 h889 (by decide))).trans k866
  have k933 : σ891.1 329 q372 = 0 := (oX_ki y892 h835 (rw_ne h835 h889 (by decide))).trans k867
  have k934 : σ891.1 330 q372 = 0 := (oX_ki y892 h835 (rw_ne h835 h889 (by decide))).trans k868
  have k935 : σ891.1 331 q372 = 0 := (oX_ki y892 h835 (rw_ne h835 h889 (by decide))).trans k869
  have k936 : σ891.1 327 q503 = 0 := (oX_ki y892 h836 (rw_ne h836 h889 (by decide))).trans k870
  have k937 : σ891.1 328 q503 = 0 := (oX_ki y892 h836 (rw_ne h836 h889 (by decide))).trans k871
  have k938 : σ891.1 329 q503 = 0 := (oX_ki y892 h836 (rw_ne h836 h889 (by decide))).trans k872
  have k939 : σ891.1 330 q503 = 0 := (oX_ki y892 h836 (rw_ne h836 h889 (by decide))).trans k873
  have k940 : σ891.1 331 q503 = 0 := (oX_ki y892 h836 (rw_ne h836 h889 (by decide))).trans k874
  have k941 : σ891.1 327 q654 = 0 := (oX_ki y892 h837 (rw_ne h837 h889 (by decide))).trans k875
  have k942 : σ891.1 328 q654 = 0 := (oX_ki y892 h837 (rw_ne h837 h889 (by decide))).trans k876
  have k943 : σ891.1 329 q654 = 0 := (oX_ki y892 h837 (rw_ne h837 h889 (by decide))).trans k877
  have k944 : σ891.1 330 q654 = 0 := (oX_ki y892 h837 (rw_ne h837 h889 (by decide))).trans k878
  have k945 : σ891.1 331 q654 = 0 := (oX_ki y892 h837 (rw_ne h837 h889 (by decide))).trans k879
  have k946 : σ891.2.2.2.2 128 a0 = some q3 := (oX_kr y892 h828 (rw_ne h828 h889 (by decide))).trans k880
  have k947 : σ891.2.2.2.2 4096 q3 = some q17 := (oX_kr y892 h829 (rw_ne h829 h889 (by decide))).trans k881
  have k948 : σ891.2.2.2.2 4097 q3 = some q48 := (oX_kr y892 h829 (rw_ne h829 h889 (by decide))).trans k882
  have k949 : σ891.2.2.2.2 4098 q3 = some q99 := (oX_kr y892 h829 (rw_ne h829 h889 (by decide))).trans k883
  have k950 : σ891.2.2.2.2 4099 q3 = some q170 := (oX_kr y892 h829 (rw_ne h829 h889 (by decide))).trans k884
  have k951 : σ891.2.2.2.2 4100 q3 = some q261 := (oX_kr y892 h829 (rw_ne h829 h889 (by decide))).trans k885
  have k952 : σ891.2.2.2.2 4101 q3 = some q372 := (oX_kr y892 h829 (rw_ne h829 h889 (by decide))).trans k886
  have k953 : σ891.2.2.2.2 4102 q3 = some q503 := (oX_kr y892 h829 (rw_ne h829 h889 (by decide))).trans k887
  have k954 : σ891.2.2.2.2 4103 q3 = some q654 := (oX_kr y892 h829 (rw_ne h829 h889 (by decide))).trans k888
  have h955 : oA L τ q825 5 := oX_q y892 h889 t893
  have ox := oX_x ox y892 n890
  refine o_astq cx hw h895 (by decide) rfl (fun _ => rfl) h955 (iv_in (⟨by decide, by decide⟩ : Iv 8 8 8) (by decide)) dX3_init_33 (fun σ957 H locs e956 hw => ?_)
  have k958 : σ957.1 129 a0 = 0 := (kp_r e956).trans k904
  have k959 : σ957.1 130 a0 = 0 := (kp_r e956).trans k905
  have k960 : σ957.1 327 q17 = 0 := (kp_r e956).trans k906
  have k961 : σ957.1 328 q17 = 0 := (kp_r e956).trans k907
  have k962 : σ957.1 329 q17 = 0 := (kp_r e956).trans k908
  have k963 : σ957.1 330 q17 = 0 := (kp_r e956).trans k909
  have k964 : σ957.1 331 q17 = 0 := (kp_r e956).trans k910
  have k965 : σ957.1 327 q48 = 0 := (kp_r e956).trans k911
  have k966 : σ957.1 328 q48 = 0 := (kp_r e956).trans k912
  have k967 : σ957.1 329 q48 = 0 := (kp_r e956).trans k913
  have k968 : σ957.1 330 q48 = 0 := (kp_r e956).trans k914
  have k969 : σ957.1 331 q48 = 0 := (kp_r e956).trans k915
  have k970 : σ957.1 327 q99 = 0 := (kp_r e956).trans k916
  have k971 : σ957.1 328 q99 = 0 := (kp_r e956).trans k917
  have k972 : σ957.1 329 q99 = 0 := (kp_r e956).trans k918
  have k973 : σ957.1 330 q99 = 0 := (kp_r e956).trans k919
  have k974 : σ957.1 331 q99 = 0 := (kp_r e956).trans k920
  have k975 : σ957.1 327 q170 = 0 := (kp_r e956).trans k921
  have k976 : σ957.1 328 q170 = 0 := (kp_r e956).trans k922
  have k977 : σ957.1 329 q170 = 0 := (kp_r e956).trans k923
  have k978 : σ957.1 330 q170 = 0 := (kp_r e956).trans k924
  have k979 : σ957.1 331 q170 = 0 := (kp_r e956).trans k925
  have k980 : σ957.1 327 q261 = 0 := (kp_r e956).trans k926
  have k981 : σ957.1 328 q261 = 0 := (kp_r e956).trans k927
  have k982 : σ957.1 329 q261 = 0 := (kp_r e956).trans k928
  have k983 : σ957.1 330 q261 = 0 := (kp_r e956).trans k929
  have k984 : σ957.1 331 q261 = 0 := (kp_r e956).trans k930
  have k985 : σ957.1 327 q372 = 0 := (kp_r e956).trans k931
  have k986 : σ957.1 328 q372 = 0 := (kp_r e956).trans k932
  have k987 : σ957.1 329 q372 = 0 := (kp_r e956).trans k933
  have k988 : σ957.1 330 q372 = 0 := (kp_r e956).trans k934
  have k989 : σ957.1 331 q372 = 0 := (kp_r e956).trans k935
  have k990 : σ957.1 327 q503 = 0 := (kp_r e956).trans k936
  have k991 : σ957.1 328 q503 = 0 := (kp_r e956).trans k937
  have k992 : σ957.1 329 q503 = 0 := (kp_r e956).trans k938
  have k993 : σ957.1 330 q503 = 0 := (kp_r e956).trans k939
  have k994 : σ957.1 331 q503 = 0 := (kp_r e956).trans k940
  have k995 : σ957.1 327 q654 = 0 := (kp_r e956).trans k941
  have k996 : σ957.1 328 q654 = 0 := (kp_r e956).trans k942
  have k997 : σ957.1 329 q654 = 0 := (kp_r e956).trans k943
  have k998 : σ957.1 330 q654 = 0 := (kp_r e956).trans k944
  have k999 : σ957.1 331 q654 = 0 := (kp_r e956).trans k945
  have k1000 : σ957.1 327 q825 = 0 := (kp_r e956).trans fy892_327
  have k1001 : σ957.1 328 q825 = 0 := (kp_r e956).trans fy892_328
  have k1002 : σ957.1 329 q825 = 0 := (kp_r e956).trans fy892_329
  have k1003 : σ957.1 330 q825 = 0 := (kp_r e956).trans fy892_330
  have k1004 : σ957.1 331 q825 = 0 := (kp_r e956).trans fy892_331
  have k1005 : σ957.2.2.2.2 128 a0 = some q3 := (kr_r e956 (by decide)).trans k946
  have k1006 : σ957.2.2.2.2 4096 q3 = some q17 := (kr_r e956 (by decide)).trans k947
  have k1007 : σ957.2.2.2.2 4097 q3 = some q48 := (kr_r e956 (by decide)).trans k948
  have k1008 : σ957.2.2.2.2 4098 q3 = some q99 := (kr_r e956 (by decide)).trans k949
  have k1009 : σ957.2.2.2.2 4099 q3 = some q170 := (kr_r e956 (by decide)).trans k950
  have k1010 : σ957.2.2.2.2 4100 q3 = some q261 := (kr_r e956 (by decide)).trans k951
  have k1011 : σ957.2.2.2.2 4101 q3 = some q372 := (kr_r e956 (by decide)).trans k952
  have k1012 : σ957.2.2.2.2 4102 q3 = some q503 := (kr_r e956 (by decide)).trans k953
  have k1013 : σ957.2.2.2.2 4103 q3 = some q654 := (kr_r e956 (by decide)).trans k954
  have k1014 : σ957.2.2.2.2 4104 q3 = some q825 := kr_s e956
  have ox := oX_rn ox e956 n10
  refine lv_iinc (v := 9) (lv' := [(1, .int 9), (0, .ref a0)]) hx hb dX3_init_34 hl (k := 0) rfl (by decide) (by decide) rfl (fun ls hl => ?_)
  refine lv_goto (tgt := 15) hx hb dX3_init_37 (by decide) ?_
  refine lv_iload_n hx hb dX3_init_15 rfl (lv_at hl 0 rfl) ?_
  refine lv_bipush (v := 10) hx hb dX3_init_16 (by decide) ?_
  refine lv_icmp_ge (tgt := 40) hx hb dX3_init_18 (by decide) (fun c1015 => ?_) (fun c1015 => ?_)
  · exact absurd c1015 (show ¬ (10 : Int32) ≤ 9 by decide)
  refine lv_aload_n hx hb dX3_init_21 rfl (lv_at hl 1 rfl) ?_
  refine o_getK cx hw 2 0 rfl fiX3 h894 (by decide) rfl (by decide) rfl rfl k_f_X3_11 (j := 128) rfl k1005 dX3_init_22 ?_
  refine lv_iload_n hx hb dX3_init_25 rfl (lv_at hl 0 rfl) ?_
  refine o_new cx hA hw 5 (by decide) rfl fiX6 tyX6 tyX6_ok dfX6 k_c_X3_9 k_n_X6 k_i_X6 (by decide) (by decide) dX3_init_26 (fun q1016 L τ σ1018 H g1017 hw => ?_)
  have h1019 : oA L τ a0 18 := oG_a g1017 h894
  have h1020 : oA L τ q3 42 := oG_a g1017 h895
  have h1021 : oA L τ q17 5 := oG_a g1017 h896
  have h1022 : oA L τ q48 5 := oG_a g1017 h897
  have h1023 : oA L τ q99 5 := oG_a g1017 h898
  have h1024 : oA L τ q170 5 := oG_a g1017 h899
  have h1025 : oA L τ q261 5 := oG_a g1017 h900
  have h1026 : oA L τ q372 5 := oG_a g1017 h901
  have h1027 : oA L τ q503 5 := oG_a g1017 h902
  have h1028 : oA L τ q654 5 := oG_a g1017 h903
  have h1029 : oA L τ q825 5 := oG_a g1017 h955
  have k1030 : σ1018.1 129 a0 = 0 := (oG_i g1017 h894).trans k958
  have k1031 : σ1018.1 130 a0 = 0 := (oG_i g1017 h894).trans k959
  have k1032 : σ1018.1 327 q17 = 0 := (oG_i g1017 h896).trans k960
  have k1033 : σ1018.1 328 q17 = 0 := (oG_i g1017 h896).trans k961
  have k1034 : σ1018.1 329 q17 = 0 := (oG_i g1017 h896).trans k962
  have k1035 : σ1018.1 330 q17 = 0 := (oG_i g1017 h896).trans k963
  have k1036 : σ1018.1 331 q17 = 0 := (oG_i g1017 h896).trans k964
  have k1037 : σ1018.1 327 q48 = 0 := (oG_i g1017 h897).trans k965
  have k1038 : σ1018.1 328 q48 = 0 := (oG_i g1017 h897).trans k966
  have k1039 : σ1018.1 329 q48 = 0 := (oG_i g1017 h897).trans k967
  have k1040 : σ1018.1 330 q48 = 0 := (oG_i g1017 h897).trans k968
  have k1041 : σ1018.1 331 q48 = 0 := (oG_i g1017 h897).trans k969
  have k1042 : σ1018.1 327 q99 = 0 := (oG_i g1017 h898).trans k970
  have k1043 : σ1018.1 328 q99 = 0 := (oG_i g1017 h898).trans k971
  have k1044 : σ1018.1 329 q99 = 0 := (oG_i g1017 h898).trans k972
  have k1045 : σ1018.1 330 q99 = 0 := (oG_i g1017 h898).trans k973
  have k1046 : σ1018.1 331 q99 = 0 := (oG_i g1017 h898).trans k974
  have k1047 : σ1018.1 327 q170 = 0 := (oG_i g1017 h899).trans k975
  have k1048 : σ1018.1 328 q170 = 0 := (oG_i g1017 h899).trans k976
  have k1049 : σ1018.1 329 q170 = 0 := (oG_i g1017 h899).trans k977
  have k1050 : σ1018.1 330 q170 = 0 := (oG_i g1017 h899).trans k978
  have k1051 : σ1018.1 331 q170 = 0 := (oG_i g1017 h899).trans k979
  have k1052 : σ1018.1 327 q261 = 0 := (oG_i g1017 h900).trans k980
  have k1053 : σ1018.1 328 q261 = 0 := (oG_i g1017 h900).trans k981
  have k1054 : σ1018.1 329 q261 = 0 := (oG_i g1017 h900).trans k982
  have k1055 : σ1018.1 330 q261 = 0 := (oG_i g1017 h900).trans k983
  have k1056 : σ1018.1 331 q261 = 0 := (oG_i g1017 h900).trans k984
  have k1057 : σ1018.1 327 q372 = 0 := (oG_i g1017 h901).trans k985
  have k1058 : σ1018.1 328 q372 = 0 := (oG_i g1017 h901).trans k986
  have k1059 : σ1018.1 329 q372 = 0 := (oG_i g1017 h901).trans k987
  have k1060 : σ1018.1 330 q372 = 0 := (oG_i g1017 h901).trans k988
  have k1061 : σ1018.1 331 q372 = 0 := (oG_i g1017 h901).trans k989
  have k1062 : σ1018.1 327 q503 = 0 := (oG_i g1017 h902).trans k990
  have k1063 : σ1018.1 328 q503 = 0 := (oG_i g1017 h902).trans k991
  have k1064 : σ1018.1 329 q503 = 0 := (oG_i g1017 h902).trans k992
  have k1065 : σ1018.1 330 q503 = 0 := (oG_i g1017 h902).trans k993
  have k1066 : σ1018.1 331 q503 = 0 := (oG_i g1017 h902).trans k994
  have k1067 : σ1018.1 327 q654 = 0 := (oG_i g1017 h903).trans k995
  have k1068 : σ1018.1 328 q654 = 0 := (oG_i g1017 h903).trans k996
  have k1069 : σ1018.1 329 q654 = 0 := (oG_i g1017 h903).trans k997
  have k1070 : σ1018.1 330 q654 = 0 := (oG_i g1017 h903).trans k998
  have k1071 : σ1018.1 331 q654 = 0 := (oG_i g1017 h903).trans k999
  have k1072 : σ1018.1 327 q825 = 0 := (oG_i g1017 h955).trans k1000
  have k1073 : σ1018.1 328 q825 = 0 := (oG_i g1017 h955).trans k1001
  have k1074 : σ1018.1 329 q825 = 0 := (oG_i g1017 h955).trans k1002
  have k1075 : σ1018.1 330 q825 = 0 := (oG_i g1017 h955).trans k1003
  have k1076 : σ1018.1 331 q825 = 0 := (oG_i g1017 h955).trans k1004
  have k1077 : σ1018.2.2.2.2 128 a0 = some q3 := (oG_r g1017 h894).trans k1005
  have k1078 : σ1018.2.2.2.2 4096 q3 = some q17 := (oG_r g1017 h895).trans k1006
  have k1079 : σ1018.2.2.2.2 4097 q3 = some q48 := (oG_r g1017 h895).trans k1007
  have k1080 : σ1018.2.2.2.2 4098 q3 = some q99 := (oG_r g1017 h895).trans k1008
  have k1081 : σ1018.2.2.2.2 4099 q3 = some q170 := (oG_r g1017 h895).trans k1009
  have k1082 : σ1018.2.2.2.2 4100 q3 = some q261 := (oG_r g1017 h895).trans k1010
  have k1083 : σ1018.2.2.2.2 4101 q3 = some q372 := (oG_r g1017 h895).trans k1011
  have k1084 : σ1018.2.2.2.2 4102 q3 = some q503 := (oG_r g1017 h895).trans k1012
  have k1085 : σ1018.2.2.2.2 4103 q3 = some q654 := (oG_r g1017 h895).trans k1013
  have k1086 : σ1018.2.2.2.2 4104 q3 = some q825 := (oG_r g1017 h895).trans k1014
  have h1087 : oA L τ q1016 21 := oG_q g1017
  have n1088 := oX_new ox g1017
  have ox := oX_g ox g1017
  refine lv_dup hx hb dX3_init_29 rfl ?_
  refine o_cI hw (oRunI cx hA hw q_X6_init k_m_X3_15 (As := []) (c_X6_init q1016 h1087 (fun j => oG_zi g1017) (fun j => oG_zl g1017) ) (by decide) rfl hl.1 rfl (Nat.le_of_ble_eq_true rfl) dX3_init_30 (by decide)) (fun L τ σ1089 H locs hp hw => ?_)
  obtain ⟨y1090, t1091, fy1090_327, fy1090_328, fy1090_329, fy1090_330, fy1090_331⟩ := hp
  have h1092 : oA L τ a0 18 := oX_a y1090 h1019 (rw_ne h1019 h1087 (by decide))
  have h1093 : oA L τ q3 42 := oX_a y1090 h1020 (rw_ne h1020 h1087 (by decide))
  have h1094 : oA L τ q17 5 := oX_a y1090 h1021 (rw_ne h1021 h1087 (by decide))
  have h1095 : oA L τ q48 5 := oX_a y1090 h1022 (rw_ne h1022 h1087 (by decide))
  have h1096 : oA L τ q99 5 := oX_a y1090 h1023 (rw_ne h1023 h1087 (by decide))
  have h1097 : oA L τ q170 5 := oX_a y1090 h1024 (rw_ne h1024 h1087 (by decide))
  have h1098 : oA L τ q261 5 := oX_a y1090 h1025 (rw_ne h1025 h1087 (by decide))
  have h1099 : oA L τ q372 5 := oX_a y1090 h1026 (rw_ne h1026 h1087 (by decide))
  have h1100 : oA L τ q503 5 := oX_a y1090 h1027 (rw_ne h1027 h1087 (by decide))
  have h1101 : oA L τ q654 5 := oX_a y1090 h1028 (rw_ne h1028 h1087 (by decide))
  have h1102 : oA L τ q825 5 := oX_a y1090 h1029 (rw_ne h1029 h1087 (by decide))
  have k1103 : σ1089.1 129 a0 = 0 := (oX_ki y1090 h1019 (rw_ne h1019 h1087 (by decide))).trans k1030
  have k1104 : σ1089.1 130 a0 = 0 := (oX_ki y1090 h1019 (rw_ne h1019 h1087 (by decide))).trans k1031
  have k1105 : σ1089.1 327 q17 = 0 := (oX_ki y1090 h1021 (rw_ne h1021 h1087 (by decide))).trans k1032
  have k1106 : σ1089.1 328 q17 = 0 := (oX_ki y1090 h1021 (rw_ne h1021 h1087 (by decide))).trans k1033
  have k1107 : σ1089.1 329 q17 = 0 := (oX_ki y1090 h1021 (rw_ne h1021 h1087 (by decide))).trans k1034
  have k1108 : σ1089.1 330 q17 = 0 := (oX_ki y1090 h1021 (rw_ne h1021 h1087 (by decide))).trans k1035
  have k1109 : σ1089.1 331 q17 = 0 := (oX_ki y1090 h1021 (rw_ne h1021 h1087 (by decide))).trans k1036
  have k1110 : σ1089.1 327 q48 = 0 := (oX_ki y1090 h1022 (rw_ne h1022 h1087 (by decide))).trans k1037
  have k1111 : σ1089.1 328 q48 = 0 := (oX_ki y1090 h1022 (rw_ne h1022 h1087 (by decide))).trans k1038
  have k1112 : σ1089.1 329 q48 = 0 := (oX_ki y1090 h1022 (rw_ne h1022 h1087 (by decide))).trans k1039
  have k1113 : σ1089.1 330 q48 = 0 := (oX_ki y1090 h1022 (rw_ne h1022 h1087 (by decide))).trans k1040
  have k1114 : σ1089.1 331 q48 = 0 := (oX_ki y1090 h1022 (rw_ne h1022 h1087 (by decide))).trans k1041
  have k1115 : σ1089.1 327 q99 = 0 := (oX_ki y1090 h1023 (rw_ne h1023 h1087 (by decide))).trans k1042
  have k1116 : σ1089.1 328 q99 = 0 := (oX_ki y1090 h1023 (rw_ne h1023 h1087 (by decide))).trans k1043
  have k1117 : σ1089.1 329 q99 = 0 := (oX_ki y1090 h1023 (rw_ne h1023 h1087 (by decide))).trans k1044
  have k1118 : σ1089.1 330 q99 = 0 := (oX_ki y1090 h1023 (rw_ne h1023 h1087 (by decide))).trans k1045
  have k1119 : σ1089.1 331 q99 = 0 := (oX_ki y1090 h1023 (rw_ne h1023 h1087 (by decide))).trans k1046
  have k1120 : σ1089.1 327 q170 = 0 := (oX_ki y1090 h1024 (rw_ne h1024 h1087 (by decide))).trans k1047
  have k1121 : σ1089.1 328 q170 = 0 := (oX_ki y1090 h1024 (rw_ne h1024 h1087 (by decide))).trans k1048
  have k1122 : σ1089.1 329 q170 = 0 := (oX_ki y1090 h1024 (rw_ne h1024 h1087 (by decide))).trans k1049
  have k1123 : σ1089.1 330 q170 = 0 := (oX_ki y1090 h1024 (rw_ne h1024 h1087 (by decide))).trans k1050
  have k1124 : σ1089.1 331 q170 = 0 := (oX_ki y1090 h1024 (rw_ne h1024 h1087 (by decide))).trans k1051
  have k1125 : σ1089.1 327 q261 = 0 := (oX_ki y1090 h1025 (rw_ne h1025 h1087 (by decide))).trans k1052
  have k1126 : σ1089.1 328 q261 = 0 := (oX_ki y1090 h1025 (rw_ne h1025 h1087 (by decide))).trans k1053
  have k1127 : σ1089.1 329 q261 = 0 := (oX_ki y1090 h1025 (rw_ne h1025 h1087 (by decide))).trans k1054
  have k1128 : σ1089.1 330 q261 = 0 := (oX_ki y1090 h1025 (rw_ne h1025 h1087 (by decide))).trans k1055
  have k1129 : σ1089.1 331 q261 = 0 := (oX_ki y1090 h1025 (rw_ne h1025 h1087 (by decide))).trans k1056
  have k1130 : σ1089.1 327 q372 = 0 := (oX_ki y1090 h1026 (rw_ne h1026 h1087 (by decide))).trans k1057
  have k1131 : σ1089.1 328 q372 = 0 := (oX_ki y1090 h1026 (rw_ne h1026 h1087 (by decide))).trans k1058
  have k1132 : σ1089.1 329 q372 = 0 := (oX_ki y1090 h1026 (rw_ne h1026 h1087 (by decide))).trans k1059
  have k1133 : σ1089.1 330 q372 = 0 := (oX_ki y1090 h1026 (rw_ne h1026 h1087 (by decide))).trans k1060
  have k1134 : σ1089.1 331 q372 = 0 := (oX_ki y1090 h1026 (rw_ne h1026 h1087 (by decide))).trans k1061
  have k1135 : σ1089.1 327 q503 = 0 := (oX_ki y1090 h1027 (rw_ne h1027 h1087 (by decide))).trans k1062
  have k1136 : σ1089.1 328 q503 = 0 := (oX_ki y1090 h1027 (rw_ne h1027 h1087 (by decide))).trans k1063
  have k1137 : σ1089.1 329 q503 = 0 := (oX_ki y1090 h1027 (rw_ne h1027 h1087 (by decide))).trans k1064
  have k1138 : σ1089.1 330 q503 = 0 := (oX_ki y1090 h1027 (rw_ne h1027 h1087 (by decide))).trans k1065
  have k1139 : σ1089.1 331 q503 = 0 := (oX_ki y1090 h1027 (rw_ne h1027 h1087 (by decide))).trans k1066
  have k1140 : σ1089.1 327 q654 = 0 := (oX_ki y1090 h1028 (rw_ne h1028 h1087 (by decide))).trans k1067
  have k1141 : σ1089.1 328 q654 = 0 := (oX_ki y1090 h1028 (rw_ne h1028 h1087 (by decide))).trans k1068
  have k1142 : σ1089.1 329 q654 = 0 := (oX_ki y1090 h1028 (rw_ne h1028 h1087 (by decide))).trans k1069
  have k1143 : σ1089.1 330 q654 = 0 := (oX_ki y1090 h1028 (rw_ne h1028 h1087 (by decide))).trans k1070
  have k1144 : σ1089.1 331 q654 = 0 := (oX_ki y1090 h1028 (rw_ne h1028 h1087 (by decide))).trans k1071
  have k1145 : σ1089.1 327 q825 = 0 := (oX_ki y1090 h1029 (rw_ne h1029 h1087 (by decide))).trans k1072
  have k1146 : σ1089.1 328 q825 = 0 := (oX_ki y1090 h1029 (rw_ne h1029 h1087 (by decide))).trans k1073
  have k1147 : σ1089.1 329 q825 = 0 := (oX_ki y1090 h1029 (rw_ne h1029 h1087 (by decide))).trans k1074
  have k1148 : σ1089.1 330 q825 = 0 := (oX_ki y1090 h1029 (rw_ne h1029 h1087 (by decide))).trans k1075
  have k1149 : σ1089.1 331 q825 = 0 := (oX_ki y1090 h1029 (rw_ne h1029 h1087 (by decide))).trans k1076
  have k1150 : σ1089.2.2.2.2 128 a0 = some q3 := (oX_kr y1090 h1019 (rw_ne h1019 h1087 (by decide))).trans k1077
  have k1151 : σ1089.2.2.2.2 4096 q3 = some q17 := (oX_kr y1090 h1020 (rw_ne h1020 h1087 (by decide))).trans k1078
  have k1152 : σ1089.2.2.2.2 4097 q3 = some q48 := (oX_kr y1090 h1020 (rw_ne h1020 h1087 (by decide))).trans k1079
  have k1153 : σ1089.2.2.2.2 4098 q3 = some q99 := (oX_kr y1090 h1020 (rw_ne h1020 h1087 (by decide))).trans k1080
  have k1154 : σ1089.2.2.2.2 4099 q3 = some q170 := (oX_kr y1090 h1020 (rw_ne h1020 h1087 (by decide))).trans k1081
  have k1155 : σ1089.2.2.2.2 4100 q3 = some q261 := (oX_kr y1090 h1020 (rw_ne h1020 h1087 (by decide))).trans k1082
  have k1156 : σ1089.2.2.2.2 4101 q3 = some q372 := (oX_kr y1090 h1020 (rw_ne h1020 h1087 (by decide))).trans k1083
  have k1157 : σ1089.2.2.2.2 4102 q3 = some q503 := (oX_kr y1090 h1020 (rw_ne h1020 h1087 (by decide))).trans k1084
  have k1158 : σ1089.2.2.2.2 4103 q3 = some q654 := (oX_kr y1090 h1020 (rw_ne h1020 h1087 (by decide))).trans k1085
  have k1159 : σ1089.2.2.2.2 4104 q3 = some q825 := (oX_kr y1090 h1020 (rw_ne h1020 h1087 (by decide))).trans k1086
  have h1160 : oA L τ q1016 5 := oX_q y1090 h1087 t1091
  have ox := oX_x ox y1090 n1088
  refine o_astq cx hw h1093 (by decide) rfl (fun _ => rfl) h1160 (iv_in (⟨by decide, by decide⟩ : Iv 9 9 9) (by decide)) dX3_init_33 (fun σ1162 H locs e1161 hw => ?_)
  have k1163 : σ1162.1 129 a0 = 0 := (kp_r e1161).trans k1103
  have k1164 : σ1162.1 130 a0 = 0 := (kp_r e1161).trans k1104
  have k1165 : σ1162.1 327 q17 = 0 := (kp_r e1161).trans k1105
  have k1166 : σ1162.1 328 q17 = 0 := (kp_r e1161).trans k1106
  have k1167 : σ1162.1 329 q17 = 0 := (kp_r e1161).trans k1107
  have k1168 : σ1162.1 330 q17 = 0 := (kp_r e1161).trans k1108
  have k1169 : σ1162.1 331 q17 = 0 := (kp_r e1161).trans k1109
  have k1170 : σ1162.1 327 q48 = 0 := (kp_r e1161).trans k1110
  have k1171 : σ1162.1 328 q48 = 0 := (kp_r e1161).trans k1111
  have k1172 : σ1162.1 329 q48 = 0 := (kp_r e1161).trans k1112
  have k1173 : σ1162.1 330 q48 = 0 := (kp_r e1161).trans k1113
  have k1174 : σ1162.1 331 q48 = 0 := (kp_r e1161).trans k1114
  have k1175 : σ1162.1 327 q99 = 0 := (kp_r e1161).trans k1115
  have k1176 : σ1162.1 328 q99 = 0 := (kp_r e1161).trans k1116
  have k1177 : σ1162.1 329 q99 = 0 := (kp_r e1161).trans k1117
  have k1178 : σ1162.1 330 q99 = 0 := (kp_r e1161).trans k1118
  have k1179 : σ1162.1 331 q99 = 0 := (kp_r e1161).trans k1119
  have k1180 : σ1162.1 327 q170 = 0 := (kp_r e1161).trans k1120
  have k1181 : σ1162.1 328 q170 = 0 := (kp_r e1161).trans k1121
  have k1182 : σ1162.1 329 q170 = 0 := (kp_r e1161).trans k1122
  have k1183 : σ1162.1 330 q170 = 0 := (kp_r e1161).trans k1123
  have k1184 : σ1162.1 331 q170 = 0 := (kp_r e1161).trans k1124
  have k1185 : σ1162.1 327 q261 = 0 := (kp_r e1161).trans k1125
  have k1186 : σ1162.1 328 q261 = 0 := (kp_r e1161).trans k1126
  have k1187 : σ1162.1 329 q261 = 0 := (kp_r e1161).trans k1127
  have k1188 : σ1162.1 330 q261 = 0 := (kp_r e1161).trans k1128
  have k1189 : σ1162.1 331 q261 = 0 := (kp_r e1161).trans k1129
  have k1190 : σ1162.1 327 q372 = 0 := (kp_r e1161).trans k1130
  have k1191 : σ1162.1 328 q372 = 0 := (kp_r e1161).trans k1131
  have k1192 : σ1162.1 329 q372 = 0 := (kp_r e1161).trans k1132
  have k1193 : σ1162.1 330 q372 = 0 := (kp_r e1161).trans k1133
  have k1194 : σ1162.1 331 q372 = 0 := (kp_r e1161).trans k1134
  have k1195 : σ1162.1 327 q503 = 0 := (kp_r e1161).trans k1135
  have k1196 : σ1162.1 328 q503 = 0 := (kp_r e1161).trans k1136
  have k1197 : σ1162.1 329 q503 = 0 := (kp_r e1161).trans k1137
  have k1198 : σ1162.1 330 q503 = 0 := (kp_r e1161).trans k1138
  have k1199 : σ1162.1 331 q503 = 0 := (kp_r e1161).trans k1139
  have k1200 : σ1162.1 327 q654 = 0 := (kp_r e1161).trans k1140
  have k1201 : σ1162.1 328 q654 = 0 := (kp_r e1161).trans k1141
  have k1202 : σ1162.1 329 q654 = 0 := (kp_r e1161).trans k1142
  have k1203 : σ1162.1 330 q654 = 0 := (kp_r e1161).trans k1143
  have k1204 : σ1162.1 331 q654 = 0 := (kp_r e1161).trans k1144
  have k1205 : σ1162.1 327 q825 = 0 := (kp_r e1161).trans k1145
  have k1206 : σ1162.1 328 q825 = 0 := (kp_r e1161).trans k1146
  have k1207 : σ1162.1 329 q825 = 0 := (kp_r e1161).trans k1147
  have k1208 : σ1162.1 330 q825 = 0 := (kp_r e1161).trans k1148
  have k1209 : σ1162.1 331 q825 = 0 := (kp_r e1161).trans k1149
  have k1210 : σ1162.1 327 q1016 = 0 := (kp_r e1161).trans fy1090_327
  have k1211 : σ1162.1 328 q1016 = 0 := (kp_r e1161).trans fy1090_328
  have k1212 : σ1162.1 329 q1016 = 0 := (kp_r e1161).trans fy1090_329
  have k1213 : σ1162.1 330 q1016 = 0 := (kp_r e1161).trans fy1090_330
  have k1214 : σ1162.1 331 q1016 = 0 := (kp_r e1161).trans fy1090_331
  have k1215 : σ1162.2.2.2.2 128 a0 = some q3 := (kr_r e1161 (by decide)).trans k1150
  have k1216 : σ1162.2.2.2.2 4096 q3 = some q17 := (kr_r e1161 (by decide)).trans k1151
  have k1217 : σ1162.2.2.2.2 4097 q3 = some q48 := (kr_r e1161 (by decide)).trans k1152
  have k1218 : σ1162.2.2.2.2 4098 q3 = some q99 := (kr_r e1161 (by decide)).trans k1153
  have k1219 : σ1162.2.2.2.2 4099 q3 = some q170 := (kr_r e1161 (by decide)).trans k1154
  have k1220 : σ1162.2.2.2.2 4100 q3 = some q261 := (kr_r e1161 (by decide)).trans k1155
  have k1221 : σ1162.2.2.2.2 4101 q3 = some q372 := (kr_r e1161 (by decide)).trans k1156
  have k1222 : σ1162.2.2.2.2 4102 q3 = some q503 := (kr_r e1161 (by decide)).trans k1157
  have k1223 : σ1162.2.2.2.2 4103 q3 = some q654 := (kr_r e1161 (by decide)).trans k1158
  have k1224 : σ1162.2.2.2.2 4104 q3 = some q825 := (kr_r e1161 (by decide)).trans k1159
  have k1225 : σ1162.2.2.2.2 4105 q3 = some q1016 := kr_s e1161
  have ox := oX_rn ox e1161 n10
  obtain ⟨τ9, d1226⟩ : ∃ τ9, oD τ q3 40 τ9 := ⟨_, rfl⟩
  have hw := oD_I d1226 hw h1093 (Or.inr ⟨by decide, by decide, rfl, rfl⟩) (fun j hj => oMb_hi (by omega)) (fun _ => trivial) (fun j t2 hj => by
    have hj2 : (4096 ≤ j ∧ j < 4106) ∧ t2 = 5 := by
      by_cases h9 : 4096 ≤ j ∧ j < 4106
      · exact ⟨h9, by rw [show oTg 40 j = some 5 from if_pos h9] at hj; injection hj with hj; exact hj.symm⟩
      · rw [show oTg 40 j = none from if_neg h9] at hj; cases hj
    obtain ⟨hj2, rfl⟩ := hj2
    rcases (show j = 4096 ∨ j = 4097 ∨ j = 4098 ∨ j = 4099 ∨ j = 4100 ∨ j = 4101 ∨ j = 4102 ∨ j = 4103 ∨ j = 4104 ∨ j = 4105 by omega) with rfl | rfl | rfl | rfl | rfl | rfl | rfl | rfl | rfl | rfl
    · exact ⟨q17, k1216, h1094, rw_ne h1094 h1093 (by decide)⟩
    · exact ⟨q48, k1217, h1095, rw_ne h1095 h1093 (by decide)⟩
    · exact ⟨q99, k1218, h1096, rw_ne h1096 h1093 (by decide)⟩
    · exact ⟨q170, k1219, h1097, rw_ne h1097 h1093 (by decide)⟩
    · exact ⟨q261, k1220, h1098, rw_ne h1098 h1093 (by decide)⟩
    · exact ⟨q372, k1221, h1099, rw_ne h1099 h1093 (by decide)⟩
    · exact ⟨q503, k1222, h1100, rw_ne h1100 h1093 (by decide)⟩
    · exact ⟨q654, k1223, h1101, rw_ne h1101 h1093 (by decide)⟩
    · exact ⟨q825, k1224, h1102, rw_ne h1102 h1093 (by decide)⟩
    · exact ⟨q1016, k1225, h1160, rw_ne h1160 h1093 (by decide)⟩) (oTg_no (by decide))
  have ox := oX_dn ox d1226 n10
  have h1227 : oA L τ9 a0 18 := oD_a d1226 h1092 (rw_ne h1092 h1093 (by decide))
  have h1228 : oA L τ9 q3 40 := oD_q d1226 h1093
  have h1229 : oA L τ9 q17 5 := oD_a d1226 h1094 (rw_ne h1094 h1093 (by decide))
  have h1230 : oA L τ9 q48 5 := oD_a d1226 h1095 (rw_ne h1095 h1093 (by decide))
  have h1231 : oA L τ9 q99 5 := oD_a d1226 h1096 (rw_ne h1096 h1093 (by decide))
  have h1232 : oA L τ9 q170 5 := oD_a d1226 h1097 (rw_ne h1097 h1093 (by decide))
  have h1233 : oA L τ9 q261 5 := oD_a d1226 h1098 (rw_ne h1098 h1093 (by decide))
  have h1234 : oA L τ9 q372 5 := oD_a d1226 h1099 (rw_ne h1099 h1093 (by decide))
  have h1235 : oA L τ9 q503 5 := oD_a d1226 h1100 (rw_ne h1100 h1093 (by decide))
  have h1236 : oA L τ9 q654 5 := oD_a d1226 h1101 (rw_ne h1101 h1093 (by decide))
  have h1237 : oA L τ9 q825 5 := oD_a d1226 h1102 (rw_ne h1102 h1093 (by decide))
  have h1238 : oA L τ9 q1016 5 := oD_a d1226 h1160 (rw_ne h1160 h1093 (by decide))
  have ⟨τ, eτ⟩ : ∃ z, z = τ9 := ⟨_, rfl⟩
  subst eτ
  refine lv_iinc (v := 10) (lv' := [(1, .int 10), (0, .ref a0)]) hx hb dX3_init_34 hl (k := 0) rfl (by decide) (by decide) rfl (fun ls hl => ?_)
  refine lv_goto (tgt := 15) hx hb dX3_init_37 (by decide) ?_
  refine lv_iload_n hx hb dX3_init_15 rfl (lv_at hl 0 rfl) ?_
  refine lv_bipush (v := 10) hx hb dX3_init_16 (by decide) ?_
  refine lv_icmp_ge (tgt := 40) hx hb dX3_init_18 (by decide) (fun c1239 => ?_) (fun c1239 => ?_)
  rotate_left
  · exact absurd (show (10 : Int32) ≤ 10 by decide) c1239
  obtain ⟨τ9, d9⟩ : ∃ τ9, oD τ a0 2 τ9 := ⟨_, rfl⟩
  have hw := oD_I d9 hw h1227 (Or.inl ⟨by decide, by decide, rfl⟩) (mb_2 (f := fun j => σ1162.1 j a0) (kn_iv k1163 ⟨by decide, by decide⟩) (kn_iv k1164 ⟨by decide, by decide⟩)) (fun i => oRb_lo (by decide)) (tg_2 (P := fun j t2 => ∃ b, σ1162.2.2.2.2 j a0 = some b ∧ oA L τ b t2 ∧ b ≠ a0) ⟨q3, k1215, h1228, rw_ne h1228 h1227 (by decide)⟩) (oTg_no (by decide))
  rw [← hQ]
  refine W.widen (k := 81) (n := 3450) (by decide) (by decide) ?_
  exact o_rI cx rx hw dX3_init_40 ⟨oX_da ox d9, (oD_q d9 h1227).2, k1163, k1164, ⟨q3, k1215, ten_i ⟨q17, k1216, n26⟩ ⟨q48, k1217, n64⟩ ⟨q99, k1218, n122⟩ ⟨q170, k1219, n200⟩ ⟨q261, k1220, n298⟩ ⟨q372, k1221, n416⟩ ⟨q503, k1222, n554⟩ ⟨q654, k1223, n712⟩ ⟨q825, k1224, n890⟩ ⟨q1016, k1225, n1088⟩⟩⟩
end OM
