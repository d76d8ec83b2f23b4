section OM
variable {l : Launch} {A : Nat → Prop} {L : List Nat} {τ : Nat → Nat} {cy : Nat → ClassId} {D : va_G} {K : (Nat → Nat) × (Nat → Nat)} {σ : oSt}
set_option maxHeartbeats 4000000 in
set_option maxRecDepth 100000 in
theorem c_X1_init (a0 : Nat) (ha0 : oA L τ a0 16) (hz : ∀ j, σ.1 j a0 = 0) (hzl : ∀ j, σ.2.1 j a0 = 0) (a1 : Nat) (ha1 : oA L τ a1 5) (a2 : Nat) (ha2 : oA L τ a2 1) (a3 : Nat) (ha3 : oA L τ a3 8) : oMetI l A L τ cy D K yX1_init cX1_init 4 2 80 10 472 [.ref a0, .ref a1, .ref a2, .ref a3] σ (va_Qv (fun u : oW3 => oX L τ σ a0 u.1 u.2.1 u.2.2 ∧ u.2.1 a0 = 0 ∧ u.2.2.1 6 a0 = 0 ∧ u.2.2.1 7 a0 = 0 ∧ u.2.2.2.2.2.2 0 a0 = some a1) (oPo3 A cy D) A) := by
  refine oMkI (by decide) (Nat.le_of_ble_eq_true rfl) rfl rfl ?_
  intro p e s m args below meth c ls cx rx hin hA hw hl
  generalize hQ : MQ below _ args s 10 472 A = Q
  have hx := cx.1.1
  have hb := cx.1.2.1
  have hml := cx.1.2.2.1
  have hown := cx.1.2.2.2.1
  have hts := cx.1.2.2.2.2
  have hl : lv_has ls 4 [(0, .ref a0), (1, .ref a1), (2, .ref a2), (3, .ref a3)] := hl
  have k1 : σ.1 6 a0 = 0 := hz 6
  have k2 : σ.1 7 a0 = 0 := hz 7
  have ox : oX L τ σ a0 L τ σ := oX_rf
  refine lv_aload_n hx hb dX1_init_0 rfl (lv_at hl 0 rfl) ?_
  refine W.objInit hx hb hown (hts _ k_m_X1_3) (hts _ k_oi) (hts _ k_oc) rfl (by rw [hml]; exact hl.1) rfl dX1_init_1 (Nat.le_of_ble_eq_true rfl) (Nat.le_of_ble_eq_true rfl) ?_
  show W p l e _ s m args below meth c _ _ _ _ Q (F0 m 4 ls [])
  refine lv_aload_n hx hb dX1_init_4 rfl (lv_at hl 0 rfl) ?_
  refine o_new cx hA hw 5 (by decide) rfl fiX6 tyX6 tyX6_ok dfX6 k_c_X1_9 k_n_X6 k_i_X6 (by decide) (by decide) dX1_init_5 (fun q3 L τ σ5 H g4 hw => ?_)
  have h6 : oA L τ a0 16 := oG_a g4 ha0
  have h7 : oA L τ a1 5 := oG_a g4 ha1
  have h8 : oA L τ a2 1 := oG_a g4 ha2
  have h9 : oA L τ a3 8 := oG_a g4 ha3
  have k10 : σ5.1 6 a0 = 0 := (oG_i g4 ha0).trans k1
  have k11 : σ5.1 7 a0 = 0 := (oG_i g4 ha0).trans k2
  have h12 : oA L τ q3 21 := oG_q g4
  have n13 := oX_new ox g4
  have ox := oX_g ox g4
  refine lv_dup hx hb dX1_init_8 rfl ?_
  refine o_cI hw (oRunI cx hA hw q_X6_init k_m_X1_11 (As := []) (c_X6_init q3 h12 (fun j => oG_zi g4) (fun j => oG_zl g4) ) (by decide) rfl hl.1 rfl (Nat.le_of_ble_eq_true rfl) dX1_init_9 (by decide)) (fun L τ σ14 H locs hp hw => ?_)
  obtain ⟨y15, t16, fy15_327, fy15_328, fy15_329, fy15_330, fy15_331⟩ := hp
  have h17 : oA L τ a0 16 := oX_a y15 h6 (rw_ne h6 h12 (by decide))
  have h18 : oA L τ a1 5 := oX_a y15 h7 (rw_ne h7 h12 (by decide))
  have h19 : oA L τ a2 1 := oX_a y15 h8 (rw_ne h8 h12 (by decide))
  have h20 : oA L τ a3 8 := oX_a y15 h9 (rw_ne h9 h12 (by decide))
  have k21 : σ14.1 6 a0 = 0 := (oX_ki y15 h6 (rw_ne h6 h12 (by decide))).trans k10
  have k22 : σ14.1 7 a0 = 0 := (oX_ki y15 h6 (rw_ne h6 h12 (by decide))).trans k11
  have h23 : oA L τ q3 5 := oX_q y15 h12 t16
  have ox := oX_x ox y15 n13
  refine o_putrF cx hw 0 3 rfl fiX1 tyX1 tyX1_ok nmX1 h17 (by decide) (by decide) rfl (by decide) rfl rfl rfl rfl hin rfl rfl k_f_X1_12 dX1_init_12 (fun σ25 H locs e24 hw => ?_)
  have k26 : σ25.1 6 a0 = 0 := (kp_r e24).trans k21
  have k27 : σ25.1 7 a0 = 0 := (kp_r e24).trans k22
  have k28 : σ25.1 327 q3 = 0 := (kp_r e24).trans fy15_327
  have k29 : σ25.1 328 q3 = 0 := (kp_r e24).trans fy15_328
  have k30 : σ25.1 329 q3 = 0 := (kp_r e24).trans fy15_329
  have k31 : σ25.1 330 q3 = 0 := (kp_r e24).trans fy15_330
  have k32 : σ25.1 331 q3 = 0 := (kp_r e24).trans fy15_331
  have k33 : σ25.2.2.2.2 3 a0 = some q3 := kr_s e24
  have ox := oX_ra ox e24
  refine lv_aload_n hx hb dX1_init_15 rfl (lv_at hl 0 rfl) ?_
  refine lv_bipush (v := 64) hx hb dX1_init_16 (by decide) ?_
  refine o_newi cx hA hw 32 (by decide) (fun _ => rfl) (atype := .int) (ty := .int) rfl k_a_int rfl (fun _ => rfl) (by decide) (by decide) (fun _ => rfl) (by decide) (by decide) (by decide) (by decide) (by decide) dX1_init_18 (fun q34 L τ σ36 H g35 hw => ?_)
  have h37 : oA L τ a0 16 := oG_a g35 h17
  have h38 : oA L τ a1 5 := oG_a g35 h18
  have h39 : oA L τ a2 1 := oG_a g35 h19
  have h40 : oA L τ a3 8 := oG_a g35 h20
  have h41 : oA L τ q3 5 := oG_a g35 h23
  have k42 : σ36.1 6 a0 = 0 := (oG_i g35 h17).trans k26
  have k43 : σ36.1 7 a0 = 0 := (oG_i g35 h17).trans k27
  have k44 : σ36.1 327 q3 = 0 := (oG_i g35 h23).trans k28
  have k45 : σ36.1 328 q3 = 0 := (oG_i g35 h23).trans k29
  have k46 : σ36.1 329 q3 = 0 := (oG_i g35 h23).trans k30
  have k47 : σ36.1 330 q3 = 0 := (oG_i g35 h23).trans k31
  have k48 : σ36.1 331 q3 = 0 := (oG_i g35 h23).trans k32
  have k49 : σ36.2.2.2.2 3 a0 = some q3 := (oG_r g35 h17).trans k33
  have h50 : oA L τ q34 32 := oG_q g35
  have n51 := oX_new ox g35
  have ox := oX_g ox g35
  refine o_putrF cx hw 0 4 rfl fiX1 tyX1 tyX1_ok nmX1 h37 (by decide) (by decide) rfl (by decide) rfl rfl rfl rfl hin rfl rfl k_f_X1_18 dX1_init_20 (fun σ53 H locs e52 hw => ?_)
  have k54 : σ53.1 6 a0 = 0 := (kp_r e52).trans k42
  have k55 : σ53.1 7 a0 = 0 := (kp_r e52).trans k43
  have k56 : σ53.1 327 q3 = 0 := (kp_r e52).trans k44
  have k57 : σ53.1 328 q3 = 0 := (kp_r e52).trans k45
  have k58 : σ53.1 329 q3 = 0 := (kp_r e52).trans k46
  have k59 : σ53.1 330 q3 = 0 := (kp_r e52).trans k47
  have k60 : σ53.1 331 q3 = 0 := (kp_r e52).trans k48
  have k61 : σ53.2.2.2.2 3 a0 = some q3 := (kr_r e52 (by decide)).trans k49
  have k62 : σ53.2.2.2.2 4 a0 = some q34 := kr_s e52
  have ox := oX_ra ox e52
  refine lv_aload_n hx hb dX1_init_23 rfl (lv_at hl 0 rfl) ?_
  refine lv_bipush (v := 64) hx hb dX1_init_24 (by decide) ?_
  refine o_newl cx hA hw 39 (by decide) (fun _ => rfl) rfl (by decide) (by decide) (by decide) (by decide) (by decide) dX1_init_26 (fun q63 L τ σ65 H g64 hw => ?_)
  have h66 : oA L τ a0 16 := oG_a g64 h37
  have h67 : oA L τ a1 5 := oG_a g64 h38
  have h68 : oA L τ a2 1 := oG_a g64 h39
  have h69 : oA L τ a3 8 := oG_a g64 h40
  have h70 : oA L τ q3 5 := oG_a g64 h41
  have h71 : oA L τ q34 32 := oG_a g64 h50
  have k72 : σ65.1 6 a0 = 0 := (oG_i g64 h37).trans k54
  have k73 : σ65.1 7 a0 = 0 := (oG_i g64 h37).trans k55
  have k74 : σ65.1 327 q3 = 0 := (oG_i g64 h41).trans k56
  have k75 : σ65.1 328 q3 = 0 := (oG_i g64 h41).trans k57
  have k76 : σ65.1 329 q3 = 0 := (oG_i g64 h41).trans k58
  have k77 : σ65.1 330 q3 = 0 := (oG_i g64 h41).trans k59
  have k78 : σ65.1 331 q3 = 0 := (oG_i g64 h41).trans k60
  have k79 : σ65.2.2.2.2 3 a0 = some q3 := (oG_r g64 h37).trans k61
  have k80 : σ65.2.2.2.2 4 a0 = some q34 := (oG_r g64 h37).trans k62
  have h81 : oA L τ q63 39 := oG_q g64
  have n82 := oX_new ox g64
  have ox := oX_g ox g64
  refine o_putrF cx hw 0 5 rfl fiX1 tyX1 tyX1_ok nmX1 h66 (by decide) (by decide) rfl (by decide) rfl rfl rfl rfl hin rfl rfl k_f_X1_22 dX1_init_28 (fun σ84 H locs e83 hw => ?_)
  have k85 : σ84.1 6 a0 = 0 := (kp_r e83).trans k72
  have k86 : σ84.1 7 a0 = 0 := (kp_r e83).trans k73
  have k87 : σ84.1 327 q3 = 0 := (kp_r e83).trans k74
  have k88 : σ84.1 328 q3 = 0 := (kp_r e83).trans k75
  have k89 : σ84.1 329 q3 = 0 := (kp_r e83).trans k76
  have k90 : σ84.1 330 q3 = 0 := (kp_r e83).trans k77
  have k91 : σ84.1 331 q3 = 0 := (kp_r e83).trans k78
  have k92 : σ84.2.2.2.2 3 a0 = some q3 := (kr_r e83 (by decide)).trans k79
  have k93 : σ84.2.2.2.2 4 a0 = some q34 := (kr_r e83 (by decide)).trans k80
  have k94 : σ84.2.2.2.2 5 a0 = some q63 := kr_s e83
  have ox := oX_ra ox e83
  refine lv_aload_n hx hb dX1_init_31 rfl (lv_at hl 0 rfl) ?_
  refine lv_aload_n hx hb dX1_init_32 rfl (lv_at hl 1 rfl) ?_
  refine o_putrF cx hw 0 0 rfl fiX1 tyX1 tyX1_ok nmX1 h66 (by decide) (by decide) rfl (by decide) rfl rfl rfl rfl hin rfl rfl k_f_X1_26 dX1_init_33 (fun σ96 H locs e95 hw => ?_)
  have k97 : σ96.1 6 a0 = 0 := (kp_r e95).trans k85
  have k98 : σ96.1 7 a0 = 0 := (kp_r e95).trans k86
  have k99 : σ96.1 327 q3 = 0 := (kp_r e95).trans k87
  have k100 : σ96.1 328 q3 = 0 := (kp_r e95).trans k88
  have k101 : σ96.1 329 q3 = 0 := (kp_r e95).trans k89
  have k102 : σ96.1 330 q3 = 0 := (kp_r e95).trans k90
  have k103 : σ96.1 331 q3 = 0 := (kp_r e95).trans k91
  have k104 : σ96.2.2.2.2 3 a0 = some q3 := (kr_r e95 (by decide)).trans k92
  have k105 : σ96.2.2.2.2 4 a0 = some q34 := (kr_r e95 (by decide)).trans k93
  have k106 : σ96.2.2.2.2 5 a0 = some q63 := (kr_r e95 (by decide)).trans k94
  have k107 : σ96.2.2.2.2 0 a0 = some a1 := kr_s e95
  have ox := oX_ra ox e95
  refine lv_aload_n hx hb dX1_init_36 rfl (lv_at hl 0 rfl) ?_
  refine lv_aload_n hx hb dX1_init_37 rfl (lv_at hl 2 rfl) ?_
  refine o_putrF cx hw 0 1 rfl fiX1 tyX1 tyX1_ok nmX1 h66 (by decide) (by decide) rfl (by decide) rfl rfl rfl rfl hin rfl rfl k_f_X1_29 dX1_init_38 (fun σ109 H locs e108 hw => ?_)
  have k110 : σ109.1 6 a0 = 0 := (kp_r e108).trans k97
  have k111 : σ109.1 7 a0 = 0 := (kp_r e108).trans k98
  have k112 : σ109.1 327 q3 = 0 := (kp_r e108).trans k99
  have k113 : σ109.1 328 q3 = 0 := (kp_r e108).trans k100
  have k114 : σ109.1 329 q3 = 0 := (kp_r e108).trans k101
  have k115 : σ109.1 330 q3 = 0 := (kp_r e108).trans k102
  have k116 : σ109.1 331 q3 = 0 := (kp_r e108).trans k103
  have k117 : σ109.2.2.2.2 3 a0 = some q3 := (kr_r e108 (by decide)).trans k104
  have k118 : σ109.2.2.2.2 4 a0 = some q34 := (kr_r e108 (by decide)).trans k105
  have k119 : σ109.2.2.2.2 5 a0 = some q63 := (kr_r e108 (by decide)).trans k106
  have k120 : σ109.2.2.2.2 0 a0 = some a1 := (kr_r e108 (by decide)).trans k107
  have k121 : σ109.2.2.2.2 1 a0 = some a2 := kr_s e108
  have ox := oX_ra ox e108
  refine lv_aload_n hx hb dX1_init_41 rfl (lv_at hl 0 rfl) ?_
  refine lv_aload_n hx hb dX1_init_42 rfl (lv_at hl 3 rfl) ?_
  refine o_putrF cx hw 0 2 rfl fiX1 tyX1 tyX1_ok nmX1 h66 (by decide) (by decide) rfl (by decide) rfl rfl rfl rfl hin rfl rfl k_f_X1_33 dX1_init_43 (fun σ123 H locs e122 hw => ?_)
  have k124 : σ123.1 6 a0 = 0 := (kp_r e122).trans k110
  have k125 : σ123.1 7 a0 = 0 := (kp_r e122).trans k111
  have k126 : σ123.1 327 q3 = 0 := (kp_r e122).trans k112
  have k127 : σ123.1 328 q3 = 0 := (kp_r e122).trans k113
  have k128 : σ123.1 329 q3 = 0 := (kp_r e122).trans k114
  have k129 : σ123.1 330 q3 = 0 := (kp_r e122).trans k115
  have k130 : σ123.1 331 q3 = 0 := (kp_r e122).trans k116
  have k131 : σ123.2.2.2.2 3 a0 = some q3 := (kr_r e122 (by decide)).trans k117
  have k132 : σ123.2.2.2.2 4 a0 = some q34 := (kr_r e122 (by decide)).trans k118
  have k133 : σ123.2.2.2.2 5 a0 = some q63 := (kr_r e122 (by decide)).trans k119
  have k134 : σ123.2.2.2.2 0 a0 = some a1 := (kr_r e122 (by decide)).trans k120
  have k135 : σ123.2.2.2.2 1 a0 = some a2 := (kr_r e122 (by decide)).trans k121
  have k136 : σ123.2.2.2.2 2 a0 = some a3 := kr_s e122
  have ox := oX_ra ox e122
  obtain ⟨τ9, d9⟩ : ∃ τ9, oD τ a0 0 τ9 := ⟨_, rfl⟩
  have hw := oD_I d9 hw h66 (Or.inl ⟨by decide, by decide, rfl⟩) (mb_0 (f := fun j => σ123.1 j a0) ) (fun i => oRb_lo (by decide)) (tg_0 (P := fun j t2 => ∃ b, σ123.2.2.2.2 j a0 = some b ∧ oA L τ b t2 ∧ b ≠ a0) ⟨a1, k134, h67, rw_ne h67 h66 (by decide)⟩ ⟨a2, k135, h68, rw_ne h68 h66 (by decide)⟩ ⟨a3, k136, h69, rw_ne h69 h66 (by decide)⟩ ⟨q3, k131, h70, rw_ne h70 h66 (by decide)⟩ ⟨q34, k132, h71, rw_ne h71 h66 (by decide)⟩ ⟨q63, k133, h81, rw_ne h81 h66 (by decide)⟩) (oTg_no (by decide))
  rw [← hQ]
  refine W.widen (k := 10) (n := 472) (by decide) (by decide) ?_
  exact o_rI cx rx hw dX1_init_46 ⟨oX_da ox d9, (oD_q d9 h66).2, k124, k125, k134⟩
end OM
