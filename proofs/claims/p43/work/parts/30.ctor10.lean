section OM
variable {l : Launch} {A : Nat → Prop} {L : List Nat} {τ : Nat → Nat} {cy : Nat → ClassId} {D : va_G} {K : (Nat → Nat) × (Nat → Nat)} {σ : oSt}
set_option maxHeartbeats 4000000 in
set_option maxRecDepth 100000 in
theorem c_X11_init (a0 : Nat) (ha0 : oA L τ a0 26) (hz : ∀ j, σ.1 j a0 = 0) (hzl : ∀ j, σ.2.1 j a0 = 0) : oMetI l A L τ cy D K yX11_init cX11_init 1 1 60 23 5973 [.ref a0] σ (va_Qv (fun u : oW3 => oX L τ σ a0 u.1 u.2.1 u.2.2 ∧ u.2.1 a0 = 10 ∧ u.2.2.1 641 a0 = 0 ∧ u.2.2.1 642 a0 = 0 ∧ u.2.2.1 645 a0 = 0 ∧ u.2.2.1 647 a0 = 0 ∧ u.2.2.1 649 a0 = 0 ∧ u.2.2.1 650 a0 = 12 ∧ u.2.2.1 651 a0 = 6 ∧ u.2.2.1 653 a0 = 0 ∧ u.2.2.1 655 a0 = 0 ∧ u.2.2.1 657 a0 = 0 ∧ u.2.2.1 658 a0 = 0 ∧ u.2.2.1 660 a0 = 0 ∧ u.2.2.1 661 a0 = 0 ∧ u.2.2.1 662 a0 = 0 ∧ u.2.2.1 663 a0 = 0 ∧ u.2.2.1 668 a0 = 0 ∧ u.2.2.1 669 a0 = 0 ∧ u.2.2.1 672 a0 = 0 ∧ u.2.2.1 675 a0 = 0 ∧ u.2.2.1 681 a0 = 0 ∧ (∃ ik kc, u.2.2.2.2.2.2 683 a0 = some ik ∧ u.2.2.2.2.2.2 684 a0 = some kc ∧ (∀ j, u.2.2.2.2.1 ik j = 0) ∧ ∀ j, u.2.2.2.2.1 kc j = 0)) (oPo3 A cy D) A) := by
  refine oMkI (by decide) (Nat.le_of_ble_eq_true rfl) rfl rfl ?_
  intro p e s m args below meth c ls cx rx hin hA hw hl
  generalize hQ : MQ below _ args s 23 5973 A = Q
  have hx := cx.1.1
  have hb := cx.1.2.1
  have hml := cx.1.2.2.1
  have hown := cx.1.2.2.2.1
  have hts := cx.1.2.2.2.2
  have hl : lv_has ls 1 [(0, .ref a0)] := hl
  have k1 : σ.1 641 a0 = 0 := hz 641
  have k2 : σ.1 642 a0 = 0 := hz 642
  have k3 : σ.1 645 a0 = 0 := hz 645
  have k4 : σ.1 647 a0 = 0 := hz 647
  have k5 : σ.1 649 a0 = 0 := hz 649
  have k6 : σ.1 650 a0 = 0 := hz 650
  have k7 : σ.1 651 a0 = 0 := hz 651
  have k8 : σ.1 653 a0 = 0 := hz 653
  have k9 : σ.1 655 a0 = 0 := hz 655
  have k10 : σ.1 657 a0 = 0 := hz 657
  have k11 : σ.1 658 a0 = 0 := hz 658
  have k12 : σ.1 660 a0 = 0 := hz 660
  have k13 : σ.1 661 a0 = 0 := hz 661
  have k14 : σ.1 662 a0 = 0 := hz 662
  have k15 : σ.1 663 a0 = 0 := hz 663
  have k16 : σ.1 668 a0 = 0 := hz 668
  have k17 : σ.1 669 a0 = 0 := hz 669
  have k18 : σ.1 672 a0 = 0 := hz 672
  have k19 : σ.1 675 a0 = 0 := hz 675
  have k20 : σ.1 681 a0 = 0 := hz 681
  have ox : oX L τ σ a0 L τ σ := oX_rf
  refine lv_aload_n hx hb dX11_init_0 rfl (lv_at hl 0 rfl) ?_
  refine W.objInit hx hb hown (hts _ k_m_X11_3) (hts _ k_oi) (hts _ k_oc) rfl (by rw [hml]; exact hl.1) rfl dX11_init_1 (Nat.le_of_ble_eq_true rfl) (Nat.le_of_ble_eq_true rfl) ?_
  show W p l e _ s m args below meth c _ _ _ _ Q (F0 m 4 ls [])
  refine lv_aload_n hx hb dX11_init_4 rfl (lv_at hl 0 rfl) ?_
  refine lv_sipush (v := 334) hx hb dX11_init_5 (by decide) ?_
  refine o_newi cx hA hw 48 (by decide) (fun _ => rfl) (atype := .int) (ty := .int) rfl k_a_int rfl (fun _ => rfl) (by decide) (by decide) (fun _ => rfl) (by decide) (by decide) (by decide) (by decide) (by decide) dX11_init_8 (fun q21 L τ σ23 H g22 hw => ?_)
  have h24 : oA L τ a0 26 := oG_a g22 ha0
  have k25 : σ23.1 641 a0 = 0 := (oG_i g22 ha0).trans k1
  have k26 : σ23.1 642 a0 = 0 := (oG_i g22 ha0).trans k2
  have k27 : σ23.1 645 a0 = 0 := (oG_i g22 ha0).trans k3
  have k28 : σ23.1 647 a0 = 0 := (oG_i g22 ha0).trans k4
  have k29 : σ23.1 649 a0 = 0 := (oG_i g22 ha0).trans k5
  have k30 : σ23.1 650 a0 = 0 := (oG_i g22 ha0).trans k6
  have k31 : σ23.1 651 a0 = 0 := (oG_i g22 ha0).trans k7
  have k32 : σ23.1 653 a0 = 0 := (oG_i g22 ha0).trans k8
  have k33 : σ23.1 655 a0 = 0 := (oG_i g22 ha0).trans k9
  have k34 : σ23.1 657 a0 = 0 := (oG_i g22 ha0).trans k10
  have k35 : σ23.1 658 a0 = 0 := (oG_i g22 ha0).trans k11
  have k36 : σ23.1 660 a0 = 0 := (oG_i g22 ha0).trans k12
  have k37 : σ23.1 661 a0 = 0 := (oG_i g22 ha0).trans k13
  have k38 : σ23.1 662 a0 = 0 := (oG_i g22 ha0).trans k14
  have k39 : σ23.1 663 a0 = 0 := (oG_i g22 ha0).trans k15
  have k40 : σ23.1 668 a0 = 0 := (oG_i g22 ha0).trans k16
  have k41 : σ23.1 669 a0 = 0 := (oG_i g22 ha0).trans k17
  have k42 : σ23.1 672 a0 = 0 := (oG_i g22 ha0).trans k18
  have k43 : σ23.1 675 a0 = 0 := (oG_i g22 ha0).trans k19
  have k44 : σ23.1 681 a0 = 0 := (oG_i g22 ha0).trans k20
  have h45 : oA L τ q21 48 := oG_q g22
  have n46 := oX_new ox g22
  have ox := oX_g ox g22
  refine o_putrF cx hw 10 0 rfl fiX11 tyX11 tyX11_ok nmX11 h24 (by decide) (by decide) rfl (by decide) rfl rfl rfl rfl hin rfl rfl k_f_X11_9 dX11_init_10 (fun σ48 H locs e47 hw => ?_)
  have k49 : σ48.1 641 a0 = 0 := (kp_r e47).trans k25
  have k50 : σ48.1 642 a0 = 0 := (kp_r e47).trans k26
  have k51 : σ48.1 645 a0 = 0 := (kp_r e47).trans k27
  have k52 : σ48.1 647 a0 = 0 := (kp_r e47).trans k28
  have k53 : σ48.1 649 a0 = 0 := (kp_r e47).trans k29
  have k54 : σ48.1 650 a0 = 0 := (kp_r e47).trans k30
  have k55 : σ48.1 651 a0 = 0 := (kp_r e47).trans k31
  have k56 : σ48.1 653 a0 = 0 := (kp_r e47).trans k32
  have k57 : σ48.1 655 a0 = 0 := (kp_r e47).trans k33
  have k58 : σ48.1 657 a0 = 0 := (kp_r e47).trans k34
  have k59 : σ48.1 658 a0 = 0 := (kp_r e47).trans k35
  have k60 : σ48.1 660 a0 = 0 := (kp_r e47).trans k36
  have k61 : σ48.1 661 a0 = 0 := (kp_r e47).trans k37
  have k62 : σ48.1 662 a0 = 0 := (kp_r e47).trans k38
  have k63 : σ48.1 663 a0 = 0 := (kp_r e47).trans k39
  have k64 : σ48.1 668 a0 = 0 := (kp_r e47).trans k40
  have k65 : σ48.1 669 a0 = 0 := (kp_r e47).trans k41
  have k66 : σ48.1 672 a0 = 0 := (kp_r e47).trans k42
  have k67 : σ48.1 675 a0 = 0 := (kp_r e47).trans k43
  have k68 : σ48.1 681 a0 = 0 := (kp_r e47).trans k44
  have k69 : σ48.2.2.2.2 640 a0 = some q21 := kr_s e47
  have ox := oX_ra ox e47
  refine lv_aload_n hx hb dX11_init_13 rfl (lv_at hl 0 rfl) ?_
  refine lv_bipush (v := 64) hx hb dX11_init_14 (by decide) ?_
  refine o_newi cx hA hw 49 (by decide) (fun _ => rfl) (atype := .int) (ty := .int) rfl k_a_int rfl (fun _ => rfl) (by decide) (by decide) (fun _ => rfl) (by decide) (by decide) (by decide) (by decide) (by decide) dX11_init_16 (fun q70 L τ σ72 H g71 hw => ?_)
  have h73 : oA L τ a0 26 := oG_a g71 h24
  have h74 : oA L τ q21 48 := oG_a g71 h45
  have k75 : σ72.1 641 a0 = 0 := (oG_i g71 h24).trans k49
  have k76 : σ72.1 642 a0 = 0 := (oG_i g71 h24).trans k50
  have k77 : σ72.1 645 a0 = 0 := (oG_i g71 h24).trans k51
  have k78 : σ72.1 647 a0 = 0 := (oG_i g71 h24).trans k52
  have k79 : σ72.1 649 a0 = 0 := (oG_i g71 h24).trans k53
  have k80 : σ72.1 650 a0 = 0 := (oG_i g71 h24).trans k54
  have k81 : σ72.1 651 a0 = 0 := (oG_i g71 h24).trans k55
  have k82 : σ72.1 653 a0 = 0 := (oG_i g71 h24).trans k56
  have k83 : σ72.1 655 a0 = 0 := (oG_i g71 h24).trans k57
  have k84 : σ72.1 657 a0 = 0 := (oG_i g71 h24).trans k58
  have k85 : σ72.1 658 a0 = 0 := (oG_i g71 h24).trans k59
  have k86 : σ72.1 660 a0 = 0 := (oG_i g71 h24).trans k60
  have k87 : σ72.1 661 a0 = 0 := (oG_i g71 h24).trans k61
  have k88 : σ72.1 662 a0 = 0 := (oG_i g71 h24).trans k62
  have k89 : σ72.1 663 a0 = 0 := (oG_i g71 h24).trans k63
  have k90 : σ72.1 668 a0 = 0 := (oG_i g71 h24).trans k64
  have k91 : σ72.1 669 a0 = 0 := (oG_i g71 h24).trans k65
  have k92 : σ72.1 672 a0 = 0 := (oG_i g71 h24).trans k66
  have k93 : σ72.1 675 a0 = 0 := (oG_i g71 h24).trans k67
  have k94 : σ72.1 681 a0 = 0 := (oG_i g71 h24).trans k68
  have k95 : σ72.2.2.2.2 640 a0 = some q21 := (oG_r g71 h24).trans k69
  have h96 : oA L τ q70 49 := oG_q g71
  have n97 := oX_new ox g71
  have ox := oX_g ox g71
  refine o_putrF cx hw 10 3 rfl fiX11 tyX11 tyX11_ok nmX11 h73 (by decide) (by decide) rfl (by decide) rfl rfl rfl rfl hin rfl rfl k_f_X11_13 dX11_init_18 (fun σ99 H locs e98 hw => ?_)
  have k100 : σ99.1 641 a0 = 0 := (kp_r e98).trans k75
  have k101 : σ99.1 642 a0 = 0 := (kp_r e98).trans k76
  have k102 : σ99.1 645 a0 = 0 := (kp_r e98).trans k77
  have k103 : σ99.1 647 a0 = 0 := (kp_r e98).trans k78
  have k104 : σ99.1 649 a0 = 0 := (kp_r e98).trans k79
  have k105 : σ99.1 650 a0 = 0 := (kp_r e98).trans k80
  have k106 : σ99.1 651 a0 = 0 := (kp_r e98).trans k81
  have k107 : σ99.1 653 a0 = 0 := (kp_r e98).trans k82
  have k108 : σ99.1 655 a0 = 0 := (kp_r e98).trans k83
  have k109 : σ99.1 657 a0 = 0 := (kp_r e98).trans k84
  have k110 : σ99.1 658 a0 = 0 := (kp_r e98).trans k85
  have k111 : σ99.1 660 a0 = 0 := (kp_r e98).trans k86
  have k112 : σ99.1 661 a0 = 0 := (kp_r e98).trans k87
  have k113 : σ99.1 662 a0 = 0 := (kp_r e98).trans k88
  have k114 : σ99.1 663 a0 = 0 := (kp_r e98).trans k89
  have k115 : σ99.1 668 a0 = 0 := (kp_r e98).trans k90
  have k116 : σ99.1 669 a0 = 0 := (kp_r e98).trans k91
  have k117 : σ99.1 672 a0 = 0 := (kp_r e98).trans k92
  have k118 : σ99.1 675 a0 = 0 := (kp_r e98).trans k93
  have k119 : σ99.1 681 a0 = 0 := (kp_r e98).trans k94
  have k120 : σ99.2.2.2.2 640 a0 = some q21 := (kr_r e98 (by decide)).trans k95
  have k121 : σ99.2.2.2.2 643 a0 = some q70 := kr_s e98
  have ox := oX_ra ox e98
  refine lv_aload_n hx hb dX11_init_21 rfl (lv_at hl 0 rfl) ?_
  refine lv_bipush (v := 64) hx hb dX11_init_22 (by decide) ?_
  refine o_newi cx hA hw 63 (by decide) (fun _ => rfl) (atype := .int) (ty := .int) rfl k_a_int rfl (fun _ => rfl) (by decide) (by decide) (fun _ => rfl) (by decide) (by decide) (by decide) (by decide) (by decide) dX11_init_24 (fun q122 L τ σ124 H g123 hw => ?_)
  have h125 : oA L τ a0 26 := oG_a g123 h73
  have h126 : oA L τ q21 48 := oG_a g123 h74
  have h127 : oA L τ q70 49 := oG_a g123 h96
  have k128 : σ124.1 641 a0 = 0 := (oG_i g123 h73).trans k100
  have k129 : σ124.1 642 a0 = 0 := (oG_i g123 h73).trans k101
  have k130 : σ124.1 645 a0 = 0 := (oG_i g123 h73).trans k102
  have k131 : σ124.1 647 a0 = 0 := (oG_i g123 h73).trans k103
  have k132 : σ124.1 649 a0 = 0 := (oG_i g123 h73).trans k104
  have k133 : σ124.1 650 a0 = 0 := (oG_i g123 h73).trans k105
  have k134 : σ124.1 651 a0 = 0 := (oG_i g123 h73).trans k106
  have k135 : σ124.1 653 a0 = 0 := (oG_i g123 h73).trans k107
  have k136 : σ124.1 655 a0 = 0 := (oG_i g123 h73).trans k108
  have k137 : σ124.1 657 a0 = 0 := (oG_i g123 h73).trans k109
  have k138 : σ124.1 658 a0 = 0 := (oG_i g123 h73).trans k110
  have k139 : σ124.1 660 a0 = 0 := (oG_i g123 h73).trans k111
  have k140 : σ124.1 661 a0 = 0 := (oG_i g123 h73).trans k112
  have k141 : σ124.1 662 a0 = 0 := (oG_i g123 h73).trans k113
  have k142 : σ124.1 663 a0 = 0 := (oG_i g123 h73).trans k114
  have k143 : σ124.1 668 a0 = 0 := (oG_i g123 h73).trans k115
  have k144 : σ124.1 669 a0 = 0 := (oG_i g123 h73).trans k116
  have k145 : σ124.1 672 a0 = 0 := (oG_i g123 h73).trans k117
  have k146 : σ124.1 675 a0 = 0 := (oG_i g123 h73).trans k118
  have k147 : σ124.1 681 a0 = 0 := (oG_i g123 h73).trans k119
  have k148 : σ124.2.2.2.2 640 a0 = some q21 := (oG_r g123 h73).trans k120
  have k149 : σ124.2.2.2.2 643 a0 = some q70 := (oG_r g123 h73).trans k121
  have h150 : oA L τ q122 63 := oG_q g123
  have n151 := oX_new ox g123
  have ox := oX_g ox g123
  refine o_putrF cx hw 10 4 rfl fiX11 tyX11 tyX11_ok nmX11 h125 (by decide) (by decide) rfl (by decide) rfl rfl rfl rfl hin rfl rfl k_f_X11_16 dX11_init_26 (fun σ153 H locs e152 hw => ?_)
  have k154 : σ153.1 641 a0 = 0 := (kp_r e152).trans k128
  have k155 : σ153.1 642 a0 = 0 := (kp_r e152).trans k129
  have k156 : σ153.1 645 a0 = 0 := (kp_r e152).trans k130
  have k157 : σ153.1 647 a0 = 0 := (kp_r e152).trans k131
  have k158 : σ153.1 649 a0 = 0 := (kp_r e152).trans k132
  have k159 : σ153.1 650 a0 = 0 := (kp_r e152).trans k133
  have k160 : σ153.1 651 a0 = 0 := (kp_r e152).trans k134
  have k161 : σ153.1 653 a0 = 0 := (kp_r e152).trans k135
  have k162 : σ153.1 655 a0 = 0 := (kp_r e152).trans k136
  have k163 : σ153.1 657 a0 = 0 := (kp_r e152).trans k137
  have k164 : σ153.1 658 a0 = 0 := (kp_r e152).trans k138
  have k165 : σ153.1 660 a0 = 0 := (kp_r e152).trans k139
  have k166 : σ153.1 661 a0 = 0 := (kp_r e152).trans k140
  have k167 : σ153.1 662 a0 = 0 := (kp_r e152).trans k141
  have k168 : σ153.1 663 a0 = 0 := (kp_r e152).trans k142
  have k169 : σ153.1 668 a0 = 0 := (kp_r e152).trans k143
  have k170 : σ153.1 669 a0 = 0 := (kp_r e152).trans k144
  have k171 : σ153.1 672 a0 = 0 := (kp_r e152).trans k145
  have k172 : σ153.1 675 a0 = 0 := (kp_r e152).trans k146
  have k173 : σ153.1 681 a0 = 0 := (kp_r e152).trans k147
  have k174 : σ153.2.2.2.2 640 a0 = some q21 := (kr_r e152 (by decide)).trans k148
  have k175 : σ153.2.2.2.2 643 a0 = some q70 := (kr_r e152 (by decide)).trans k149
  have k176 : σ153.2.2.2.2 644 a0 = some q122 := kr_s e152
  have ox := oX_ra ox e152
  refine lv_aload_n hx hb dX11_init_29 rfl (lv_at hl 0 rfl) ?_
  refine lv_bipush (v := 6) hx hb dX11_init_30 (by decide) ?_
  refine o_newi cx hA hw 50 (by decide) (fun _ => rfl) (atype := .int) (ty := .int) rfl k_a_int rfl (fun _ => rfl) (by decide) (by decide) (fun _ => rfl) (by decide) (by decide) (by decide) (by decide) (by decide) dX11_init_32 (fun q177 L τ σ179 H g178 hw => ?_)
  have h180 : oA L τ a0 26 := oG_a g178 h125
  have h181 : oA L τ q21 48 := oG_a g178 h126
  have h182 : oA L τ q70 49 := oG_a g178 h127
  have h183 : oA L τ q122 63 := oG_a g178 h150
  have k184 : σ179.1 641 a0 = 0 := (oG_i g178 h125).trans k154
  have k185 : σ179.1 642 a0 = 0 := (oG_i g178 h125).trans k155
  have k186 : σ179.1 645 a0 = 0 := (oG_i g178 h125).trans k156
  have k187 : σ179.1 647 a0 = 0 := (oG_i g178 h125).trans k157
  have k188 : σ179.1 649 a0 = 0 := (oG_i g178 h125).trans k158
  have k189 : σ179.1 650 a0 = 0 := (oG_i g178 h125).trans k159
  have k190 : σ179.1 651 a0 = 0 := (oG_i g178 h125).trans k160
  have k191 : σ179.1 653 a0 = 0 := (oG_i g178 h125).trans k161
  have k192 : σ179.1 655 a0 = 0 := (oG_i g178 h125).trans k162
  have k193 : σ179.1 657 a0 = 0 := (oG_i g178 h125).trans k163
  have k194 : σ179.1 658 a0 = 0 := (oG_i g178 h125).trans k164
  have k195 : σ179.1 660 a0 = 0 := (oG_i g178 h125).trans k165
  have k196 : σ179.1 661 a0 = 0 := (oG_i g178 h125).trans k166
  have k197 : σ179.1 662 a0 = 0 := (oG_i g178 h125).trans k167
  have k198 : σ179.1 663 a0 = 0 := (oG_i g178 h125).trans k168
  have k199 : σ179.1 668 a0 = 0 := (oG_i g178 h125).trans k169
  have k200 : σ179.1 669 a0 = 0 := (oG_i g178 h125).trans k170
  have k201 : σ179.1 672 a0 = 0 := (oG_i g178 h125).trans k171
  have k202 : σ179.1 675 a0 = 0 := (oG_i g178 h125).trans k172
  have k203 : σ179.1 681 a0 = 0 := (oG_i g178 h125).trans k173
  have k204 : σ179.2.2.2.2 640 a0 = some q21 := (oG_r g178 h125).trans k174
  have k205 : σ179.2.2.2.2 643 a0 = some q70 := (oG_r g178 h125).trans k175
  have k206 : σ179.2.2.2.2 644 a0 = some q122 := (oG_r g178 h125).trans k176
  have h207 : oA L τ q177 50 := oG_q g178
  have n208 := oX_new ox g178
  have ox := oX_g ox g178
  refine o_putrF cx hw 10 6 rfl fiX11 tyX11 tyX11_ok nmX11 h180 (by decide) (by decide) rfl (by decide) rfl rfl rfl rfl hin rfl rfl k_f_X11_19 dX11_init_34 (fun σ210 H locs e209 hw => ?_)
  have k211 : σ210.1 641 a0 = 0 := (kp_r e209).trans k184
  have k212 : σ210.1 642 a0 = 0 := (kp_r e209).trans k185
  have k213 : σ210.1 645 a0 = 0 := (kp_r e209).trans k186
  have k214 : σ210.1 647 a0 = 0 := (kp_r e209).trans k187
  have k215 : σ210.1 649 a0 = 0 := (kp_r e209).trans k188
  have k216 : σ210.1 650 a0 = 0 := (kp_r e209).trans k189
  have k217 : σ210.1 651 a0 = 0 := (kp_r e209).trans k190
  have k218 : σ210.1 653 a0 = 0 := (kp_r e209).trans k191
  have k219 : σ210.1 655 a0 = 0 := (kp_r e209).trans k192
  have k220 : σ210.1 657 a0 = 0 := (kp_r e209).trans k193
  have k221 : σ210.1 658 a0 = 0 := (kp_r e209).trans k194
  have k222 : σ210.1 660 a0 = 0 := (kp_r e209).trans k195
  have k223 : σ210.1 661 a0 = 0 := (kp_r e209).trans k196
  have k224 : σ210.1 662 a0 = 0 := (kp_r e209).trans k197
  have k225 : σ210.1 663 a0 = 0 := (kp_r e209).trans k198
  have k226 : σ210.1 668 a0 = 0 := (kp_r e209).trans k199
  have k227 : σ210.1 669 a0 = 0 := (kp_r e209).trans k200
  have k228 : σ210.1 672 a0 = 0 := (kp_r e209).trans k201
  have k229 : σ210.1 675 a0 = 0 := (kp_r e209).trans k202
  have k230 : σ210.1 681 a0 = 0 := (kp_r e209).trans k203
  have k231 : σ210.2.2.2.2 640 a0 = some q21 := (kr_r e209 (by decide)).trans k204
  have k232 : σ210.2.2.2.2 643 a0 = some q70 := (kr_r e209 (by decide)).trans k205
  have k233 : σ210.2.2.2.2 644 a0 = some q122 := (kr_r e209 (by decide)).trans k206
  have k234 : σ210.2.2.2.2 646 a0 = some q177 := kr_s e209
  have ox := oX_ra ox e209
  refine lv_aload_n hx hb dX11_init_37 rfl (lv_at hl 0 rfl) ?_
  refine lv_bipush (v := 6) hx hb dX11_init_38 (by decide) ?_
  refine o_newi cx hA hw 69 (by decide) (fun _ => rfl) (atype := .int) (ty := .int) rfl k_a_int rfl (fun _ => rfl) (by decide) (by decide) (fun _ => rfl) (by decide) (by decide) (by decide) (by decide) (by decide) dX11_init_40 (fun q235 L τ σ237 H g236 hw => ?_)
  have h238 : oA L τ a0 26 := oG_a g236 h180
  have h239 : oA L τ q21 48 := oG_a g236 h181
  have h240 : oA L τ q70 49 := oG_a g236 h182
  have h241 : oA L τ q122 63 := oG_a g236 h183
  have h242 : oA L τ q177 50 := oG_a g236 h207
  have k243 : σ237.1 641 a0 = 0 := (oG_i g236 h180).trans k211
  have k244 : σ237.1 642 a0 = 0 := (oG_i g236 h180).trans k212
  have k245 : σ237.1 645 a0 = 0 := (oG_i g236 h180).trans k213
  have k246 : σ237.1 647 a0 = 0 := (oG_i g236 h180).trans k214
  have k247 : σ237.1 649 a0 = 0 := (oG_i g236 h180).trans k215
  have k248 : σ237.1 650 a0 = 0 := (oG_i g236 h180).trans k216
  have k249 : σ237.1 651 a0 = 0 := (oG_i g236 h180).trans k217
  have k250 : σ237.1 653 a0 = 0 := (oG_i g236 h180).trans k218
  have k251 : σ237.1 655 a0 = 0 := (oG_i g236 h180).trans k219
  have k252 : σ237.1 657 a0 = 0 := (oG_i g236 h180).trans k220
  have k253 : σ237.1 658 a0 = 0 := (oG_i g236 h180).trans k221
  have k254 : σ237.1 660 a0 = 0 := (oG_i g236 h180).trans k222
  have k255 : σ237.1 661 a0 = 0 := (oG_i g236 h180).trans k223
  have k256 : σ237.1 662 a0 = 0 := (oG_i g236 h180).trans k224
  have k257 : σ237.1 663 a0 = 0 := (oG_i g236 h180).trans k225
  have k258 : σ237.1 668 a0 = 0 := (oG_i g236 h180).trans k226
  have k259 : σ237.1 669 a0 = 0 := (oG_i g236 h180).trans k227
  have k260 : σ237.1 672 a0 = 0 := (oG_i g236 h180).trans k228
  have k261 : σ237.1 675 a0 = 0 := (oG_i g236 h180).trans k229
  have k262 : σ237.1 681 a0 = 0 := (oG_i g236 h180).trans k230
  have k263 : σ237.2.2.2.2 640 a0 = some q21 := (oG_r g236 h180).trans k231
  have k264 : σ237.2.2.2.2 643 a0 = some q70 := (oG_r g236 h180).trans k232
  have k265 : σ237.2.2.2.2 644 a0 = some q122 := (oG_r g236 h180).trans k233
  have k266 : σ237.2.2.2.2 646 a0 = some q177 := (oG_r g236 h180).trans k234
  have h267 : oA L τ q235 69 := oG_q g236
  have n268 := oX_new ox g236
  have ox := oX_g ox g236
  refine o_putrF cx hw 10 8 rfl fiX11 tyX11 tyX11_ok nmX11 h238 (by decide) (by decide) rfl (by decide) rfl rfl rfl rfl hin rfl rfl k_f_X11_22 dX11_init_42 (fun σ270 H locs e269 hw => ?_)
  have k271 : σ270.1 641 a0 = 0 := (kp_r e269).trans k243
  have k272 : σ270.1 642 a0 = 0 := (kp_r e269).trans k244
  have k273 : σ270.1 645 a0 = 0 := (kp_r e269).trans k245
  have k274 : σ270.1 647 a0 = 0 := (kp_r e269).trans k246
  have k275 : σ270.1 649 a0 = 0 := (kp_r e269).trans k247
  have k276 : σ270.1 650 a0 = 0 := (kp_r e269).trans k248
  have k277 : σ270.1 651 a0 = 0 := (kp_r e269).trans k249
  have k278 : σ270.1 653 a0 = 0 := (kp_r e269).trans k250
  have k279 : σ270.1 655 a0 = 0 := (kp_r e269).trans k251
  have k280 : σ270.1 657 a0 = 0 := (kp_r e269).trans k252
  have k281 : σ270.1 658 a0 = 0 := (kp_r e269).trans k253
  have k282 : σ270.1 660 a0 = 0 := (kp_r e269).trans k254
  have k283 : σ270.1 661 a0 = 0 := (kp_r e269).trans k255
  have k284 : σ270.1 662 a0 = 0 := (kp_r e269).trans k256
  have k285 : σ270.1 663 a0 = 0 := (kp_r e269).trans k257
  have k286 : σ270.1 668 a0 = 0 := (kp_r e269).trans k258
  have k287 : σ270.1 669 a0 = 0 := (kp_r e269).trans k259
  have k288 : σ270.1 672 a0 = 0 := (kp_r e269).trans k260
  have k289 : σ270.1 675 a0 = 0 := (kp_r e269).trans k261
  have k290 : σ270.1 681 a0 = 0 := (kp_r e269).trans k262
  have k291 : σ270.2.2.2.2 640 a0 = some q21 := (kr_r e269 (by decide)).trans k263
  have k292 : σ270.2.2.2.2 643 a0 = some q70 := (kr_r e269 (by decide)).trans k264
  have k293 : σ270.2.2.2.2 644 a0 = some q122 := (kr_r e269 (by decide)).trans k265
  have k294 : σ270.2.2.2.2 646 a0 = some q177 := (kr_r e269 (by decide)).trans k266
  have k295 : σ270.2.2.2.2 648 a0 = some q235 := kr_s e269
  have ox := oX_ra ox e269
  refine lv_aload_n hx hb dX11_init_45 rfl (lv_at hl 0 rfl) ?_
  refine lv_bipush (v := 12) hx hb dX11_init_46 (by decide) ?_
  refine o_puti (v := 12) cx hw 10 10 rfl fiX11 tyX11 tyX11_ok nmX11 h238 (by decide) rfl (by decide) rfl rfl rfl rfl rfl (by decide) (fun h => absurd h (by decide)) k_f_X11_25 dX11_init_48 (fun σ297 H locs e296 hw => ?_)
  have k298 : σ297.1 641 a0 = 0 := (kp_i e296 (by decide)).trans k271
  have k299 : σ297.1 642 a0 = 0 := (kp_i e296 (by decide)).trans k272
  have k300 : σ297.1 645 a0 = 0 := (kp_i e296 (by decide)).trans k273
  have k301 : σ297.1 647 a0 = 0 := (kp_i e296 (by decide)).trans k274
  have k302 : σ297.1 649 a0 = 0 := (kp_i e296 (by decide)).trans k275
  have k303 : σ297.1 651 a0 = 0 := (kp_i e296 (by decide)).trans k277
  have k304 : σ297.1 653 a0 = 0 := (kp_i e296 (by decide)).trans k278
  have k305 : σ297.1 655 a0 = 0 := (kp_i e296 (by decide)).trans k279
  have k306 : σ297.1 657 a0 = 0 := (kp_i e296 (by decide)).trans k280
  have k307 : σ297.1 658 a0 = 0 := (kp_i e296 (by decide)).trans k281
  have k308 : σ297.1 660 a0 = 0 := (kp_i e296 (by decide)).trans k282
  have k309 : σ297.1 661 a0 = 0 := (kp_i e296 (by decide)).trans k283
  have k310 : σ297.1 662 a0 = 0 := (kp_i e296 (by decide)).trans k284
  have k311 : σ297.1 663 a0 = 0 := (kp_i e296 (by decide)).trans k285
  have k312 : σ297.1 668 a0 = 0 := (kp_i e296 (by decide)).trans k286
  have k313 : σ297.1 669 a0 = 0 := (kp_i e296 (by decide)).trans k287
  have k314 : σ297.1 672 a0 = 0 := (kp_i e296 (by decide)).trans k288
  have k315 : σ297.1 675 a0 = 0 := (kp_i e296 (by decide)).trans k289
  have k316 : σ297.1 681 a0 = 0 := (kp_i e296 (by decide)).trans k290
  have k317 : σ297.2.2.2.2 640 a0 = some q21 := (kr_i e296).trans k291
  have k318 : σ297.2.2.2.2 643 a0 = some q70 := (kr_i e296).trans k292
  have k319 : σ297.2.2.2.2 644 a0 = some q122 := (kr_i e296).trans k293
  have k320 : σ297.2.2.2.2 646 a0 = some q177 := (kr_i e296).trans k294
  have k321 : σ297.2.2.2.2 648 a0 = some q235 := (kr_i e296).trans k295
  have k322 : σ297.1 650 a0 = 12 := kp_s e296
  have ox := oX_i ox e296
  refine lv_aload_n hx hb dX11_init_51 rfl (lv_at hl 0 rfl) ?_
  refine lv_bipush (v := 6) hx hb dX11_init_52 (by decide) ?_
  refine o_puti (v := 6) cx hw 10 11 rfl fiX11 tyX11 tyX11_ok nmX11 h238 (by decide) rfl (by decide) rfl rfl rfl rfl rfl (by decide) (fun h => absurd h (by decide)) k_f_X11_29 dX11_init_54 (fun σ324 H locs e323 hw => ?_)
  have k325 : σ324.1 641 a0 = 0 := (kp_i e323 (by decide)).trans k298
  have k326 : σ324.1 642 a0 = 0 := (kp_i e323 (by decide)).trans k299
  have k327 : σ324.1 645 a0 = 0 := (kp_i e323 (by decide)).trans k300
  have k328 : σ324.1 647 a0 = 0 := (kp_i e323 (by decide)).trans k301
  have k329 : σ324.1 649 a0 = 0 := (kp_i e323 (by decide)).trans k302
  have k330 : σ324.1 653 a0 = 0 := (kp_i e323 (by decide)).trans k304
  have k331 : σ324.1 655 a0 = 0 := (kp_i e323 (by decide)).trans k305
  have k332 : σ324.1 657 a0 = 0 := (kp_i e323 (by decide)).trans k306
  have k333 : σ324.1 658 a0 = 0 := (kp_i e323 (by decide)).trans k307
  have k334 : σ324.1 660 a0 = 0 := (kp_i e323 (by decide)).trans k308
  have k335 : σ324.1 661 a0 = 0 := (kp_i e323 (by decide)).trans k309
  have k336 : σ324.1 662 a0 = 0 := (kp_i e323 (by decide)).trans k310
  have k337 : σ324.1 663 a0 = 0 := (kp_i e323 (by decide)).trans k311
  have k338 : σ324.1 668 a0 = 0 := (kp_i e323 (by decide)).trans k312
  have k339 : σ324.1 669 a0 = 0 := (kp_i e323 (by decide)).trans k313
  have k340 : σ324.1 672 a0 = 0 := (kp_i e323 (by decide)).trans k314
  have k341 : σ324.1 675 a0 = 0 := (kp_i e323 (by decide)).trans k315
  have k342 : σ324.1 681 a0 = 0 := (kp_i e323 (by decide)).trans k316
  have k343 : σ324.1 650 a0 = 12 := (kp_i e323 (by decide)).trans k322
  have k344 : σ324.2.2.2.2 640 a0 = some q21 := (kr_i e323).trans k317
  have k345 : σ324.2.2.2.2 643 a0 = some q70 := (kr_i e323).trans k318
  have k346 : σ324.2.2.2.2 644 a0 = some q122 := (kr_i e323).trans k319
  have k347 : σ324.2.2.2.2 646 a0 = some q177 := (kr_i e323).trans k320
  have k348 : σ324.2.2.2.2 648 a0 = some q235 := (kr_i e323).trans k321
  have k349 : σ324.1 651 a0 = 6 := kp_s e323
  have ox := oX_i ox e323
  refine lv_aload_n hx hb dX11_init_57 rfl (lv_at hl 0 rfl) ?_
  refine lv_bipush (v := 80) hx hb dX11_init_58 (by decide) ?_
  refine o_newi cx hA hw 51 (by decide) (fun _ => rfl) (atype := .byte) (ty := .byte) rfl k_a_byte rfl (fun _ => rfl) (by decide) (by decide) (fun _ => rfl) (by decide) (by decide) (by decide) (by decide) (by decide) dX11_init_60 (fun q350 L τ σ352 H g351 hw => ?_)
  have h353 : oA L τ a0 26 := oG_a g351 h238
  have h354 : oA L τ q21 48 := oG_a g351 h239
  have h355 : oA L τ q70 49 := oG_a g351 h240
  have h356 : oA L τ q122 63 := oG_a g351 h241
  have h357 : oA L τ q177 50 := oG_a g351 h242
  have h358 : oA L τ q235 69 := oG_a g351 h267
  have k359 : σ352.1 641 a0 = 0 := (oG_i g351 h238).trans k325
  have k360 : σ352.1 642 a0 = 0 := (oG_i g351 h238).trans k326
  have k361 : σ352.1 645 a0 = 0 := (oG_i g351 h238).trans k327
  have k362 : σ352.1 647 a0 = 0 := (oG_i g351 h238).trans k328
  have k363 : σ352.1 649 a0 = 0 := (oG_i g351 h238).trans k329
  have k364 : σ352.1 653 a0 = 0 := (oG_i g351 h238).trans k330
  have k365 : σ352.1 655 a0 = 0 := (oG_i g351 h238).trans k331
  have k366 : σ352.1 657 a0 = 0 := (oG_i g351 h238).trans k332
  have k367 : σ352.1 658 a0 = 0 := (oG_i g351 h238).trans k333
  have k368 : σ352.1 660 a0 = 0 := (oG_i g351 h238).trans k334
  have k369 : σ352.1 661 a0 = 0 := (oG_i g351 h238).trans k335
  have k370 : σ352.1 662 a0 = 0 := (oG_i g351 h238).trans k336
  have k371 : σ352.1 663 a0 = 0 := (oG_i g351 h238).trans k337
  have k372 : σ352.1 668 a0 = 0 := (oG_i g351 h238).trans k338
  have k373 : σ352.1 669 a0 = 0 := (oG_i g351 h238).trans k339
  have k374 : σ352.1 672 a0 = 0 := (oG_i g351 h238).trans k340
  have k375 : σ352.1 675 a0 = 0 := (oG_i g351 h238).trans k341
  have k376 : σ352.1 681 a0 = 0 := (oG_i g351 h238).trans k342
  have k377 : σ352.1 650 a0 = 12 := (oG_i g351 h238).trans k343
  have k378 : σ352.1 651 a0 = 6 := (oG_i g351 h238).trans k349
  have k379 : σ352.2.2.2.2 640 a0 = some q21 := (oG_r g351 h238).trans k344
  have k380 : σ352.2.2.2.2 643 a0 = some q70 := (oG_r g351 h238).trans k345
  have k381 : σ352.2.2.2.2 644 a0 = some q122 := (oG_r g351 h238).trans k346
  have k382 : σ352.2.2.2.2 646 a0 = some q177 := (oG_r g351 h238).trans k347
  have k383 : σ352.2.2.2.2 648 a0 = some q235 := (oG_r g351 h238).trans k348
  have h384 : oA L τ q350 51 := oG_q g351
  have n385 := oX_new ox g351
  have ox := oX_g ox g351
  refine o_putrF cx hw 10 14 rfl fiX11 tyX11 tyX11_ok nmX11 h353 (by decide) (by decide) rfl (by decide) rfl rfl rfl rfl hin rfl rfl k_f_X11_32 dX11_init_62 (fun σ387 H locs e386 hw => ?_)
  have k388 : σ387.1 641 a0 = 0 := (kp_r e386).trans k359
  have k389 : σ387.1 642 a0 = 0 := (kp_r e386).trans k360
  have k390 : σ387.1 645 a0 = 0 := (kp_r e386).trans k361
  have k391 : σ387.1 647 a0 = 0 := (kp_r e386).trans k362
  have k392 : σ387.1 649 a0 = 0 := (kp_r e386).trans k363
  have k393 : σ387.1 653 a0 = 0 := (kp_r e386).trans k364
  have k394 : σ387.1 655 a0 = 0 := (kp_r e386).trans k365
  have k395 : σ387.1 657 a0 = 0 := (kp_r e386).trans k366
  have k396 : σ387.1 658 a0 = 0 := (kp_r e386).trans k367
  have k397 : σ387.1 660 a0 = 0 := (kp_r e386).trans k368
  have k398 : σ387.1 661 a0 = 0 := (kp_r e386).trans k369
  have k399 : σ387.1 662 a0 = 0 := (kp_r e386).trans k370
  have k400 : σ387.1 663 a0 = 0 := (kp_r e386).trans k371
  have k401 : σ387.1 668 a0 = 0 := (kp_r e386).trans k372
  have k402 : σ387.1 669 a0 = 0 := (kp_r e386).trans k373
  have k403 : σ387.1 672 a0 = 0 := (kp_r e386).trans k374
  have k404 : σ387.1 675 a0 = 0 := (kp_r e386).trans k375
  have k405 : σ387.1 681 a0 = 0 := (kp_r e386).trans k376
  have k406 : σ387.1 650 a0 = 12 := (kp_r e386).trans k377
  have k407 : σ387.1 651 a0 = 6 := (kp_r e386).trans k378
  have k408 : σ387.2.2.2.2 640 a0 = some q21 := (kr_r e386 (by decide)).trans k379
  have k409 : σ387.2.2.2.2 643 a0 = some q70 := (kr_r e386 (by decide)).trans k380
  have k410 : σ387.2.2.2.2 644 a0 = some q122 := (kr_r e386 (by decide)).trans k381
  have k411 : σ387.2.2.2.2 646 a0 = some q177 := (kr_r e386 (by decide)).trans k382
  have k412 : σ387.2.2.2.2 648 a0 = some q235 := (kr_r e386 (by decide)).trans k383
  have k413 : σ387.2.2.2.2 654 a0 = some q350 := kr_s e386
  have ox := oX_ra ox e386
  refine lv_aload_n hx hb dX11_init_65 rfl (lv_at hl 0 rfl) ?_
  refine lv_bipush (v := 20) hx hb dX11_init_66 (by decide) ?_
  refine o_newl cx hA hw 52 (by decide) (fun _ => rfl) rfl (by decide) (by decide) (by decide) (by decide) (by decide) dX11_init_68 (fun q414 L τ σ416 H g415 hw => ?_)
  have h417 : oA L τ a0 26 := oG_a g415 h353
  have h418 : oA L τ q21 48 := oG_a g415 h354
  have h419 : oA L τ q70 49 := oG_a g415 h355
  have h420 : oA L τ q122 63 := oG_a g415 h356
  have h421 : oA L τ q177 50 := oG_a g415 h357
  have h422 : oA L τ q235 69 := oG_a g415 h358
  have h423 : oA L τ q350 51 := oG_a g415 h384
  have k424 : σ416.1 641 a0 = 0 := (oG_i g415 h353).trans k388
  have k425 : σ416.1 642 a0 = 0 := (oG_i g415 h353).trans k389
  have k426 : σ416.1 645 a0 = 0 := (oG_i g415 h353).trans k390
  have k427 : σ416.1 647 a0 = 0 := (oG_i g415 h353).trans k391
  have k428 : σ416.1 649 a0 = 0 := (oG_i g415 h353).trans k392
  have k429 : σ416.1 653 a0 = 0 := (oG_i g415 h353).trans k393
  have k430 : σ416.1 655 a0 = 0 := (oG_i g415 h353).trans k394
  have k431 : σ416.1 657 a0 = 0 := (oG_i g415 h353).trans k395
  have k432 : σ416.1 658 a0 = 0 := (oG_i g415 h353).trans k396
  have k433 : σ416.1 660 a0 = 0 := (oG_i g415 h353).trans k397
  have k434 : σ416.1 661 a0 = 0 := (oG_i g415 h353).trans k398
  have k435 : σ416.1 662 a0 = 0 := (oG_i g415 h353).trans k399
  have k436 : σ416.1 663 a0 = 0 := (oG_i g415 h353).trans k400
  have k437 : σ416.1 668 a0 = 0 := (oG_i g415 h353).trans k401
  have k438 : σ416.1 669 a0 = 0 := (oG_i g415 h353).trans k402
  have k439 : σ416.1 672 a0 = 0 := (oG_i g415 h353).trans k403
  have k440 : σ416.1 675 a0 = 0 := (oG_i g415 h353).trans k404
  have k441 : σ416.1 681 a0 = 0 := (oG_i g415 h353).trans k405
  have k442 : σ416.1 650 a0 = 12 := (oG_i g415 h353).trans k406
  have k443 : σ416.1 651 a0 = 6 := (oG_i g415 h353).trans k407
  have k444 : σ416.2.2.2.2 640 a0 = some q21 := (oG_r g415 h353).trans k408
  have k445 : σ416.2.2.2.2 643 a0 = some q70 := (oG_r g415 h353).trans k409
  have k446 : σ416.2.2.2.2 644 a0 = some q122 := (oG_r g415 h353).trans k410
  have k447 : σ416.2.2.2.2 646 a0 = some q177 := (oG_r g415 h353).trans k411
  have k448 : σ416.2.2.2.2 648 a0 = some q235 := (oG_r g415 h353).trans k412
  have k449 : σ416.2.2.2.2 654 a0 = some q350 := (oG_r g415 h353).trans k413
  have h450 : oA L τ q414 52 := oG_q g415
  have n451 := oX_new ox g415
  have ox := oX_g ox g415
  refine o_putrF cx hw 10 16 rfl fiX11 tyX11 tyX11_ok nmX11 h417 (by decide) (by decide) rfl (by decide) rfl rfl rfl rfl hin rfl rfl k_f_X11_36 dX11_init_70 (fun σ453 H locs e452 hw => ?_)
  have k454 : σ453.1 641 a0 = 0 := (kp_r e452).trans k424
  have k455 : σ453.1 642 a0 = 0 := (kp_r e452).trans k425
  have k456 : σ453.1 645 a0 = 0 := (kp_r e452).trans k426
  have k457 : σ453.1 647 a0 = 0 := (kp_r e452).trans k427
  have k458 : σ453.1 649 a0 = 0 := (kp_r e452).trans k428
  have k459 : σ453.1 653 a0 = 0 := (kp_r e452).trans k429
  have k460 : σ453.1 655 a0 = 0 := (kp_r e452).trans k430
  have k461 : σ453.1 657 a0 = 0 := (kp_r e452).trans k431
  have k462 : σ453.1 658 a0 = 0 := (kp_r e452).trans k432
  have k463 : σ453.1 660 a0 = 0 := (kp_r e452).trans k433
  have k464 : σ453.1 661 a0 = 0 := (kp_r e452).trans k434
  have k465 : σ453.1 662 a0 = 0 := (kp_r e452).trans k435
  have k466 : σ453.1 663 a0 = 0 := (kp_r e452).trans k436
  have k467 : σ453.1 668 a0 = 0 := (kp_r e452).trans k437
  have k468 : σ453.1 669 a0 = 0 := (kp_r e452).trans k438
  have k469 : σ453.1 672 a0 = 0 := (kp_r e452).trans k439
  have k470 : σ453.1 675 a0 = 0 := (kp_r e452).trans k440
  have k471 : σ453.1 681 a0 = 0 := (kp_r e452).trans k441
  have k472 : σ453.1 650 a0 = 12 := (kp_r e452).trans k442
  have k473 : σ453.1 651 a0 = 6 := (kp_r e452).trans k443
  have k474 : σ453.2.2.2.2 640 a0 = some q21 := (kr_r e452 (by decide)).trans k444
  have k475 : σ453.2.2.2.2 643 a0 = some q70 := (kr_r e452 (by decide)).trans k445
  have k476 : σ453.2.2.2.2 644 a0 = some q122 := (kr_r e452 (by decide)).trans k446
  have k477 : σ453.2.2.2.2 646 a0 = some q177 := (kr_r e452 (by decide)).trans k447
  have k478 : σ453.2.2.2.2 648 a0 = some q235 := (kr_r e452 (by decide)).trans k448
  have k479 : σ453.2.2.2.2 654 a0 = some q350 := (kr_r e452 (by decide)).trans k449
  have k480 : σ453.2.2.2.2 656 a0 = some q414 := kr_s e452
  have ox := oX_ra ox e452
  refine lv_aload_n hx hb dX11_init_73 rfl (lv_at hl 0 rfl) ?_
  refine lv_bipush (v := 64) hx hb dX11_init_74 (by decide) ?_
  refine o_newi cx hA hw 64 (by decide) (fun _ => rfl) (atype := .int) (ty := .int) rfl k_a_int rfl (fun _ => rfl) (by decide) (by decide) (fun _ => rfl) (by decide) (by decide) (by decide) (by decide) (by decide) dX11_init_76 (fun q481 L τ σ483 H g482 hw => ?_)
  have h484 : oA L τ a0 26 := oG_a g482 h417
  have h485 : oA L τ q21 48 := oG_a g482 h418
  have h486 : oA L τ q70 49 := oG_a g482 h419
  have h487 : oA L τ q122 63 := oG_a g482 h420
  have h488 : oA L τ q177 50 := oG_a g482 h421
  have h489 : oA L τ q235 69 := oG_a g482 h422
  have h490 : oA L τ q350 51 := oG_a g482 h423
  have h491 : oA L τ q414 52 := oG_a g482 h450
  have k492 : σ483.1 641 a0 = 0 := (oG_i g482 h417).trans k454
  have k493 : σ483.1 642 a0 = 0 := (oG_i g482 h417).trans k455
  have k494 : σ483.1 645 a0 = 0 := (oG_i g482 h417).trans k456
  have k495 : σ483.1 647 a0 = 0 := (oG_i g482 h417).trans k457
  have k496 : σ483.1 649 a0 = 0 := (oG_i g482 h417).trans k458
  have k497 : σ483.1 653 a0 = 0 := (oG_i g482 h417).trans k459
  have k498 : σ483.1 655 a0 = 0 := (oG_i g482 h417).trans k460
  have k499 : σ483.1 657 a0 = 0 := (oG_i g482 h417).trans k461
  have k500 : σ483.1 658 a0 = 0 := (oG_i g482 h417).trans k462
  have k501 : σ483.1 660 a0 = 0 := (oG_i g482 h417).trans k463
  have k502 : σ483.1 661 a0 = 0 := (oG_i g482 h417).trans k464
  have k503 : σ483.1 662 a0 = 0 := (oG_i g482 h417).trans k465
  have k504 : σ483.1 663 a0 = 0 := (oG_i g482 h417).trans k466
  have k505 : σ483.1 668 a0 = 0 := (oG_i g482 h417).trans k467
  have k506 : σ483.1 669 a0 = 0 := (oG_i g482 h417).trans k468
  have k507 : σ483.1 672 a0 = 0 := (oG_i g482 h417).trans k469
  have k508 : σ483.1 675 a0 = 0 := (oG_i g482 h417).trans k470
  have k509 : σ483.1 681 a0 = 0 := (oG_i g482 h417).trans k471
  have k510 : σ483.1 650 a0 = 12 := (oG_i g482 h417).trans k472
  have k511 : σ483.1 651 a0 = 6 := (oG_i g482 h417).trans k473
  have k512 : σ483.2.2.2.2 640 a0 = some q21 := (oG_r g482 h417).trans k474
  have k513 : σ483.2.2.2.2 643 a0 = some q70 := (oG_r g482 h417).trans k475
  have k514 : σ483.2.2.2.2 644 a0 = some q122 := (oG_r g482 h417).trans k476
  have k515 : σ483.2.2.2.2 646 a0 = some q177 := (oG_r g482 h417).trans k477
  have k516 : σ483.2.2.2.2 648 a0 = some q235 := (oG_r g482 h417).trans k478
  have k517 : σ483.2.2.2.2 654 a0 = some q350 := (oG_r g482 h417).trans k479
  have k518 : σ483.2.2.2.2 656 a0 = some q414 := (oG_r g482 h417).trans k480
  have h519 : oA L τ q481 64 := oG_q g482
  have n520 := oX_new ox g482
  have ox := oX_g ox g482
  refine o_putrF cx hw 10 24 rfl fiX11 tyX11 tyX11_ok nmX11 h484 (by decide) (by decide) rfl (by decide) rfl rfl rfl rfl hin rfl rfl k_f_X11_40 dX11_init_78 (fun σ522 H locs e521 hw => ?_)
  have k523 : σ522.1 641 a0 = 0 := (kp_r e521).trans k492
  have k524 : σ522.1 642 a0 = 0 := (kp_r e521).trans k493
  have k525 : σ522.1 645 a0 = 0 := (kp_r e521).trans k494
  have k526 : σ522.1 647 a0 = 0 := (kp_r e521).trans k495
  have k527 : σ522.1 649 a0 = 0 := (kp_r e521).trans k496
  have k528 : σ522.1 653 a0 = 0 := (kp_r e521).trans k497
  have k529 : σ522.1 655 a0 = 0 := (kp_r e521).trans k498
  have k530 : σ522.1 657 a0 = 0 := (kp_r e521).trans k499
  have k531 : σ522.1 658 a0 = 0 := (kp_r e521).trans k500
  have k532 : σ522.1 660 a0 = 0 := (kp_r e521).trans k501
  have k533 : σ522.1 661 a0 = 0 := (kp_r e521).trans k502
  have k534 : σ522.1 662 a0 = 0 := (kp_r e521).trans k503
  have k535 : σ522.1 663 a0 = 0 := (kp_r e521).trans k504
  have k536 : σ522.1 668 a0 = 0 := (kp_r e521).trans k505
  have k537 : σ522.1 669 a0 = 0 := (kp_r e521).trans k506
  have k538 : σ522.1 672 a0 = 0 := (kp_r e521).trans k507
  have k539 : σ522.1 675 a0 = 0 := (kp_r e521).trans k508
  have k540 : σ522.1 681 a0 = 0 := (kp_r e521).trans k509
  have k541 : σ522.1 650 a0 = 12 := (kp_r e521).trans k510
  have k542 : σ522.1 651 a0 = 6 := (kp_r e521).trans k511
  have k543 : σ522.2.2.2.2 640 a0 = some q21 := (kr_r e521 (by decide)).trans k512
  have k544 : σ522.2.2.2.2 643 a0 = some q70 := (kr_r e521 (by decide)).trans k513
  have k545 : σ522.2.2.2.2 644 a0 = some q122 := (kr_r e521 (by decide)).trans k514
  have k546 : σ522.2.2.2.2 646 a0 = some q177 := (kr_r e521 (by decide)).trans k515
  have k547 : σ522.2.2.2.2 648 a0 = some q235 := (kr_r e521 (by decide)).trans k516
  have k548 : σ522.2.2.2.2 654 a0 = some q350 := (kr_r e521 (by decide)).trans k517
  have k549 : σ522.2.2.2.2 656 a0 = some q414 := (kr_r e521 (by decide)).trans k518
  have k550 : σ522.2.2.2.2 664 a0 = some q481 := kr_s e521
  have ox := oX_ra ox e521
  refine lv_aload_n hx hb dX11_init_81 rfl (lv_at hl 0 rfl) ?_
  refine lv_bipush (v := 64) hx hb dX11_init_82 (by decide) ?_
  refine o_newi cx hA hw 65 (by decide) (fun _ => rfl) (atype := .int) (ty := .int) rfl k_a_int rfl (fun _ => rfl) (by decide) (by decide) (fun _ => rfl) (by decide) (by decide) (by decide) (by decide) (by decide) dX11_init_84 (fun q551 L τ σ553 H g552 hw => ?_)
  have h554 : oA L τ a0 26 := oG_a g552 h484
  have h555 : oA L τ q21 48 := oG_a g552 h485
  have h556 : oA L τ q70 49 := oG_a g552 h486
  have h557 : oA L τ q122 63 := oG_a g552 h487
  have h558 : oA L τ q177 50 := oG_a g552 h488
  have h559 : oA L τ q235 69 := oG_a g552 h489
  have h560 : oA L τ q350 51 := oG_a g552 h490
  have h561 : oA L τ q414 52 := oG_a g552 h491
  have h562 : oA L τ q481 64 := oG_a g552 h519
  have k563 : σ553.1 641 a0 = 0 := (oG_i g552 h484).trans k523
  have k564 : σ553.1 642 a0 = 0 := (oG_i g552 h484).trans k524
  have k565 : σ553.1 645 a0 = 0 := (oG_i g552 h484).trans k525
  have k566 : σ553.1 647 a0 = 0 := (oG_i g552 h484).trans k526
  have k567 : σ553.1 649 a0 = 0 := (oG_i g552 h484).trans k527
  have k568 : σ553.1 653 a0 = 0 := (oG_i g552 h484).trans k528
  have k569 : σ553.1 655 a0 = 0 := (oG_i g552 h484).trans k529
  have k570 : σ553.1 657 a0 = 0 := (oG_i g552 h484).trans k530
  have k571 : σ553.1 658 a0 = 0 := (oG_i g552 h484).trans k531
  have k572 : σ553.1 660 a0 = 0 := (oG_i g552 h484).trans k532
  have k573 : σ553.1 661 a0 = 0 := (oG_i g552 h484).trans k533
  have k574 : σ553.1 662 a0 = 0 := (oG_i g552 h484).trans k534
  have k575 : σ553.1 663 a0 = 0 := (oG_i g552 h484).trans k535
  have k576 : σ553.1 668 a0 = 0 := (oG_i g552 h484).trans k536
  have k577 : σ553.1 669 a0 = 0 := (oG_i g552 h484).trans k537
  have k578 : σ553.1 672 a0 = 0 := (oG_i g552 h484).trans k538
  have k579 : σ553.1 675 a0 = 0 := (oG_i g552 h484).trans k539
  have k580 : σ553.1 681 a0 = 0 := (oG_i g552 h484).trans k540
  have k581 : σ553.1 650 a0 = 12 := (oG_i g552 h484).trans k541
  have k582 : σ553.1 651 a0 = 6 := (oG_i g552 h484).trans k542
  have k583 : σ553.2.2.2.2 640 a0 = some q21 := (oG_r g552 h484).trans k543
  have k584 : σ553.2.2.2.2 643 a0 = some q70 := (oG_r g552 h484).trans k544
  have k585 : σ553.2.2.2.2 644 a0 = some q122 := (oG_r g552 h484).trans k545
  have k586 : σ553.2.2.2.2 646 a0 = some q177 := (oG_r g552 h484).trans k546
  have k587 : σ553.2.2.2.2 648 a0 = some q235 := (oG_r g552 h484).trans k547
  have k588 : σ553.2.2.2.2 654 a0 = some q350 := (oG_r g552 h484).trans k548
  have k589 : σ553.2.2.2.2 656 a0 = some q414 := (oG_r g552 h484).trans k549
  have k590 : σ553.2.2.2.2 664 a0 = some q481 := (oG_r g552 h484).trans k550
  have h591 : oA L τ q551 65 := oG_q g552
  have n592 := oX_new ox g552
  have ox := oX_g ox g552
  refine o_putrF cx hw 10 25 rfl fiX11 tyX11 tyX11_ok nmX11 h554 (by decide) (by decide) rfl (by decide) rfl rfl rfl rfl hin rfl rfl k_f_X11_43 dX11_init_86 (fun σ594 H locs e593 hw => ?_)
  have k595 : σ594.1 641 a0 = 0 := (kp_r e593).trans k563
  have k596 : σ594.1 642 a0 = 0 := (kp_r e593).trans k564
  have k597 : σ594.1 645 a0 = 0 := (kp_r e593).trans k565
  have k598 : σ594.1 647 a0 = 0 := (kp_r e593).trans k566
  have k599 : σ594.1 649 a0 = 0 := (kp_r e593).trans k567
  have k600 : σ594.1 653 a0 = 0 := (kp_r e593).trans k568
  have k601 : σ594.1 655 a0 = 0 := (kp_r e593).trans k569
  have k602 : σ594.1 657 a0 = 0 := (kp_r e593).trans k570
  have k603 : σ594.1 658 a0 = 0 := (kp_r e593).trans k571
  have k604 : σ594.1 660 a0 = 0 := (kp_r e593).trans k572
  have k605 : σ594.1 661 a0 = 0 := (kp_r e593).trans k573
  have k606 : σ594.1 662 a0 = 0 := (kp_r e593).trans k574
  have k607 : σ594.1 663 a0 = 0 := (kp_r e593).trans k575
  have k608 : σ594.1 668 a0 = 0 := (kp_r e593).trans k576
  have k609 : σ594.1 669 a0 = 0 := (kp_r e593).trans k577
  have k610 : σ594.1 672 a0 = 0 := (kp_r e593).trans k578
  have k611 : σ594.1 675 a0 = 0 := (kp_r e593).trans k579
  have k612 : σ594.1 681 a0 = 0 := (kp_r e593).trans k580
  have k613 : σ594.1 650 a0 = 12 := (kp_r e593).trans k581
  have k614 : σ594.1 651 a0 = 6 := (kp_r e593).trans k582
  have k615 : σ594.2.2.2.2 640 a0 = some q21 := (kr_r e593 (by decide)).trans k583
  have k616 : σ594.2.2.2.2 643 a0 = some q70 := (kr_r e593 (by decide)).trans k584
  have k617 : σ594.2.2.2.2 644 a0 = some q122 := (kr_r e593 (by decide)).trans k585
  have k618 : σ594.2.2.2.2 646 a0 = some q177 := (kr_r e593 (by decide)).trans k586
  have k619 : σ594.2.2.2.2 648 a0 = some q235 := (kr_r e593 (by decide)).trans k587
  have k620 : σ594.2.2.2.2 654 a0 = some q350 := (kr_r e593 (by decide)).trans k588
  have k621 : σ594.2.2.2.2 656 a0 = some q414 := (kr_r e593 (by decide)).trans k589
  have k622 : σ594.2.2.2.2 664 a0 = some q481 := (kr_r e593 (by decide)).trans k590
  have k623 : σ594.2.2.2.2 665 a0 = some q551 := kr_s e593
  have ox := oX_ra ox e593
  refine lv_aload_n hx hb dX11_init_89 rfl (lv_at hl 0 rfl) ?_
  refine lv_bipush (v := 18) hx hb dX11_init_90 (by decide) ?_
  refine o_newi cx hA hw 53 (by decide) (fun _ => rfl) (atype := .int) (ty := .int) rfl k_a_int rfl (fun _ => rfl) (by decide) (by decide) (fun _ => rfl) (by decide) (by decide) (by decide) (by decide) (by decide) dX11_init_92 (fun q624 L τ σ626 H g625 hw => ?_)
  have h627 : oA L τ a0 26 := oG_a g625 h554
  have h628 : oA L τ q21 48 := oG_a g625 h555
  have h629 : oA L τ q70 49 := oG_a g625 h556
  have h630 : oA L τ q122 63 := oG_a g625 h557
  have h631 : oA L τ q177 50 := oG_a g625 h558
  have h632 : oA L τ q235 69 := oG_a g625 h559
  have h633 : oA L τ q350 51 := oG_a g625 h560
  have h634 : oA L τ q414 52 := oG_a g625 h561
  have h635 : oA L τ q481 64 := oG_a g625 h562
  have h636 : oA L τ q551 65 := oG_a g625 h591
  have k637 : σ626.1 641 a0 = 0 := (oG_i g625 h554).trans k595
  have k638 : σ626.1 642 a0 = 0 := (oG_i g625 h554).trans k596
  have k639 : σ626.1 645 a0 = 0 := (oG_i g625 h554).trans k597
  have k640 : σ626.1 647 a0 = 0 := (oG_i g625 h554).trans k598
  have k641 : σ626.1 649 a0 = 0 := (oG_i g625 h554).trans k599
  have k642 : σ626.1 653 a0 = 0 := (oG_i g625 h554).trans k600
  have k643 : σ626.1 655 a0 = 0 := (oG_i g625 h554).trans k601
  have k644 : σ626.1 657 a0 = 0 := (oG_i g625 h554).trans k602
  have k645 : σ626.1 658 a0 = 0 := (oG_i g625 h554).trans k603
  have k646 : σ626.1 660 a0 = 0 := (oG_i g625 h554).trans k604
  have k647 : σ626.1 661 a0 = 0 := (oG_i g625 h554).trans k605
  have k648 : σ626.1 662 a0 = 0 := (oG_i g625 h554).trans k606
  have k649 : σ626.1 663 a0 = 0 := (oG_i g625 h554).trans k607
  have k650 : σ626.1 668 a0 = 0 := (oG_i g625 h554).trans k608
  have k651 : σ626.1 669 a0 = 0 := (oG_i g625 h554).trans k609
  have k652 : σ626.1 672 a0 = 0 := (oG_i g625 h554).trans k610
  have k653 : σ626.1 675 a0 = 0 := (oG_i g625 h554).trans k611
  have k654 : σ626.1 681 a0 = 0 := (oG_i g625 h554).trans k612
  have k655 : σ626.1 650 a0 = 12 := (oG_i g625 h554).trans k613
  have k656 : σ626.1 651 a0 = 6 := (oG_i g625 h554).trans k614
  have k657 : σ626.2.2.2.2 640 a0 = some q21 := (oG_r g625 h554).trans k615
  have k658 : σ626.2.2.2.2 643 a0 = some q70 := (oG_r g625 h554).trans k616
  have k659 : σ626.2.2.2.2 644 a0 = some q122 := (oG_r g625 h554).trans k617
  have k660 : σ626.2.2.2.2 646 a0 = some q177 := (oG_r g625 h554).trans k618
  have k661 : σ626.2.2.2.2 648 a0 = some q235 := (oG_r g625 h554).trans k619
  have k662 : σ626.2.2.2.2 654 a0 = some q350 := (oG_r g625 h554).trans k620
  have k663 : σ626.2.2.2.2 656 a0 = some q414 := (oG_r g625 h554).trans k621
  have k664 : σ626.2.2.2.2 664 a0 = some q481 := (oG_r g625 h554).trans k622
  have k665 : σ626.2.2.2.2 665 a0 = some q551 := (oG_r g625 h554).trans k623
  have h666 : oA L τ q624 53 := oG_q g625
  have n667 := oX_new ox g625
  have ox := oX_g ox g625
  refine o_putrF cx hw 10 26 rfl fiX11 tyX11 tyX11_ok nmX11 h627 (by decide) (by decide) rfl (by decide) rfl rfl rfl rfl hin rfl rfl k_f_X11_46 dX11_init_94 (fun σ669 H locs e668 hw => ?_)
  have k670 : σ669.1 641 a0 = 0 := (kp_r e668).trans k637
  have k671 : σ669.1 642 a0 = 0 := (kp_r e668).trans k638
  have k672 : σ669.1 645 a0 = 0 := (kp_r e668).trans k639
  have k673 : σ669.1 647 a0 = 0 := (kp_r e668).trans k640
  have k674 : σ669.1 649 a0 = 0 := (kp_r e668).trans k641
  have k675 : σ669.1 653 a0 = 0 := (kp_r e668).trans k642
  have k676 : σ669.1 655 a0 = 0 := (kp_r e668).trans k643
  have k677 : σ669.1 657 a0 = 0 := (kp_r e668).trans k644
  have k678 : σ669.1 658 a0 = 0 := (kp_r e668).trans k645
  have k679 : σ669.1 660 a0 = 0 := (kp_r e668).trans k646
  have k680 : σ669.1 661 a0 = 0 := (kp_r e668).trans k647
  have k681 : σ669.1 662 a0 = 0 := (kp_r e668).trans k648
  have k682 : σ669.1 663 a0 = 0 := (kp_r e668).trans k649
  have k683 : σ669.1 668 a0 = 0 := (kp_r e668).trans k650
  have k684 : σ669.1 669 a0 = 0 := (kp_r e668).trans k651
  have k685 : σ669.1 672 a0 = 0 := (kp_r e668).trans k652
  have k686 : σ669.1 675 a0 = 0 := (kp_r e668).trans k653
  have k687 : σ669.1 681 a0 = 0 := (kp_r e668).trans k654
  have k688 : σ669.1 650 a0 = 12 := (kp_r e668).trans k655
  have k689 : σ669.1 651 a0 = 6 := (kp_r e668).trans k656
  have k690 : σ669.2.2.2.2 640 a0 = some q21 := (kr_r e668 (by decide)).trans k657
  have k691 : σ669.2.2.2.2 643 a0 = some q70 := (kr_r e668 (by decide)).trans k658
  have k692 : σ669.2.2.2.2 644 a0 = some q122 := (kr_r e668 (by decide)).trans k659
  have k693 : σ669.2.2.2.2 646 a0 = some q177 := (kr_r e668 (by decide)).trans k660
  have k694 : σ669.2.2.2.2 648 a0 = some q235 := (kr_r e668 (by decide)).trans k661
  have k695 : σ669.2.2.2.2 654 a0 = some q350 := (kr_r e668 (by decide)).trans k662
  have k696 : σ669.2.2.2.2 656 a0 = some q414 := (kr_r e668 (by decide)).trans k663
  have k697 : σ669.2.2.2.2 664 a0 = some q481 := (kr_r e668 (by decide)).trans k664
  have k698 : σ669.2.2.2.2 665 a0 = some q551 := (kr_r e668 (by decide)).trans k665
  have k699 : σ669.2.2.2.2 666 a0 = some q624 := kr_s e668
  have ox := oX_ra ox e668
  refine lv_aload_n hx hb dX11_init_97 rfl (lv_at hl 0 rfl) ?_
  refine lv_bipush (v := 40) hx hb dX11_init_98 (by decide) ?_
  refine o_newi cx hA hw 54 (by decide) (fun _ => rfl) (atype := .byte) (ty := .byte) rfl k_a_byte rfl (fun _ => rfl) (by decide) (by decide) (fun _ => rfl) (by decide) (by decide) (by decide) (by decide) (by decide) dX11_init_100 (fun q700 L τ σ702 H g701 hw => ?_)
  have h703 : oA L τ a0 26 := oG_a g701 h627
  have h704 : oA L τ q21 48 := oG_a g701 h628
  have h705 : oA L τ q70 49 := oG_a g701 h629
  have h706 : oA L τ q122 63 := oG_a g701 h630
  have h707 : oA L τ q177 50 := oG_a g701 h631
  have h708 : oA L τ q235 69 := oG_a g701 h632
  have h709 : oA L τ q350 51 := oG_a g701 h633
  have h710 : oA L τ q414 52 := oG_a g701 h634
  have h711 : oA L τ q481 64 := oG_a g701 h635
  have h712 : oA L τ q551 65 := oG_a g701 h636
  have h713 : oA L τ q624 53 := oG_a g701 h666
  have k714 : σ702.1 641 a0 = 0 := (oG_i g701 h627).trans k670
  have k715 : σ702.1 642 a0 = 0 := (oG_i g701 h627).trans k671
  have k716 : σ702.1 645 a0 = 0 := (oG_i g701 h627).trans k672
  have k717 : σ702.1 647 a0 = 0 := (oG_i g701 h627).trans k673
  have k718 : σ702.1 649 a0 = 0 := (oG_i g701 h627).trans k674
  have k719 : σ702.1 653 a0 = 0 := (oG_i g701 h627).trans k675
  have k720 : σ702.1 655 a0 = 0 := (oG_i g701 h627).trans k676
  have k721 : σ702.1 657 a0 = 0 := (oG_i g701 h627).trans k677
  have k722 : σ702.1 658 a0 = 0 := (oG_i g701 h627).trans k678
  have k723 : σ702.1 660 a0 = 0 := (oG_i g701 h627).trans k679
  have k724 : σ702.1 661 a0 = 0 := (oG_i g701 h627).trans k680
  have k725 : σ702.1 662 a0 = 0 := (oG_i g701 h627).trans k681
  have k726 : σ702.1 663 a0 = 0 := (oG_i g701 h627).trans k682
  have k727 : σ702.1 668 a0 = 0 := (oG_i g701 h627).trans k683
  have k728 : σ702.1 669 a0 = 0 := (oG_i g701 h627).trans k684
  have k729 : σ702.1 672 a0 = 0 := (oG_i g701 h627).trans k685
  have k730 : σ702.1 675 a0 = 0 := (oG_i g701 h627).trans k686
  have k731 : σ702.1 681 a0 = 0 := (oG_i g701 h627).trans k687
  have k732 : σ702.1 650 a0 = 12 := (oG_i g701 h627).trans k688
  have k733 : σ702.1 651 a0 = 6 := (oG_i g701 h627).trans k689
  have k734 : σ702.2.2.2.2 640 a0 = some q21 := (oG_r g701 h627).trans k690
  have k735 : σ702.2.2.2.2 643 a0 = some q70 := (oG_r g701 h627).trans k691
  have k736 : σ702.2.2.2.2 644 a0 = some q122 := (oG_r g701 h627).trans k692
  have k737 : σ702.2.2.2.2 646 a0 = some q177 := (oG_r g701 h627).trans k693
  have k738 : σ702.2.2.2.2 648 a0 = some q235 := (oG_r g701 h627).trans k694
  have k739 : σ702.2.2.2.2 654 a0 = some q350 := (oG_r g701 h627).trans k695
  have k740 : σ702.2.2.2.2 656 a0 = some q414 := (oG_r g701 h627).trans k696
  have k741 : σ702.2.2.2.2 664 a0 = some q481 := (oG_r g701 h627).trans k697
  have k742 : σ702.2.2.2.2 665 a0 = some q551 := (oG_r g701 h627).trans k698
  have k743 : σ702.2.2.2.2 666 a0 = some q624 := (oG_r g701 h627).trans k699
  have h744 : oA L τ q700 54 := oG_q g701
  have n745 := oX_new ox g701
  have ox := oX_g ox g701
  refine o_putrF cx hw 10 27 rfl fiX11 tyX11 tyX11_ok nmX11 h703 (by decide) (by decide) rfl (by decide) rfl rfl rfl rfl hin rfl rfl k_f_X11_49 dX11_init_102 (fun σ747 H locs e746 hw => ?_)
  have k748 : σ747.1 641 a0 = 0 := (kp_r e746).trans k714
  have k749 : σ747.1 642 a0 = 0 := (kp_r e746).trans k715
  have k750 : σ747.1 645 a0 = 0 := (kp_r e746).trans k716
  have k751 : σ747.1 647 a0 = 0 := (kp_r e746).trans k717
  have k752 : σ747.1 649 a0 = 0 := (kp_r e746).trans k718
  have k753 : σ747.1 653 a0 = 0 := (kp_r e746).trans k719
  have k754 : σ747.1 655 a0 = 0 := (kp_r e746).trans k720
  have k755 : σ747.1 657 a0 = 0 := (kp_r e746).trans k721
  have k756 : σ747.1 658 a0 = 0 := (kp_r e746).trans k722
  have k757 : σ747.1 660 a0 = 0 := (kp_r e746).trans k723
  have k758 : σ747.1 661 a0 = 0 := (kp_r e746).trans k724
  have k759 : σ747.1 662 a0 = 0 := (kp_r e746).trans k725
  have k760 : σ747.1 663 a0 = 0 := (kp_r e746).trans k726
  have k761 : σ747.1 668 a0 = 0 := (kp_r e746).trans k727
  have k762 : σ747.1 669 a0 = 0 := (kp_r e746).trans k728
  have k763 : σ747.1 672 a0 = 0 := (kp_r e746).trans k729
  have k764 : σ747.1 675 a0 = 0 := (kp_r e746).trans k730
  have k765 : σ747.1 681 a0 = 0 := (kp_r e746).trans k731
  have k766 : σ747.1 650 a0 = 12 := (kp_r e746).trans k732
  have k767 : σ747.1 651 a0 = 6 := (kp_r e746).trans k733
  have k768 : σ747.2.2.2.2 640 a0 = some q21 := (kr_r e746 (by decide)).trans k734
  have k769 : σ747.2.2.2.2 643 a0 = some q70 := (kr_r e746 (by decide)).trans k735
  have k770 : σ747.2.2.2.2 644 a0 = some q122 := (kr_r e746 (by decide)).trans k736
  have k771 : σ747.2.2.2.2 646 a0 = some q177 := (kr_r e746 (by decide)).trans k737
  have k772 : σ747.2.2.2.2 648 a0 = some q235 := (kr_r e746 (by decide)).trans k738
  have k773 : σ747.2.2.2.2 654 a0 = some q350 := (kr_r e746 (by decide)).trans k739
  have k774 : σ747.2.2.2.2 656 a0 = some q414 := (kr_r e746 (by decide)).trans k740
  have k775 : σ747.2.2.2.2 664 a0 = some q481 := (kr_r e746 (by decide)).trans k741
  have k776 : σ747.2.2.2.2 665 a0 = some q551 := (kr_r e746 (by decide)).trans k742
  have k777 : σ747.2.2.2.2 666 a0 = some q624 := (kr_r e746 (by decide)).trans k743
  have k778 : σ747.2.2.2.2 667 a0 = some q700 := kr_s e746
  have ox := oX_ra ox e746
  refine lv_aload_n hx hb dX11_init_105 rfl (lv_at hl 0 rfl) ?_
  refine lv_bipush (v := 9) hx hb dX11_init_106 (by decide) ?_
  refine o_newi cx hA hw 55 (by decide) (fun _ => rfl) (atype := .int) (ty := .int) rfl k_a_int rfl (fun _ => rfl) (by decide) (by decide) (fun _ => rfl) (by decide) (by decide) (by decide) (by decide) (by decide) dX11_init_108 (fun q779 L τ σ781 H g780 hw => ?_)
  have h782 : oA L τ a0 26 := oG_a g780 h703
  have h783 : oA L τ q21 48 := oG_a g780 h704
  have h784 : oA L τ q70 49 := oG_a g780 h705
  have h785 : oA L τ q122 63 := oG_a g780 h706
  have h786 : oA L τ q177 50 := oG_a g780 h707
  have h787 : oA L τ q235 69 := oG_a g780 h708
  have h788 : oA L τ q350 51 := oG_a g780 h709
  have h789 : oA L τ q414 52 := oG_a g780 h710
  have h790 : oA L τ q481 64 := oG_a g780 h711
  have h791 : oA L τ q551 65 := oG_a g780 h712
  have h792 : oA L τ q624 53 := oG_a g780 h713
  have h793 : oA L τ q700 54 := oG_a g780 h744
  have k794 : σ781.1 641 a0 = 0 := (oG_i g780 h703).trans k748
  have k795 : σ781.1 642 a0 = 0 := (oG_i g780 h703).trans k749
  have k796 : σ781.1 645 a0 = 0 := (oG_i g780 h703).trans k750
  have k797 : σ781.1 647 a0 = 0 := (oG_i g780 h703).trans k751
  have k798 : σ781.1 649 a0 = 0 := (oG_i g780 h703).trans k752
  have k799 : σ781.1 653 a0 = 0 := (oG_i g780 h703).trans k753
  have k800 : σ781.1 655 a0 = 0 := (oG_i g780 h703).trans k754
  have k801 : σ781.1 657 a0 = 0 := (oG_i g780 h703).trans k755
  have k802 : σ781.1 658 a0 = 0 := (oG_i g780 h703).trans k756
  have k803 : σ781.1 660 a0 = 0 := (oG_i g780 h703).trans k757
  have k804 : σ781.1 661 a0 = 0 := (oG_i g780 h703).trans k758
  have k805 : σ781.1 662 a0 = 0 := (oG_i g780 h703).trans k759
  have k806 : σ781.1 663 a0 = 0 := (oG_i g780 h703).trans k760
  have k807 : σ781.1 668 a0 = 0 := (oG_i g780 h703).trans k761
  have k808 : σ781.1 669 a0 = 0 := (oG_i g780 h703).trans k762
  have k809 : σ781.1 672 a0 = 0 := (oG_i g780 h703).trans k763
  have k810 : σ781.1 675 a0 = 0 := (oG_i g780 h703).trans k764
  have k811 : σ781.1 681 a0 = 0 := (oG_i g780 h703).trans k765
  have k812 : σ781.1 650 a0 = 12 := (oG_i g780 h703).trans k766
  have k813 : σ781.1 651 a0 = 6 := (oG_i g780 h703).trans k767
  have k814 : σ781.2.2.2.2 640 a0 = some q21 := (oG_r g780 h703).trans k768
  have k815 : σ781.2.2.2.2 643 a0 = some q70 := (oG_r g780 h703).trans k769
  have k816 : σ781.2.2.2.2 644 a0 = some q122 := (oG_r g780 h703).trans k770
  have k817 : σ781.2.2.2.2 646 a0 = some q177 := (oG_r g780 h703).trans k771
  have k818 : σ781.2.2.2.2 648 a0 = some q235 := (oG_r g780 h703).trans k772
  have k819 : σ781.2.2.2.2 654 a0 = some q350 := (oG_r g780 h703).trans k773
  have k820 : σ781.2.2.2.2 656 a0 = some q414 := (oG_r g780 h703).trans k774
  have k821 : σ781.2.2.2.2 664 a0 = some q481 := (oG_r g780 h703).trans k775
  have k822 : σ781.2.2.2.2 665 a0 = some q551 := (oG_r g780 h703).trans k776
  have k823 : σ781.2.2.2.2 666 a0 = some q624 := (oG_r g780 h703).trans k777
  have k824 : σ781.2.2.2.2 667 a0 = some q700 := (oG_r g780 h703).trans k778
  have h825 : oA L τ q779 55 := oG_q g780
  have n826 := oX_new ox g780
  have ox := oX_g ox g780
  refine o_putrF cx hw 10 30 rfl fiX11 tyX11 tyX11_ok nmX11 h782 (by decide) (by decide) rfl (by decide) rfl rfl rfl rfl hin rfl rfl k_f_X11_52 dX11_init_110 (fun σ828 H locs e827 hw => ?_)
  have k829 : σ828.1 641 a0 = 0 := (kp_r e827).trans k794
  have k830 : σ828.1 642 a0 = 0 := (kp_r e827).trans k795
  have k831 : σ828.1 645 a0 = 0 := (kp_r e827).trans k796
  have k832 : σ828.1 647 a0 = 0 := (kp_r e827).trans k797
  have k833 : σ828.1 649 a0 = 0 := (kp_r e827).trans k798
  have k834 : σ828.1 653 a0 = 0 := (kp_r e827).trans k799
  have k835 : σ828.1 655 a0 = 0 := (kp_r e827).trans k800
  have k836 : σ828.1 657 a0 = 0 := (kp_r e827).trans k801
  have k837 : σ828.1 658 a0 = 0 := (kp_r e827).trans k802
  have k838 : σ828.1 660 a0 = 0 := (kp_r e827).trans k803
  have k839 : σ828.1 661 a0 = 0 := (kp_r e827).trans k804
  have k840 : σ828.1 662 a0 = 0 := (kp_r e827).trans k805
  have k841 : σ828.1 663 a0 = 0 := (kp_r e827).trans k806
  have k842 : σ828.1 668 a0 = 0 := (kp_r e827).trans k807
  have k843 : σ828.1 669 a0 = 0 := (kp_r e827).trans k808
  have k844 : σ828.1 672 a0 = 0 := (kp_r e827).trans k809
  have k845 : σ828.1 675 a0 = 0 := (kp_r e827).trans k810
  have k846 : σ828.1 681 a0 = 0 := (kp_r e827).trans k811
  have k847 : σ828.1 650 a0 = 12 := (kp_r e827).trans k812
  have k848 : σ828.1 651 a0 = 6 := (kp_r e827).trans k813
  have k849 : σ828.2.2.2.2 640 a0 = some q21 := (kr_r e827 (by decide)).trans k814
  have k850 : σ828.2.2.2.2 643 a0 = some q70 := (kr_r e827 (by decide)).trans k815
  have k851 : σ828.2.2.2.2 644 a0 = some q122 := (kr_r e827 (by decide)).trans k816
  have k852 : σ828.2.2.2.2 646 a0 = some q177 := (kr_r e827 (by decide)).trans k817
  have k853 : σ828.2.2.2.2 648 a0 = some q235 := (kr_r e827 (by decide)).trans k818
  have k854 : σ828.2.2.2.2 654 a0 = some q350 := (kr_r e827 (by decide)).trans k819
  have k855 : σ828.2.2.2.2 656 a0 = some q414 := (kr_r e827 (by decide)).trans k820
  have k856 : σ828.2.2.2.2 664 a0 = some q481 := (kr_r e827 (by decide)).trans k821
  have k857 : σ828.2.2.2.2 665 a0 = some q551 := (kr_r e827 (by decide)).trans k822
  have k858 : σ828.2.2.2.2 666 a0 = some q624 := (kr_r e827 (by decide)).trans k823
  have k859 : σ828.2.2.2.2 667 a0 = some q700 := (kr_r e827 (by decide)).trans k824
  have k860 : σ828.2.2.2.2 670 a0 = some q779 := kr_s e827
  have ox := oX_ra ox e827
  refine lv_aload_n hx hb dX11_init_113 rfl (lv_at hl 0 rfl) ?_
  refine lv_sipush (v := 3340) hx hb dX11_init_114 (by decide) ?_
  refine o_newi cx hA hw 56 (by decide) (fun _ => rfl) (atype := .int) (ty := .int) rfl k_a_int rfl (fun _ => rfl) (by decide) (by decide) (fun _ => rfl) (by decide) (by decide) (by decide) (by decide) (by decide) dX11_init_117 (fun q861 L τ σ863 H g862 hw => ?_)
  have h864 : oA L τ a0 26 := oG_a g862 h782
  have h865 : oA L τ q21 48 := oG_a g862 h783
  have h866 : oA L τ q70 49 := oG_a g862 h784
  have h867 : oA L τ q122 63 := oG_a g862 h785
  have h868 : oA L τ q177 50 := oG_a g862 h786
  have h869 : oA L τ q235 69 := oG_a g862 h787
  have h870 : oA L τ q350 51 := oG_a g862 h788
  have h871 : oA L τ q414 52 := oG_a g862 h789
  have h872 : oA L τ q481 64 := oG_a g862 h790
  have h873 : oA L τ q551 65 := oG_a g862 h791
  have h874 : oA L τ q624 53 := oG_a g862 h792
  have h875 : oA L τ q700 54 := oG_a g862 h793
  have h876 : oA L τ q779 55 := oG_a g862 h825
  have k877 : σ863.1 641 a0 = 0 := (oG_i g862 h782).trans k829
  have k878 : σ863.1 642 a0 = 0 := (oG_i g862 h782).trans k830
  have k879 : σ863.1 645 a0 = 0 := (oG_i g862 h782).trans k831
  have k880 : σ863.1 647 a0 = 0 := (oG_i g862 h782).trans k832
  have k881 : σ863.1 649 a0 = 0 := (oG_i g862 h782).trans k833
  have k882 : σ863.1 653 a0 = 0 := (oG_i g862 h782).trans k834
  have k883 : σ863.1 655 a0 = 0 := (oG_i g862 h782).trans k835
  have k884 : σ863.1 657 a0 = 0 := (oG_i g862 h782).trans k836
  have k885 : σ863.1 658 a0 = 0 := (oG_i g862 h782).trans k837
  have k886 : σ863.1 660 a0 = 0 := (oG_i g862 h782).trans k838
  have k887 : σ863.1 661 a0 = 0 := (oG_i g862 h782).trans k839
  have k888 : σ863.1 662 a0 = 0 := (oG_i g862 h782).trans k840
  have k889 : σ863.1 663 a0 = 0 := (oG_i g862 h782).trans k841
  have k890 : σ863.1 668 a0 = 0 := (oG_i g862 h782).trans k842
  have k891 : σ863.1 669 a0 = 0 := (oG_i g862 h782).trans k843
  have k892 : σ863.1 672 a0 = 0 := (oG_i g862 h782).trans k844
  have k893 : σ863.1 675 a0 = 0 := (oG_i g862 h782).trans k845
  have k894 : σ863.1 681 a0 = 0 := (oG_i g862 h782).trans k846
  have k895 : σ863.1 650 a0 = 12 := (oG_i g862 h782).trans k847
  have k896 : σ863.1 651 a0 = 6 := (oG_i g862 h782).trans k848
  have k897 : σ863.2.2.2.2 640 a0 = some q21 := (oG_r g862 h782).trans k849
  have k898 : σ863.2.2.2.2 643 a0 = some q70 := (oG_r g862 h782).trans k850
  have k899 : σ863.2.2.2.2 644 a0 = some q122 := (oG_r g862 h782).trans k851
  have k900 : σ863.2.2.2.2 646 a0 = some q177 := (oG_r g862 h782).trans k852
  have k901 : σ863.2.2.2.2 648 a0 = some q235 := (oG_r g862 h782).trans k853
  have k902 : σ863.2.2.2.2 654 a0 = some q350 := (oG_r g862 h782).trans k854
  have k903 : σ863.2.2.2.2 656 a0 = some q414 := (oG_r g862 h782).trans k855
  have k904 : σ863.2.2.2.2 664 a0 = some q481 := (oG_r g862 h782).trans k856
  have k905 : σ863.2.2.2.2 665 a0 = some q551 := (oG_r g862 h782).trans k857
  have k906 : σ863.2.2.2.2 666 a0 = some q624 := (oG_r g862 h782).trans k858
  have k907 : σ863.2.2.2.2 667 a0 = some q700 := (oG_r g862 h782).trans k859
  have k908 : σ863.2.2.2.2 670 a0 = some q779 := (oG_r g862 h782).trans k860
  have h909 : oA L τ q861 56 := oG_q g862
  have n910 := oX_new ox g862
  have ox := oX_g ox g862
  refine o_putrF cx hw 10 31 rfl fiX11 tyX11 tyX11_ok nmX11 h864 (by decide) (by decide) rfl (by decide) rfl rfl rfl rfl hin rfl rfl k_f_X11_55 dX11_init_119 (fun σ912 H locs e911 hw => ?_)
  have k913 : σ912.1 641 a0 = 0 := (kp_r e911).trans k877
  have k914 : σ912.1 642 a0 = 0 := (kp_r e911).trans k878
  have k915 : σ912.1 645 a0 = 0 := (kp_r e911).trans k879
  have k916 : σ912.1 647 a0 = 0 := (kp_r e911).trans k880
  have k917 : σ912.1 649 a0 = 0 := (kp_r e911).trans k881
  have k918 : σ912.1 653 a0 = 0 := (kp_r e911).trans k882
  have k919 : σ912.1 655 a0 = 0 := (kp_r e911).trans k883
  have k920 : σ912.1 657 a0 = 0 := (kp_r e911).trans k884
  have k921 : σ912.1 658 a0 = 0 := (kp_r e911).trans k885
  have k922 : σ912.1 660 a0 = 0 := (kp_r e911).trans k886
  have k923 : σ912.1 661 a0 = 0 := (kp_r e911).trans k887
  have k924 : σ912.1 662 a0 = 0 := (kp_r e911).trans k888
  have k925 : σ912.1 663 a0 = 0 := (kp_r e911).trans k889
  have k926 : σ912.1 668 a0 = 0 := (kp_r e911).trans k890
  have k927 : σ912.1 669 a0 = 0 := (kp_r e911).trans k891
  have k928 : σ912.1 672 a0 = 0 := (kp_r e911).trans k892
  have k929 : σ912.1 675 a0 = 0 := (kp_r e911).trans k893
  have k930 : σ912.1 681 a0 = 0 := (kp_r e911).trans k894
  have k931 : σ912.1 650 a0 = 12 := (kp_r e911).trans k895
  have k932 : σ912.1 651 a0 = 6 := (kp_r e911).trans k896
  have k933 : σ912.2.2.2.2 640 a0 = some q21 := (kr_r e911 (by decide)).trans k897
  have k934 : σ912.2.2.2.2 643 a0 = some q70 := (kr_r e911 (by decide)).trans k898
  have k935 : σ912.2.2.2.2 644 a0 = some q122 := (kr_r e911 (by decide)).trans k899
  have k936 : σ912.2.2.2.2 646 a0 = some q177 := (kr_r e911 (by decide)).trans k900
  have k937 : σ912.2.2.2.2 648 a0 = some q235 := (kr_r e911 (by decide)).trans k901
  have k938 : σ912.2.2.2.2 654 a0 = some q350 := (kr_r e911 (by decide)).trans k902
  have k939 : σ912.2.2.2.2 656 a0 = some q414 := (kr_r e911 (by decide)).trans k903
  have k940 : σ912.2.2.2.2 664 a0 = some q481 := (kr_r e911 (by decide)).trans k904
  have k941 : σ912.2.2.2.2 665 a0 = some q551 := (kr_r e911 (by decide)).trans k905
  have k942 : σ912.2.2.2.2 666 a0 = some q624 := (kr_r e911 (by decide)).trans k906
  have k943 : σ912.2.2.2.2 667 a0 = some q700 := (kr_r e911 (by decide)).trans k907
  have k944 : σ912.2.2.2.2 670 a0 = some q779 := (kr_r e911 (by decide)).trans k908
  have k945 : σ912.2.2.2.2 671 a0 = some q861 := kr_s e911
  have ox := oX_ra ox e911
  refine lv_aload_n hx hb dX11_init_122 rfl (lv_at hl 0 rfl) ?_
  refine lv_sipush (v := 334) hx hb dX11_init_123 (by decide) ?_
  refine o_newi cx hA hw 48 (by decide) (fun _ => rfl) (atype := .int) (ty := .int) rfl k_a_int rfl (fun _ => rfl) (by decide) (by decide) (fun _ => rfl) (by decide) (by decide) (by decide) (by decide) (by decide) dX11_init_126 (fun q946 L τ σ948 H g947 hw => ?_)
  have h949 : oA L τ a0 26 := oG_a g947 h864
  have h950 : oA L τ q21 48 := oG_a g947 h865
  have h951 : oA L τ q70 49 := oG_a g947 h866
  have h952 : oA L τ q122 63 := oG_a g947 h867
  have h953 : oA L τ q177 50 := oG_a g947 h868
  have h954 : oA L τ q235 69 := oG_a g947 h869
  have h955 : oA L τ q350 51 := oG_a g947 h870
  have h956 : oA L τ q414 52 := oG_a g947 h871
  have h957 : oA L τ q481 64 := oG_a g947 h872
  have h958 : oA L τ q551 65 := oG_a g947 h873
  have h959 : oA L τ q624 53 := oG_a g947 h874
  have h960 : oA L τ q700 54 := oG_a g947 h875
  have h961 : oA L τ q779 55 := oG_a g947 h876
  have h962 : oA L τ q861 56 := oG_a g947 h909
  have k963 : σ948.1 641 a0 = 0 := (oG_i g947 h864).trans k913
  have k964 : σ948.1 642 a0 = 0 := (oG_i g947 h864).trans k914
  have k965 : σ948.1 645 a0 = 0 := (oG_i g947 h864).trans k915
  have k966 : σ948.1 647 a0 = 0 := (oG_i g947 h864).trans k916
  have k967 : σ948.1 649 a0 = 0 := (oG_i g947 h864).trans k917
  have k968 : σ948.1 653 a0 = 0 := (oG_i g947 h864).trans k918
  have k969 : σ948.1 655 a0 = 0 := (oG_i g947 h864).trans k919
  have k970 : σ948.1 657 a0 = 0 := (oG_i g947 h864).trans k920
  have k971 : σ948.1 658 a0 = 0 := (oG_i g947 h864).trans k921
  have k972 : σ948.1 660 a0 = 0 := (oG_i g947 h864).trans k922
  have k973 : σ948.1 661 a0 = 0 := (oG_i g947 h864).trans k923
  have k974 : σ948.1 662 a0 = 0 := (oG_i g947 h864).trans k924
  have k975 : σ948.1 663 a0 = 0 := (oG_i g947 h864).trans k925
  have k976 : σ948.1 668 a0 = 0 := (oG_i g947 h864).trans k926
  have k977 : σ948.1 669 a0 = 0 := (oG_i g947 h864).trans k927
  have k978 : σ948.1 672 a0 = 0 := (oG_i g947 h864).trans k928
  have k979 : σ948.1 675 a0 = 0 := (oG_i g947 h864).trans k929
  have k980 : σ948.1 681 a0 = 0 := (oG_i g947 h864).trans k930
  have k981 : σ948.1 650 a0 = 12 := (oG_i g947 h864).trans k931
  have k982 : σ948.1 651 a0 = 6 := (oG_i g947 h864).trans k932
  have k983 : σ948.2.2.2.2 640 a0 = some q21 := (oG_r g947 h864).trans k933
  have k984 : σ948.2.2.2.2 643 a0 = some q70 := (oG_r g947 h864).trans k934
  have k985 : σ948.2.2.2.2 644 a0 = some q122 := (oG_r g947 h864).trans k935
  have k986 : σ948.2.2.2.2 646 a0 = some q177 := (oG_r g947 h864).trans k936
  have k987 : σ948.2.2.2.2 648 a0 = some q235 := (oG_r g947 h864).trans k937
  have k988 : σ948.2.2.2.2 654 a0 = some q350 := (oG_r g947 h864).trans k938
  have k989 : σ948.2.2.2.2 656 a0 = some q414 := (oG_r g947 h864).trans k939
  have k990 : σ948.2.2.2.2 664 a0 = some q481 := (oG_r g947 h864).trans k940
  have k991 : σ948.2.2.2.2 665 a0 = some q551 := (oG_r g947 h864).trans k941
  have k992 : σ948.2.2.2.2 666 a0 = some q624 := (oG_r g947 h864).trans k942
  have k993 : σ948.2.2.2.2 667 a0 = some q700 := (oG_r g947 h864).trans k943
  have k994 : σ948.2.2.2.2 670 a0 = some q779 := (oG_r g947 h864).trans k944
  have k995 : σ948.2.2.2.2 671 a0 = some q861 := (oG_r g947 h864).trans k945
  have h996 : oA L τ q946 48 := oG_q g947
  have n997 := oX_new ox g947
  have ox := oX_g ox g947
  refine o_putrF cx hw 10 33 rfl fiX11 tyX11 tyX11_ok nmX11 h949 (by decide) (by decide) rfl (by decide) rfl rfl rfl rfl hin rfl rfl k_f_X11_58 dX11_init_128 (fun σ999 H locs e998 hw => ?_)
  have k1000 : σ999.1 641 a0 = 0 := (kp_r e998).trans k963
  have k1001 : σ999.1 642 a0 = 0 := (kp_r e998).trans k964
  have k1002 : σ999.1 645 a0 = 0 := (kp_r e998).trans k965
  have k1003 : σ999.1 647 a0 = 0 := (kp_r e998).trans k966
  have k1004 : σ999.1 649 a0 = 0 := (kp_r e998).trans k967
  have k1005 : σ999.1 653 a0 = 0 := (kp_r e998).trans k968
  have k1006 : σ999.1 655 a0 = 0 := (kp_r e998).trans k969
  have k1007 : σ999.1 657 a0 = 0 := (kp_r e998).trans k970
  have k1008 : σ999.1 658 a0 = 0 := (kp_r e998).trans k971
  have k1009 : σ999.1 660 a0 = 0 := (kp_r e998).trans k972
  have k1010 : σ999.1 661 a0 = 0 := (kp_r e998).trans k973
  have k1011 : σ999.1 662 a0 = 0 := (kp_r e998).trans k974
  have k1012 : σ999.1 663 a0 = 0 := (kp_r e998).trans k975
  have k1013 : σ999.1 668 a0 = 0 := (kp_r e998).trans k976
  have k1014 : σ999.1 669 a0 = 0 := (kp_r e998).trans k977
  have k1015 : σ999.1 672 a0 = 0 := (kp_r e998).trans k978
  have k1016 : σ999.1 675 a0 = 0 := (kp_r e998).trans k979
  have k1017 : σ999.1 681 a0 = 0 := (kp_r e998).trans k980
  have k1018 : σ999.1 650 a0 = 12 := (kp_r e998).trans k981
  have k1019 : σ999.1 651 a0 = 6 := (kp_r e998).trans k982
  have k1020 : σ999.2.2.2.2 640 a0 = some q21 := (kr_r e998 (by decide)).trans k983
  have k1021 : σ999.2.2.2.2 643 a0 = some q70 := (kr_r e998 (by decide)).trans k984
  have k1022 : σ999.2.2.2.2 644 a0 = some q122 := (kr_r e998 (by decide)).trans k985
  have k1023 : σ999.2.2.2.2 646 a0 = some q177 := (kr_r e998 (by decide)).trans k986
  have k1024 : σ999.2.2.2.2 648 a0 = some q235 := (kr_r e998 (by decide)).trans k987
  have k1025 : σ999.2.2.2.2 654 a0 = some q350 := (kr_r e998 (by decide)).trans k988
  have k1026 : σ999.2.2.2.2 656 a0 = some q414 := (kr_r e998 (by decide)).trans k989
  have k1027 : σ999.2.2.2.2 664 a0 = some q481 := (kr_r e998 (by decide)).trans k990
  have k1028 : σ999.2.2.2.2 665 a0 = some q551 := (kr_r e998 (by decide)).trans k991
  have k1029 : σ999.2.2.2.2 666 a0 = some q624 := (kr_r e998 (by decide)).trans k992
  have k1030 : σ999.2.2.2.2 667 a0 = some q700 := (kr_r e998 (by decide)).trans k993
  have k1031 : σ999.2.2.2.2 670 a0 = some q779 := (kr_r e998 (by decide)).trans k994
  have k1032 : σ999.2.2.2.2 671 a0 = some q861 := (kr_r e998 (by decide)).trans k995
  have k1033 : σ999.2.2.2.2 673 a0 = some q946 := kr_s e998
  have ox := oX_ra ox e998
  refine lv_aload_n hx hb dX11_init_131 rfl (lv_at hl 0 rfl) ?_
  refine lv_sipush (v := 320) hx hb dX11_init_132 (by decide) ?_
  refine o_newi cx hA hw 57 (by decide) (fun _ => rfl) (atype := .int) (ty := .int) rfl k_a_int rfl (fun _ => rfl) (by decide) (by decide) (fun _ => rfl) (by decide) (by decide) (by decide) (by decide) (by decide) dX11_init_135 (fun q1034 L τ σ1036 H g1035 hw => ?_)
  have h1037 : oA L τ a0 26 := oG_a g1035 h949
  have h1038 : oA L τ q21 48 := oG_a g1035 h950
  have h1039 : oA L τ q70 49 := oG_a g1035 h951
  have h1040 : oA L τ q122 63 := oG_a g1035 h952
  have h1041 : oA L τ q177 50 := oG_a g1035 h953
  have h1042 : oA L τ q235 69 := oG_a g1035 h954
  have h1043 : oA L τ q350 51 := oG_a g1035 h955
  have h1044 : oA L τ q414 52 := oG_a g1035 h956
  have h1045 : oA L τ q481 64 := oG_a g1035 h957
  have h1046 : oA L τ q551 65 := oG_a g1035 h958
  have h1047 : oA L τ q624 53 := oG_a g1035 h959
  have h1048 : oA L τ q700 54 := oG_a g1035 h960
  have h1049 : oA L τ q779 55 := oG_a g1035 h961
  have h1050 : oA L τ q861 56 := oG_a g1035 h962
  have h1051 : oA L τ q946 48 := oG_a g1035 h996
  have k1052 : σ1036.1 641 a0 = 0 := (oG_i g1035 h949).trans k1000
  have k1053 : σ1036.1 642 a0 = 0 := (oG_i g1035 h949).trans k1001
  have k1054 : σ1036.1 645 a0 = 0 := (oG_i g1035 h949).trans k1002
  have k1055 : σ1036.1 647 a0 = 0 := (oG_i g1035 h949).trans k1003
  have k1056 : σ1036.1 649 a0 = 0 := (oG_i g1035 h949).trans k1004
  have k1057 : σ1036.1 653 a0 = 0 := (oG_i g1035 h949).trans k1005
  have k1058 : σ1036.1 655 a0 = 0 := (oG_i g1035 h949).trans k1006
  have k1059 : σ1036.1 657 a0 = 0 := (oG_i g1035 h949).trans k1007
  have k1060 : σ1036.1 658 a0 = 0 := (oG_i g1035 h949).trans k1008
  have k1061 : σ1036.1 660 a0 = 0 := (oG_i g1035 h949).trans k1009
  have k1062 : σ1036.1 661 a0 = 0 := (oG_i g1035 h949).trans k1010
  have k1063 : σ1036.1 662 a0 = 0 := (oG_i g1035 h949).trans k1011
  have k1064 : σ1036.1 663 a0 = 0 := (oG_i g1035 h949).trans k1012
  have k1065 : σ1036.1 668 a0 = 0 := (oG_i g1035 h949).trans k1013
  have k1066 : σ1036.1 669 a0 = 0 := (oG_i g1035 h949).trans k1014
  have k1067 : σ1036.1 672 a0 = 0 := (oG_i g1035 h949).trans k1015
  have k1068 : σ1036.1 675 a0 = 0 := (oG_i g1035 h949).trans k1016
  have k1069 : σ1036.1 681 a0 = 0 := (oG_i g1035 h949).trans k1017
  have k1070 : σ1036.1 650 a0 = 12 := (oG_i g1035 h949).trans k1018
  have k1071 : σ1036.1 651 a0 = 6 := (oG_i g1035 h949).trans k1019
  have k1072 : σ1036.2.2.2.2 640 a0 = some q21 := (oG_r g1035 h949).trans k1020
  have k1073 : σ1036.2.2.2.2 643 a0 = some q70 := (oG_r g1035 h949).trans k1021
  have k1074 : σ1036.2.2.2.2 644 a0 = some q122 := (oG_r g1035 h949).trans k1022
  have k1075 : σ1036.2.2.2.2 646 a0 = some q177 := (oG_r g1035 h949).trans k1023
  have k1076 : σ1036.2.2.2.2 648 a0 = some q235 := (oG_r g1035 h949).trans k1024
  have k1077 : σ1036.2.2.2.2 654 a0 = some q350 := (oG_r g1035 h949).trans k1025
  have k1078 : σ1036.2.2.2.2 656 a0 = some q414 := (oG_r g1035 h949).trans k1026
  have k1079 : σ1036.2.2.2.2 664 a0 = some q481 := (oG_r g1035 h949).trans k1027
  have k1080 : σ1036.2.2.2.2 665 a0 = some q551 := (oG_r g1035 h949).trans k1028
  have k1081 : σ1036.2.2.2.2 666 a0 = some q624 := (oG_r g1035 h949).trans k1029
  have k1082 : σ1036.2.2.2.2 667 a0 = some q700 := (oG_r g1035 h949).trans k1030
  have k1083 : σ1036.2.2.2.2 670 a0 = some q779 := (oG_r g1035 h949).trans k1031
  have k1084 : σ1036.2.2.2.2 671 a0 = some q861 := (oG_r g1035 h949).trans k1032
  have k1085 : σ1036.2.2.2.2 673 a0 = some q946 := (oG_r g1035 h949).trans k1033
  have h1086 : oA L τ q1034 57 := oG_q g1035
  have n1087 := oX_new ox g1035
  have ox := oX_g ox g1035
  refine o_putrF cx hw 10 34 rfl fiX11 tyX11 tyX11_ok nmX11 h1037 (by decide) (by decide) rfl (by decide) rfl rfl rfl rfl hin rfl rfl k_f_X11_61 dX11_init_137 (fun σ1089 H locs e1088 hw => ?_)
  have k1090 : σ1089.1 641 a0 = 0 := (kp_r e1088).trans k1052
  have k1091 : σ1089.1 642 a0 = 0 := (kp_r e1088).trans k1053
  have k1092 : σ1089.1 645 a0 = 0 := (kp_r e1088).trans k1054
  have k1093 : σ1089.1 647 a0 = 0 := (kp_r e1088).trans k1055
  have k1094 : σ1089.1 649 a0 = 0 := (kp_r e1088).trans k1056
  have k1095 : σ1089.1 653 a0 = 0 := (kp_r e1088).trans k1057
  have k1096 : σ1089.1 655 a0 = 0 := (kp_r e1088).trans k1058
  have k1097 : σ1089.1 657 a0 = 0 := (kp_r e1088).trans k1059
  have k1098 : σ1089.1 658 a0 = 0 := (kp_r e1088).trans k1060
  have k1099 : σ1089.1 660 a0 = 0 := (kp_r e1088).trans k1061
  have k1100 : σ1089.1 661 a0 = 0 := (kp_r e1088).trans k1062
  have k1101 : σ1089.1 662 a0 = 0 := (kp_r e1088).trans k1063
  have k1102 : σ1089.1 663 a0 = 0 := (kp_r e1088).trans k1064
  have k1103 : σ1089.1 668 a0 = 0 := (kp_r e1088).trans k1065
  have k1104 : σ1089.1 669 a0 = 0 := (kp_r e1088).trans k1066
  have k1105 : σ1089.1 672 a0 = 0 := (kp_r e1088).trans k1067
  have k1106 : σ1089.1 675 a0 = 0 := (kp_r e1088).trans k1068
  have k1107 : σ1089.1 681 a0 = 0 := (kp_r e1088).trans k1069
  have k1108 : σ1089.1 650 a0 = 12 := (kp_r e1088).trans k1070
  have k1109 : σ1089.1 651 a0 = 6 := (kp_r e1088).trans k1071
  have k1110 : σ1089.2.2.2.2 640 a0 = some q21 := (kr_r e1088 (by decide)).trans k1072
  have k1111 : σ1089.2.2.2.2 643 a0 = some q70 := (kr_r e1088 (by decide)).trans k1073
  have k1112 : σ1089.2.2.2.2 644 a0 = some q122 := (kr_r e1088 (by decide)).trans k1074
  have k1113 : σ1089.2.2.2.2 646 a0 = some q177 := (kr_r e1088 (by decide)).trans k1075
  have k1114 : σ1089.2.2.2.2 648 a0 = some q235 := (kr_r e1088 (by decide)).trans k1076
  have k1115 : σ1089.2.2.2.2 654 a0 = some q350 := (kr_r e1088 (by decide)).trans k1077
  have k1116 : σ1089.2.2.2.2 656 a0 = some q414 := (kr_r e1088 (by decide)).trans k1078
  have k1117 : σ1089.2.2.2.2 664 a0 = some q481 := (kr_r e1088 (by decide)).trans k1079
  have k1118 : σ1089.2.2.2.2 665 a0 = some q551 := (kr_r e1088 (by decide)).trans k1080
  have k1119 : σ1089.2.2.2.2 666 a0 = some q624 := (kr_r e1088 (by decide)).trans k1081
  have k1120 : σ1089.2.2.2.2 667 a0 = some q700 := (kr_r e1088 (by decide)).trans k1082
  have k1121 : σ1089.2.2.2.2 670 a0 = some q779 := (kr_r e1088 (by decide)).trans k1083
  have k1122 : σ1089.2.2.2.2 671 a0 = some q861 := (kr_r e1088 (by decide)).trans k1084
  have k1123 : σ1089.2.2.2.2 673 a0 = some q946 := (kr_r e1088 (by decide)).trans k1085
  have k1124 : σ1089.2.2.2.2 674 a0 = some q1034 := kr_s e1088
  have ox := oX_ra ox e1088
  refine lv_aload_n hx hb dX11_init_140 rfl (lv_at hl 0 rfl) ?_
  refine lv_bipush (v := 64) hx hb dX11_init_141 (by decide) ?_
  refine o_newi cx hA hw 66 (by decide) (fun _ => rfl) (atype := .int) (ty := .int) rfl k_a_int rfl (fun _ => rfl) (by decide) (by decide) (fun _ => rfl) (by decide) (by decide) (by decide) (by decide) (by decide) dX11_init_143 (fun q1125 L τ σ1127 H g1126 hw => ?_)
  have h1128 : oA L τ a0 26 := oG_a g1126 h1037
  have h1129 : oA L τ q21 48 := oG_a g1126 h1038
  have h1130 : oA L τ q70 49 := oG_a g1126 h1039
  have h1131 : oA L τ q122 63 := oG_a g1126 h1040
  have h1132 : oA L τ q177 50 := oG_a g1126 h1041
  have h1133 : oA L τ q235 69 := oG_a g1126 h1042
  have h1134 : oA L τ q350 51 := oG_a g1126 h1043
  have h1135 : oA L τ q414 52 := oG_a g1126 h1044
  have h1136 : oA L τ q481 64 := oG_a g1126 h1045
  have h1137 : oA L τ q551 65 := oG_a g1126 h1046
  have h1138 : oA L τ q624 53 := oG_a g1126 h1047
  have h1139 : oA L τ q700 54 := oG_a g1126 h1048
  have h1140 : oA L τ q779 55 := oG_a g1126 h1049
  have h1141 : oA L τ q861 56 := oG_a g1126 h1050
  have h1142 : oA L τ q946 48 := oG_a g1126 h1051
  have h1143 : oA L τ q1034 57 := oG_a g1126 h1086
  have k1144 : σ1127.1 641 a0 = 0 := (oG_i g1126 h1037).trans k1090
  have k1145 : σ1127.1 642 a0 = 0 := (oG_i g1126 h1037).trans k1091
  have k1146 : σ1127.1 645 a0 = 0 := (oG_i g1126 h1037).trans k1092
  have k1147 : σ1127.1 647 a0 = 0 := (oG_i g1126 h1037).trans k1093
  have k1148 : σ1127.1 649 a0 = 0 := (oG_i g1126 h1037).trans k1094
  have k1149 : σ1127.1 653 a0 = 0 := (oG_i g1126 h1037).trans k1095
  have k1150 : σ1127.1 655 a0 = 0 := (oG_i g1126 h1037).trans k1096
  have k1151 : σ1127.1 657 a0 = 0 := (oG_i g1126 h1037).trans k1097
  have k1152 : σ1127.1 658 a0 = 0 := (oG_i g1126 h1037).trans k1098
  have k1153 : σ1127.1 660 a0 = 0 := (oG_i g1126 h1037).trans k1099
  have k1154 : σ1127.1 661 a0 = 0 := (oG_i g1126 h1037).trans k1100
  have k1155 : σ1127.1 662 a0 = 0 := (oG_i g1126 h1037).trans k1101
  have k1156 : σ1127.1 663 a0 = 0 := (oG_i g1126 h1037).trans k1102
  have k1157 : σ1127.1 668 a0 = 0 := (oG_i g1126 h1037).trans k1103
  have k1158 : σ1127.1 669 a0 = 0 := (oG_i g1126 h1037).trans k1104
  have k1159 : σ1127.1 672 a0 = 0 := (oG_i g1126 h1037).trans k1105
  have k1160 : σ1127.1 675 a0 = 0 := (oG_i g1126 h1037).trans k1106
  have k1161 : σ1127.1 681 a0 = 0 := (oG_i g1126 h1037).trans k1107
  have k1162 : σ1127.1 650 a0 = 12 := (oG_i g1126 h1037).trans k1108
  have k1163 : σ1127.1 651 a0 = 6 := (oG_i g1126 h1037).trans k1109
  have k1164 : σ1127.2.2.2.2 640 a0 = some q21 := (oG_r g1126 h1037).trans k1110
  have k1165 : σ1127.2.2.2.2 643 a0 = some q70 := (oG_r g1126 h1037).trans k1111
  have k1166 : σ1127.2.2.2.2 644 a0 = some q122 := (oG_r g1126 h1037).trans k1112
  have k1167 : σ1127.2.2.2.2 646 a0 = some q177 := (oG_r g1126 h1037).trans k1113
  have k1168 : σ1127.2.2.2.2 648 a0 = some q235 := (oG_r g1126 h1037).trans k1114
  have k1169 : σ1127.2.2.2.2 654 a0 = some q350 := (oG_r g1126 h1037).trans k1115
  have k1170 : σ1127.2.2.2.2 656 a0 = some q414 := (oG_r g1126 h1037).trans k1116
  have k1171 : σ1127.2.2.2.2 664 a0 = some q481 := (oG_r g1126 h1037).trans k1117
  have k1172 : σ1127.2.2.2.2 665 a0 = some q551 := (oG_r g1126 h1037).trans k1118
  have k1173 : σ1127.2.2.2.2 666 a0 = some q624 := (oG_r g1126 h1037).trans k1119
  have k1174 : σ1127.2.2.2.2 667 a0 = some q700 := (oG_r g1126 h1037).trans k1120
  have k1175 : σ1127.2.2.2.2 670 a0 = some q779 := (oG_r g1126 h1037).trans k1121
  have k1176 : σ1127.2.2.2.2 671 a0 = some q861 := (oG_r g1126 h1037).trans k1122
  have k1177 : σ1127.2.2.2.2 673 a0 = some q946 := (oG_r g1126 h1037).trans k1123
  have k1178 : σ1127.2.2.2.2 674 a0 = some q1034 := (oG_r g1126 h1037).trans k1124
  have h1179 : oA L τ q1125 66 := oG_q g1126
  have n1180 := oX_new ox g1126
  have ox := oX_g ox g1126
  refine o_putrF cx hw 10 36 rfl fiX11 tyX11 tyX11_ok nmX11 h1128 (by decide) (by decide) rfl (by decide) rfl rfl rfl rfl hin rfl rfl k_f_X11_64 dX11_init_145 (fun σ1182 H locs e1181 hw => ?_)
  have k1183 : σ1182.1 641 a0 = 0 := (kp_r e1181).trans k1144
  have k1184 : σ1182.1 642 a0 = 0 := (kp_r e1181).trans k1145
  have k1185 : σ1182.1 645 a0 = 0 := (kp_r e1181).trans k1146
  have k1186 : σ1182.1 647 a0 = 0 := (kp_r e1181).trans k1147
  have k1187 : σ1182.1 649 a0 = 0 := (kp_r e1181).trans k1148
  have k1188 : σ1182.1 653 a0 = 0 := (kp_r e1181).trans k1149
  have k1189 : σ1182.1 655 a0 = 0 := (kp_r e1181).trans k1150
  have k1190 : σ1182.1 657 a0 = 0 := (kp_r e1181).trans k1151
  have k1191 : σ1182.1 658 a0 = 0 := (kp_r e1181).trans k1152
  have k1192 : σ1182.1 660 a0 = 0 := (kp_r e1181).trans k1153
  have k1193 : σ1182.1 661 a0 = 0 := (kp_r e1181).trans k1154
  have k1194 : σ1182.1 662 a0 = 0 := (kp_r e1181).trans k1155
  have k1195 : σ1182.1 663 a0 = 0 := (kp_r e1181).trans k1156
  have k1196 : σ1182.1 668 a0 = 0 := (kp_r e1181).trans k1157
  have k1197 : σ1182.1 669 a0 = 0 := (kp_r e1181).trans k1158
  have k1198 : σ1182.1 672 a0 = 0 := (kp_r e1181).trans k1159
  have k1199 : σ1182.1 675 a0 = 0 := (kp_r e1181).trans k1160
  have k1200 : σ1182.1 681 a0 = 0 := (kp_r e1181).trans k1161
  have k1201 : σ1182.1 650 a0 = 12 := (kp_r e1181).trans k1162
  have k1202 : σ1182.1 651 a0 = 6 := (kp_r e1181).trans k1163
  have k1203 : σ1182.2.2.2.2 640 a0 = some q21 := (kr_r e1181 (by decide)).trans k1164
  have k1204 : σ1182.2.2.2.2 643 a0 = some q70 := (kr_r e1181 (by decide)).trans k1165
  have k1205 : σ1182.2.2.2.2 644 a0 = some q122 := (kr_r e1181 (by decide)).trans k1166
  have k1206 : σ1182.2.2.2.2 646 a0 = some q177 := (kr_r e1181 (by decide)).trans k1167
  have k1207 : σ1182.2.2.2.2 648 a0 = some q235 := (kr_r e1181 (by decide)).trans k1168
  have k1208 : σ1182.2.2.2.2 654 a0 = some q350 := (kr_r e1181 (by decide)).trans k1169
  have k1209 : σ1182.2.2.2.2 656 a0 = some q414 := (kr_r e1181 (by decide)).trans k1170
  have k1210 : σ1182.2.2.2.2 664 a0 = some q481 := (kr_r e1181 (by decide)).trans k1171
  have k1211 : σ1182.2.2.2.2 665 a0 = some q551 := (kr_r e1181 (by decide)).trans k1172
  have k1212 : σ1182.2.2.2.2 666 a0 = some q624 := (kr_r e1181 (by decide)).trans k1173
  have k1213 : σ1182.2.2.2.2 667 a0 = some q700 := (kr_r e1181 (by decide)).trans k1174
  have k1214 : σ1182.2.2.2.2 670 a0 = some q779 := (kr_r e1181 (by decide)).trans k1175
  have k1215 : σ1182.2.2.2.2 671 a0 = some q861 := (kr_r e1181 (by decide)).trans k1176
  have k1216 : σ1182.2.2.2.2 673 a0 = some q946 := (kr_r e1181 (by decide)).trans k1177
  have k1217 : σ1182.2.2.2.2 674 a0 = some q1034 := (kr_r e1181 (by decide)).trans k1178
  have k1218 : σ1182.2.2.2.2 676 a0 = some q1125 := kr_s e1181
  have ox := oX_ra ox e1181
  refine lv_aload_n hx hb dX11_init_148 rfl (lv_at hl 0 rfl) ?_
  refine lv_sipush (v := 334) hx hb dX11_init_149 (by decide) ?_
  refine o_newi cx hA hw 48 (by decide) (fun _ => rfl) (atype := .int) (ty := .int) rfl k_a_int rfl (fun _ => rfl) (by decide) (by decide) (fun _ => rfl) (by decide) (by decide) (by decide) (by decide) (by decide) dX11_init_152 (fun q1219 L τ σ1221 H g1220 hw => ?_)
  have h1222 : oA L τ a0 26 := oG_a g1220 h1128
  have h1223 : oA L τ q21 48 := oG_a g1220 h1129
  have h1224 : oA L τ q70 49 := oG_a g1220 h1130
  have h1225 : oA L τ q122 63 := oG_a g1220 h1131
  have h1226 : oA L τ q177 50 := oG_a g1220 h1132
  have h1227 : oA L τ q235 69 := oG_a g1220 h1133
  have h1228 : oA L τ q350 51 := oG_a g1220 h1134
  have h1229 : oA L τ q414 52 := oG_a g1220 h1135
  have h1230 : oA L τ q481 64 := oG_a g1220 h1136
  have h1231 : oA L τ q551 65 := oG_a g1220 h1137
  have h1232 : oA L τ q624 53 := oG_a g1220 h1138
  have h1233 : oA L τ q700 54 := oG_a g1220 h1139
  have h1234 : oA L τ q779 55 := oG_a g1220 h1140
  have h1235 : oA L τ q861 56 := oG_a g1220 h1141
  have h1236 : oA L τ q946 48 := oG_a g1220 h1142
  have h1237 : oA L τ q1034 57 := oG_a g1220 h1143
  have h1238 : oA L τ q1125 66 := oG_a g1220 h1179
  have k1239 : σ1221.1 641 a0 = 0 := (oG_i g1220 h1128).trans k1183
  have k1240 : σ1221.1 642 a0 = 0 := (oG_i g1220 h1128).trans k1184
  have k1241 : σ1221.1 645 a0 = 0 := (oG_i g1220 h1128).trans k1185
  have k1242 : σ1221.1 647 a0 = 0 := (oG_i g1220 h1128).trans k1186
  have k1243 : σ1221.1 649 a0 = 0 := (oG_i g1220 h1128).trans k1187
  have k1244 : σ1221.1 653 a0 = 0 := (oG_i g1220 h1128).trans k1188
  have k1245 : σ1221.1 655 a0 = 0 := (oG_i g1220 h1128).trans k1189
  have k1246 : σ1221.1 657 a0 = 0 := (oG_i g1220 h1128).trans k1190
  have k1247 : σ1221.1 658 a0 = 0 := (oG_i g1220 h1128).trans k1191
  have k1248 : σ1221.1 660 a0 = 0 := (oG_i g1220 h1128).trans k1192
  have k1249 : σ1221.1 661 a0 = 0 := (oG_i g1220 h1128).trans k1193
  have k1250 : σ1221.1 662 a0 = 0 := (oG_i g1220 h1128).trans k1194
  have k1251 : σ1221.1 663 a0 = 0 := (oG_i g1220 h1128).trans k1195
  have k1252 : σ1221.1 668 a0 = 0 := (oG_i g1220 h1128).trans k1196
  have k1253 : σ1221.1 669 a0 = 0 := (oG_i g1220 h1128).trans k1197
  have k1254 : σ1221.1 672 a0 = 0 := (oG_i g1220 h1128).trans k1198
  have k1255 : σ1221.1 675 a0 = 0 := (oG_i g1220 h1128).trans k1199
  have k1256 : σ1221.1 681 a0 = 0 := (oG_i g1220 h1128).trans k1200
  have k1257 : σ1221.1 650 a0 = 12 := (oG_i g1220 h1128).trans k1201
  have k1258 : σ1221.1 651 a0 = 6 := (oG_i g1220 h1128).trans k1202
  have k1259 : σ1221.2.2.2.2 640 a0 = some q21 := (oG_r g1220 h1128).trans k1203
  have k1260 : σ1221.2.2.2.2 643 a0 = some q70 := (oG_r g1220 h1128).trans k1204
  have k1261 : σ1221.2.2.2.2 644 a0 = some q122 := (oG_r g1220 h1128).trans k1205
  have k1262 : σ1221.2.2.2.2 646 a0 = some q177 := (oG_r g1220 h1128).trans k1206
  have k1263 : σ1221.2.2.2.2 648 a0 = some q235 := (oG_r g1220 h1128).trans k1207
  have k1264 : σ1221.2.2.2.2 654 a0 = some q350 := (oG_r g1220 h1128).trans k1208
  have k1265 : σ1221.2.2.2.2 656 a0 = some q414 := (oG_r g1220 h1128).trans k1209
  have k1266 : σ1221.2.2.2.2 664 a0 = some q481 := (oG_r g1220 h1128).trans k1210
  have k1267 : σ1221.2.2.2.2 665 a0 = some q551 := (oG_r g1220 h1128).trans k1211
  have k1268 : σ1221.2.2.2.2 666 a0 = some q624 := (oG_r g1220 h1128).trans k1212
  have k1269 : σ1221.2.2.2.2 667 a0 = some q700 := (oG_r g1220 h1128).trans k1213
  have k1270 : σ1221.2.2.2.2 670 a0 = some q779 := (oG_r g1220 h1128).trans k1214
  have k1271 : σ1221.2.2.2.2 671 a0 = some q861 := (oG_r g1220 h1128).trans k1215
  have k1272 : σ1221.2.2.2.2 673 a0 = some q946 := (oG_r g1220 h1128).trans k1216
  have k1273 : σ1221.2.2.2.2 674 a0 = some q1034 := (oG_r g1220 h1128).trans k1217
  have k1274 : σ1221.2.2.2.2 676 a0 = some q1125 := (oG_r g1220 h1128).trans k1218
  have h1275 : oA L τ q1219 48 := oG_q g1220
  have n1276 := oX_new ox g1220
  have ox := oX_g ox g1220
  refine o_putrF cx hw 10 37 rfl fiX11 tyX11 tyX11_ok nmX11 h1222 (by decide) (by decide) rfl (by decide) rfl rfl rfl rfl hin rfl rfl k_f_X11_67 dX11_init_154 (fun σ1278 H locs e1277 hw => ?_)
  have k1279 : σ1278.1 641 a0 = 0 := (kp_r e1277).trans k1239
  have k1280 : σ1278.1 642 a0 = 0 := (kp_r e1277).trans k1240
  have k1281 : σ1278.1 645 a0 = 0 := (kp_r e1277).trans k1241
  have k1282 : σ1278.1 647 a0 = 0 := (kp_r e1277).trans k1242
  have k1283 : σ1278.1 649 a0 = 0 := (kp_r e1277).trans k1243
  have k1284 : σ1278.1 653 a0 = 0 := (kp_r e1277).trans k1244
  have k1285 : σ1278.1 655 a0 = 0 := (kp_r e1277).trans k1245
  have k1286 : σ1278.1 657 a0 = 0 := (kp_r e1277).trans k1246
  have k1287 : σ1278.1 658 a0 = 0 := (kp_r e1277).trans k1247
  have k1288 : σ1278.1 660 a0 = 0 := (kp_r e1277).trans k1248
  have k1289 : σ1278.1 661 a0 = 0 := (kp_r e1277).trans k1249
  have k1290 : σ1278.1 662 a0 = 0 := (kp_r e1277).trans k1250
  have k1291 : σ1278.1 663 a0 = 0 := (kp_r e1277).trans k1251
  have k1292 : σ1278.1 668 a0 = 0 := (kp_r e1277).trans k1252
  have k1293 : σ1278.1 669 a0 = 0 := (kp_r e1277).trans k1253
  have k1294 : σ1278.1 672 a0 = 0 := (kp_r e1277).trans k1254
  have k1295 : σ1278.1 675 a0 = 0 := (kp_r e1277).trans k1255
  have k1296 : σ1278.1 681 a0 = 0 := (kp_r e1277).trans k1256
  have k1297 : σ1278.1 650 a0 = 12 := (kp_r e1277).trans k1257
  have k1298 : σ1278.1 651 a0 = 6 := (kp_r e1277).trans k1258
  have k1299 : σ1278.2.2.2.2 640 a0 = some q21 := (kr_r e1277 (by decide)).trans k1259
  have k1300 : σ1278.2.2.2.2 643 a0 = some q70 := (kr_r e1277 (by decide)).trans k1260
  have k1301 : σ1278.2.2.2.2 644 a0 = some q122 := (kr_r e1277 (by decide)).trans k1261
  have k1302 : σ1278.2.2.2.2 646 a0 = some q177 := (kr_r e1277 (by decide)).trans k1262
  have k1303 : σ1278.2.2.2.2 648 a0 = some q235 := (kr_r e1277 (by decide)).trans k1263
  have k1304 : σ1278.2.2.2.2 654 a0 = some q350 := (kr_r e1277 (by decide)).trans k1264
  have k1305 : σ1278.2.2.2.2 656 a0 = some q414 := (kr_r e1277 (by decide)).trans k1265
  have k1306 : σ1278.2.2.2.2 664 a0 = some q481 := (kr_r e1277 (by decide)).trans k1266
  have k1307 : σ1278.2.2.2.2 665 a0 = some q551 := (kr_r e1277 (by decide)).trans k1267
  have k1308 : σ1278.2.2.2.2 666 a0 = some q624 := (kr_r e1277 (by decide)).trans k1268
  have k1309 : σ1278.2.2.2.2 667 a0 = some q700 := (kr_r e1277 (by decide)).trans k1269
  have k1310 : σ1278.2.2.2.2 670 a0 = some q779 := (kr_r e1277 (by decide)).trans k1270
  have k1311 : σ1278.2.2.2.2 671 a0 = some q861 := (kr_r e1277 (by decide)).trans k1271
  have k1312 : σ1278.2.2.2.2 673 a0 = some q946 := (kr_r e1277 (by decide)).trans k1272
  have k1313 : σ1278.2.2.2.2 674 a0 = some q1034 := (kr_r e1277 (by decide)).trans k1273
  have k1314 : σ1278.2.2.2.2 676 a0 = some q1125 := (kr_r e1277 (by decide)).trans k1274
  have k1315 : σ1278.2.2.2.2 677 a0 = some q1219 := kr_s e1277
  have ox := oX_ra ox e1277
  refine lv_aload_n hx hb dX11_init_157 rfl (lv_at hl 0 rfl) ?_
  refine lv_bipush (v := 64) hx hb dX11_init_158 (by decide) ?_
  refine o_newi cx hA hw 67 (by decide) (fun _ => rfl) (atype := .int) (ty := .int) rfl k_a_int rfl (fun _ => rfl) (by decide) (by decide) (fun _ => rfl) (by decide) (by decide) (by decide) (by decide) (by decide) dX11_init_160 (fun q1316 L τ σ1318 H g1317 hw => ?_)
  have h1319 : oA L τ a0 26 := oG_a g1317 h1222
  have h1320 : oA L τ q21 48 := oG_a g1317 h1223
  have h1321 : oA L τ q70 49 := oG_a g1317 h1224
  have h1322 : oA L τ q122 63 := oG_a g1317 h1225
  have h1323 : oA L τ q177 50 := oG_a g1317 h1226
  have h1324 : oA L τ q235 69 := oG_a g1317 h1227
  have h1325 : oA L τ q350 51 := oG_a g1317 h1228
  have h1326 : oA L τ q414 52 := oG_a g1317 h1229
  have h1327 : oA L τ q481 64 := oG_a g1317 h1230
  have h1328 : oA L τ q551 65 := oG_a g1317 h1231
  have h1329 : oA L τ q624 53 := oG_a g1317 h1232
  have h1330 : oA L τ q700 54 := oG_a g1317 h1233
  have h1331 : oA L τ q779 55 := oG_a g1317 h1234
  have h1332 : oA L τ q861 56 := oG_a g1317 h1235
  have h1333 : oA L τ q946 48 := oG_a g1317 h1236
  have h1334 : oA L τ q1034 57 := oG_a g1317 h1237
  have h1335 : oA L τ q1125 66 := oG_a g1317 h1238
  have h1336 : oA L τ q1219 48 := oG_a g1317 h1275
  have k1337 : σ1318.1 641 a0 = 0 := (oG_i g1317 h1222).trans k1279
  have k1338 : σ1318.1 642 a0 = 0 := (oG_i g1317 h1222).trans k1280
  have k1339 : σ1318.1 645 a0 = 0 := (oG_i g1317 h1222).trans k1281
  have k1340 : σ1318.1 647 a0 = 0 := (oG_i g1317 h1222).trans k1282
  have k1341 : σ1318.1 649 a0 = 0 := (oG_i g1317 h1222).trans k1283
  have k1342 : σ1318.1 653 a0 = 0 := (oG_i g1317 h1222).trans k1284
  have k1343 : σ1318.1 655 a0 = 0 := (oG_i g1317 h1222).trans k1285
  have k1344 : σ1318.1 657 a0 = 0 := (oG_i g1317 h1222).trans k1286
  have k1345 : σ1318.1 658 a0 = 0 := (oG_i g1317 h1222).trans k1287
  have k1346 : σ1318.1 660 a0 = 0 := (oG_i g1317 h1222).trans k1288
  have k1347 : σ1318.1 661 a0 = 0 := (oG_i g1317 h1222).trans k1289
  have k1348 : σ1318.1 662 a0 = 0 := (oG_i g1317 h1222).trans k1290
  have k1349 : σ1318.1 663 a0 = 0 := (oG_i g1317 h1222).trans k1291
  have k1350 : σ1318.1 668 a0 = 0 := (oG_i g1317 h1222).trans k1292
  have k1351 : σ1318.1 669 a0 = 0 := (oG_i g1317 h1222).trans k1293
  have k1352 : σ1318.1 672 a0 = 0 := (oG_i g1317 h1222).trans k1294
  have k1353 : σ1318.1 675 a0 = 0 := (oG_i g1317 h1222).trans k1295
  have k1354 : σ1318.1 681 a0 = 0 := (oG_i g1317 h1222).trans k1296
  have k1355 : σ1318.1 650 a0 = 12 := (oG_i g1317 h1222).trans k1297
  have k1356 : σ1318.1 651 a0 = 6 := (oG_i g1317 h1222).trans k1298
  have k1357 : σ1318.2.2.2.2 640 a0 = some q21 := (oG_r g1317 h1222).trans k1299
  have k1358 : σ1318.2.2.2.2 643 a0 = some q70 := (oG_r g1317 h1222).trans k1300
  have k1359 : σ1318.2.2.2.2 644 a0 = some q122 := (oG_r g1317 h1222).trans k1301
  have k1360 : σ1318.2.2.2.2 646 a0 = some q177 := (oG_r g1317 h1222).trans k1302
  have k1361 : σ1318.2.2.2.2 648 a0 = some q235 := (oG_r g1317 h1222).trans k1303
  have k1362 : σ1318.2.2.2.2 654 a0 = some q350 := (oG_r g1317 h1222).trans k1304
  have k1363 : σ1318.2.2.2.2 656 a0 = some q414 := (oG_r g1317 h1222).trans k1305
  have k1364 : σ1318.2.2.2.2 664 a0 = some q481 := (oG_r g1317 h1222).trans k1306
  have k1365 : σ1318.2.2.2.2 665 a0 = some q551 := (oG_r g1317 h1222).trans k1307
  have k1366 : σ1318.2.2.2.2 666 a0 = some q624 := (oG_r g1317 h1222).trans k1308
  have k1367 : σ1318.2.2.2.2 667 a0 = some q700 := (oG_r g1317 h1222).trans k1309
  have k1368 : σ1318.2.2.2.2 670 a0 = some q779 := (oG_r g1317 h1222).trans k1310
  have k1369 : σ1318.2.2.2.2 671 a0 = some q861 := (oG_r g1317 h1222).trans k1311
  have k1370 : σ1318.2.2.2.2 673 a0 = some q946 := (oG_r g1317 h1222).trans k1312
  have k1371 : σ1318.2.2.2.2 674 a0 = some q1034 := (oG_r g1317 h1222).trans k1313
  have k1372 : σ1318.2.2.2.2 676 a0 = some q1125 := (oG_r g1317 h1222).trans k1314
  have k1373 : σ1318.2.2.2.2 677 a0 = some q1219 := (oG_r g1317 h1222).trans k1315
  have h1374 : oA L τ q1316 67 := oG_q g1317
  have n1375 := oX_new ox g1317
  have ox := oX_g ox g1317
  refine o_putrF cx hw 10 38 rfl fiX11 tyX11 tyX11_ok nmX11 h1319 (by decide) (by decide) rfl (by decide) rfl rfl rfl rfl hin rfl rfl k_f_X11_70 dX11_init_162 (fun σ1377 H locs e1376 hw => ?_)
  have k1378 : σ1377.1 641 a0 = 0 := (kp_r e1376).trans k1337
  have k1379 : σ1377.1 642 a0 = 0 := (kp_r e1376).trans k1338
  have k1380 : σ1377.1 645 a0 = 0 := (kp_r e1376).trans k1339
  have k1381 : σ1377.1 647 a0 = 0 := (kp_r e1376).trans k1340
  have k1382 : σ1377.1 649 a0 = 0 := (kp_r e1376).trans k1341
  have k1383 : σ1377.1 653 a0 = 0 := (kp_r e1376).trans k1342
  have k1384 : σ1377.1 655 a0 = 0 := (kp_r e1376).trans k1343
  have k1385 : σ1377.1 657 a0 = 0 := (kp_r e1376).trans k1344
  have k1386 : σ1377.1 658 a0 = 0 := (kp_r e1376).trans k1345
  have k1387 : σ1377.1 660 a0 = 0 := (kp_r e1376).trans k1346
  have k1388 : σ1377.1 661 a0 = 0 := (kp_r e1376).trans k1347
  have k1389 : σ1377.1 662 a0 = 0 := (kp_r e1376).trans k1348
  have k1390 : σ1377.1 663 a0 = 0 := (kp_r e1376).trans k1349
  have k1391 : σ1377.1 668 a0 = 0 := (kp_r e1376).trans k1350
  have k1392 : σ1377.1 669 a0 = 0 := (kp_r e1376).trans k1351
  have k1393 : σ1377.1 672 a0 = 0 := (kp_r e1376).trans k1352
  have k1394 : σ1377.1 675 a0 = 0 := (kp_r e1376).trans k1353
  have k1395 : σ1377.1 681 a0 = 0 := (kp_r e1376).trans k1354
  have k1396 : σ1377.1 650 a0 = 12 := (kp_r e1376).trans k1355
  have k1397 : σ1377.1 651 a0 = 6 := (kp_r e1376).trans k1356
  have k1398 : σ1377.2.2.2.2 640 a0 = some q21 := (kr_r e1376 (by decide)).trans k1357
  have k1399 : σ1377.2.2.2.2 643 a0 = some q70 := (kr_r e1376 (by decide)).trans k1358
  have k1400 : σ1377.2.2.2.2 644 a0 = some q122 := (kr_r e1376 (by decide)).trans k1359
  have k1401 : σ1377.2.2.2.2 646 a0 = some q177 := (kr_r e1376 (by decide)).trans k1360
  have k1402 : σ1377.2.2.2.2 648 a0 = some q235 := (kr_r e1376 (by decide)).trans k1361
  have k1403 : σ1377.2.2.2.2 654 a0 = some q350 := (kr_r e1376 (by decide)).trans k1362
  have k1404 : σ1377.2.2.2.2 656 a0 = some q414 := (kr_r e1376 (by decide)).trans k1363
  have k1405 : σ1377.2.2.2.2 664 a0 = some q481 := (kr_r e1376 (by decide)).trans k1364
  have k1406 : σ1377.2.2.2.2 665 a0 = some q551 := (kr_r e1376 (by decide)).trans k1365
  have k1407 : σ1377.2.2.2.2 666 a0 = some q624 := (kr_r e1376 (by decide)).trans k1366
  have k1408 : σ1377.2.2.2.2 667 a0 = some q700 := (kr_r e1376 (by decide)).trans k1367
  have k1409 : σ1377.2.2.2.2 670 a0 = some q779 := (kr_r e1376 (by decide)).trans k1368
  have k1410 : σ1377.2.2.2.2 671 a0 = some q861 := (kr_r e1376 (by decide)).trans k1369
  have k1411 : σ1377.2.2.2.2 673 a0 = some q946 := (kr_r e1376 (by decide)).trans k1370
  have k1412 : σ1377.2.2.2.2 674 a0 = some q1034 := (kr_r e1376 (by decide)).trans k1371
  have k1413 : σ1377.2.2.2.2 676 a0 = some q1125 := (kr_r e1376 (by decide)).trans k1372
  have k1414 : σ1377.2.2.2.2 677 a0 = some q1219 := (kr_r e1376 (by decide)).trans k1373
  have k1415 : σ1377.2.2.2.2 678 a0 = some q1316 := kr_s e1376
  have ox := oX_ra ox e1376
  refine lv_aload_n hx hb dX11_init_165 rfl (lv_at hl 0 rfl) ?_
  refine lv_bipush (v := 64) hx hb dX11_init_166 (by decide) ?_
  refine o_newi cx hA hw 68 (by decide) (fun _ => rfl) (atype := .int) (ty := .int) rfl k_a_int rfl (fun _ => rfl) (by decide) (by decide) (fun _ => rfl) (by decide) (by decide) (by decide) (by decide) (by decide) dX11_init_168 (fun q1416 L τ σ1418 H g1417 hw => ?_)
  have h1419 : oA L τ a0 26 := oG_a g1417 h1319
  have h1420 : oA L τ q21 48 := oG_a g1417 h1320
  have h1421 : oA L τ q70 49 := oG_a g1417 h1321
  have h1422 : oA L τ q122 63 := oG_a g1417 h1322
  have h1423 : oA L τ q177 50 := oG_a g1417 h1323
  have h1424 : oA L τ q235 69 := oG_a g1417 h1324
  have h1425 : oA L τ q350 51 := oG_a g1417 h1325
  have h1426 : oA L τ q414 52 := oG_a g1417 h1326
  have h1427 : oA L τ q481 64 := oG_a g1417 h1327
  have h1428 : oA L τ q551 65 := oG_a g1417 h1328
  have h1429 : oA L τ q624 53 := oG_a g1417 h1329
  have h1430 : oA L τ q700 54 := oG_a g1417 h1330
  have h1431 : oA L τ q779 55 := oG_a g1417 h1331
  have h1432 : oA L τ q861 56 := oG_a g1417 h1332
  have h1433 : oA L τ q946 48 := oG_a g1417 h1333
  have h1434 : oA L τ q1034 57 := oG_a g1417 h1334
  have h1435 : oA L τ q1125 66 := oG_a g1417 h1335
  have h1436 : oA L τ q1219 48 := oG_a g1417 h1336
  have h1437 : oA L τ q1316 67 := oG_a g1417 h1374
  have k1438 : σ1418.1 641 a0 = 0 := (oG_i g1417 h1319).trans k1378
  have k1439 : σ1418.1 642 a0 = 0 := (oG_i g1417 h1319).trans k1379
  have k1440 : σ1418.1 645 a0 = 0 := (oG_i g1417 h1319).trans k1380
  have k1441 : σ1418.1 647 a0 = 0 := (oG_i g1417 h1319).trans k1381
  have k1442 : σ1418.1 649 a0 = 0 := (oG_i g1417 h1319).trans k1382
  have k1443 : σ1418.1 653 a0 = 0 := (oG_i g1417 h1319).trans k1383
  have k1444 : σ1418.1 655 a0 = 0 := (oG_i g1417 h1319).trans k1384
  have k1445 : σ1418.1 657 a0 = 0 := (oG_i g1417 h1319).trans k1385
  have k1446 : σ1418.1 658 a0 = 0 := (oG_i g1417 h1319).trans k1386
  have k1447 : σ1418.1 660 a0 = 0 := (oG_i g1417 h1319).trans k1387
  have k1448 : σ1418.1 661 a0 = 0 := (oG_i g1417 h1319).trans k1388
  have k1449 : σ1418.1 662 a0 = 0 := (oG_i g1417 h1319).trans k1389
  have k1450 : σ1418.1 663 a0 = 0 := (oG_i g1417 h1319).trans k1390
  have k1451 : σ1418.1 668 a0 = 0 := (oG_i g1417 h1319).trans k1391
  have k1452 : σ1418.1 669 a0 = 0 := (oG_i g1417 h1319).trans k1392
  have k1453 : σ1418.1 672 a0 = 0 := (oG_i g1417 h1319).trans k1393
  have k1454 : σ1418.1 675 a0 = 0 := (oG_i g1417 h1319).trans k1394
  have k1455 : σ1418.1 681 a0 = 0 := (oG_i g1417 h1319).trans k1395
  have k1456 : σ1418.1 650 a0 = 12 := (oG_i g1417 h1319).trans k1396
  have k1457 : σ1418.1 651 a0 = 6 := (oG_i g1417 h1319).trans k1397
  have k1458 : σ1418.2.2.2.2 640 a0 = some q21 := (oG_r g1417 h1319).trans k1398
  have k1459 : σ1418.2.2.2.2 643 a0 = some q70 := (oG_r g1417 h1319).trans k1399
  have k1460 : σ1418.2.2.2.2 644 a0 = some q122 := (oG_r g1417 h1319).trans k1400
  have k1461 : σ1418.2.2.2.2 646 a0 = some q177 := (oG_r g1417 h1319).trans k1401
  have k1462 : σ1418.2.2.2.2 648 a0 = some q235 := (oG_r g1417 h1319).trans k1402
  have k1463 : σ1418.2.2.2.2 654 a0 = some q350 := (oG_r g1417 h1319).trans k1403
  have k1464 : σ1418.2.2.2.2 656 a0 = some q414 := (oG_r g1417 h1319).trans k1404
  have k1465 : σ1418.2.2.2.2 664 a0 = some q481 := (oG_r g1417 h1319).trans k1405
  have k1466 : σ1418.2.2.2.2 665 a0 = some q551 := (oG_r g1417 h1319).trans k1406
  have k1467 : σ1418.2.2.2.2 666 a0 = some q624 := (oG_r g1417 h1319).trans k1407
  have k1468 : σ1418.2.2.2.2 667 a0 = some q700 := (oG_r g1417 h1319).trans k1408
  have k1469 : σ1418.2.2.2.2 670 a0 = some q779 := (oG_r g1417 h1319).trans k1409
  have k1470 : σ1418.2.2.2.2 671 a0 = some q861 := (oG_r g1417 h1319).trans k1410
  have k1471 : σ1418.2.2.2.2 673 a0 = some q946 := (oG_r g1417 h1319).trans k1411
  have k1472 : σ1418.2.2.2.2 674 a0 = some q1034 := (oG_r g1417 h1319).trans k1412
  have k1473 : σ1418.2.2.2.2 676 a0 = some q1125 := (oG_r g1417 h1319).trans k1413
  have k1474 : σ1418.2.2.2.2 677 a0 = some q1219 := (oG_r g1417 h1319).trans k1414
  have k1475 : σ1418.2.2.2.2 678 a0 = some q1316 := (oG_r g1417 h1319).trans k1415
  have h1476 : oA L τ q1416 68 := oG_q g1417
  have n1477 := oX_new ox g1417
  have ox := oX_g ox g1417
  refine o_putrF cx hw 10 39 rfl fiX11 tyX11 tyX11_ok nmX11 h1419 (by decide) (by decide) rfl (by decide) rfl rfl rfl rfl hin rfl rfl k_f_X11_73 dX11_init_170 (fun σ1479 H locs e1478 hw => ?_)
  have k1480 : σ1479.1 641 a0 = 0 := (kp_r e1478).trans k1438
  have k1481 : σ1479.1 642 a0 = 0 := (kp_r e1478).trans k1439
  have k1482 : σ1479.1 645 a0 = 0 := (kp_r e1478).trans k1440
  have k1483 : σ1479.1 647 a0 = 0 := (kp_r e1478).trans k1441
  have k1484 : σ1479.1 649 a0 = 0 := (kp_r e1478).trans k1442
  have k1485 : σ1479.1 653 a0 = 0 := (kp_r e1478).trans k1443
  have k1486 : σ1479.1 655 a0 = 0 := (kp_r e1478).trans k1444
  have k1487 : σ1479.1 657 a0 = 0 := (kp_r e1478).trans k1445
  have k1488 : σ1479.1 658 a0 = 0 := (kp_r e1478).trans k1446
  have k1489 : σ1479.1 660 a0 = 0 := (kp_r e1478).trans k1447
  have k1490 : σ1479.1 661 a0 = 0 := (kp_r e1478).trans k1448
  have k1491 : σ1479.1 662 a0 = 0 := (kp_r e1478).trans k1449
  have k1492 : σ1479.1 663 a0 = 0 := (kp_r e1478).trans k1450
  have k1493 : σ1479.1 668 a0 = 0 := (kp_r e1478).trans k1451
  have k1494 : σ1479.1 669 a0 = 0 := (kp_r e1478).trans k1452
  have k1495 : σ1479.1 672 a0 = 0 := (kp_r e1478).trans k1453
  have k1496 : σ1479.1 675 a0 = 0 := (kp_r e1478).trans k1454
  have k1497 : σ1479.1 681 a0 = 0 := (kp_r e1478).trans k1455
  have k1498 : σ1479.1 650 a0 = 12 := (kp_r e1478).trans k1456
  have k1499 : σ1479.1 651 a0 = 6 := (kp_r e1478).trans k1457
  have k1500 : σ1479.2.2.2.2 640 a0 = some q21 := (kr_r e1478 (by decide)).trans k1458
  have k1501 : σ1479.2.2.2.2 643 a0 = some q70 := (kr_r e1478 (by decide)).trans k1459
  have k1502 : σ1479.2.2.2.2 644 a0 = some q122 := (kr_r e1478 (by decide)).trans k1460
  have k1503 : σ1479.2.2.2.2 646 a0 = some q177 := (kr_r e1478 (by decide)).trans k1461
  have k1504 : σ1479.2.2.2.2 648 a0 = some q235 := (kr_r e1478 (by decide)).trans k1462
  have k1505 : σ1479.2.2.2.2 654 a0 = some q350 := (kr_r e1478 (by decide)).trans k1463
  have k1506 : σ1479.2.2.2.2 656 a0 = some q414 := (kr_r e1478 (by decide)).trans k1464
  have k1507 : σ1479.2.2.2.2 664 a0 = some q481 := (kr_r e1478 (by decide)).trans k1465
  have k1508 : σ1479.2.2.2.2 665 a0 = some q551 := (kr_r e1478 (by decide)).trans k1466
  have k1509 : σ1479.2.2.2.2 666 a0 = some q624 := (kr_r e1478 (by decide)).trans k1467
  have k1510 : σ1479.2.2.2.2 667 a0 = some q700 := (kr_r e1478 (by decide)).trans k1468
  have k1511 : σ1479.2.2.2.2 670 a0 = some q779 := (kr_r e1478 (by decide)).trans k1469
  have k1512 : σ1479.2.2.2.2 671 a0 = some q861 := (kr_r e1478 (by decide)).trans k1470
  have k1513 : σ1479.2.2.2.2 673 a0 = some q946 := (kr_r e1478 (by decide)).trans k1471
  have k1514 : σ1479.2.2.2.2 674 a0 = some q1034 := (kr_r e1478 (by decide)).trans k1472
  have k1515 : σ1479.2.2.2.2 676 a0 = some q1125 := (kr_r e1478 (by decide)).trans k1473
  have k1516 : σ1479.2.2.2.2 677 a0 = some q1219 := (kr_r e1478 (by decide)).trans k1474
  have k1517 : σ1479.2.2.2.2 678 a0 = some q1316 := (kr_r e1478 (by decide)).trans k1475
  have k1518 : σ1479.2.2.2.2 679 a0 = some q1416 := kr_s e1478
  have ox := oX_ra ox e1478
  refine lv_aload_n hx hb dX11_init_173 rfl (lv_at hl 0 rfl) ?_
  refine lv_bipush (v := 12) hx hb dX11_init_174 (by decide) ?_
  refine o_newi cx hA hw 58 (by decide) (fun _ => rfl) (atype := .int) (ty := .int) rfl k_a_int rfl (fun _ => rfl) (by decide) (by decide) (fun _ => rfl) (by decide) (by decide) (by decide) (by decide) (by decide) dX11_init_176 (fun q1519 L τ σ1521 H g1520 hw => ?_)
  have h1522 : oA L τ a0 26 := oG_a g1520 h1419
  have h1523 : oA L τ q21 48 := oG_a g1520 h1420
  have h1524 : oA L τ q70 49 := oG_a g1520 h1421
  have h1525 : oA L τ q122 63 := oG_a g1520 h1422
  have h1526 : oA L τ q177 50 := oG_a g1520 h1423
  have h1527 : oA L τ q235 69 := oG_a g1520 h1424
  have h1528 : oA L τ q350 51 := oG_a g1520 h1425
  have h1529 : oA L τ q414 52 := oG_a g1520 h1426
  have h1530 : oA L τ q481 64 := oG_a g1520 h1427
  have h1531 : oA L τ q551 65 := oG_a g1520 h1428
  have h1532 : oA L τ q624 53 := oG_a g1520 h1429
  have h1533 : oA L τ q700 54 := oG_a g1520 h1430
  have h1534 : oA L τ q779 55 := oG_a g1520 h1431
  have h1535 : oA L τ q861 56 := oG_a g1520 h1432
  have h1536 : oA L τ q946 48 := oG_a g1520 h1433
  have h1537 : oA L τ q1034 57 := oG_a g1520 h1434
  have h1538 : oA L τ q1125 66 := oG_a g1520 h1435
  have h1539 : oA L τ q1219 48 := oG_a g1520 h1436
  have h1540 : oA L τ q1316 67 := oG_a g1520 h1437
  have h1541 : oA L τ q1416 68 := oG_a g1520 h1476
  have k1542 : σ1521.1 641 a0 = 0 := (oG_i g1520 h1419).trans k1480
  have k1543 : σ1521.1 642 a0 = 0 := (oG_i g1520 h1419).trans k1481
  have k1544 : σ1521.1 645 a0 = 0 := (oG_i g1520 h1419).trans k1482
  have k1545 : σ1521.1 647 a0 = 0 := (oG_i g1520 h1419).trans k1483
  have k1546 : σ1521.1 649 a0 = 0 := (oG_i g1520 h1419).trans k1484
  have k1547 : σ1521.1 653 a0 = 0 := (oG_i g1520 h1419).trans k1485
  have k1548 : σ1521.1 655 a0 = 0 := (oG_i g1520 h1419).trans k1486
  have k1549 : σ1521.1 657 a0 = 0 := (oG_i g1520 h1419).trans k1487
  have k1550 : σ1521.1 658 a0 = 0 := (oG_i g1520 h1419).trans k1488
  have k1551 : σ1521.1 660 a0 = 0 := (oG_i g1520 h1419).trans k1489
  have k1552 : σ1521.1 661 a0 = 0 := (oG_i g1520 h1419).trans k1490
  have k1553 : σ1521.1 662 a0 = 0 := (oG_i g1520 h1419).trans k1491
  have k1554 : σ1521.1 663 a0 = 0 := (oG_i g1520 h1419).trans k1492
  have k1555 : σ1521.1 668 a0 = 0 := (oG_i g1520 h1419).trans k1493
  have k1556 : σ1521.1 669 a0 = 0 := (oG_i g1520 h1419).trans k1494
  have k1557 : σ1521.1 672 a0 = 0 := (oG_i g1520 h1419).trans k1495
  have k1558 : σ1521.1 675 a0 = 0 := (oG_i g1520 h1419).trans k1496
  have k1559 : σ1521.1 681 a0 = 0 := (oG_i g1520 h1419).trans k1497
  have k1560 : σ1521.1 650 a0 = 12 := (oG_i g1520 h1419).trans k1498
  have k1561 : σ1521.1 651 a0 = 6 := (oG_i g1520 h1419).trans k1499
  have k1562 : σ1521.2.2.2.2 640 a0 = some q21 := (oG_r g1520 h1419).trans k1500
  have k1563 : σ1521.2.2.2.2 643 a0 = some q70 := (oG_r g1520 h1419).trans k1501
  have k1564 : σ1521.2.2.2.2 644 a0 = some q122 := (oG_r g1520 h1419).trans k1502
  have k1565 : σ1521.2.2.2.2 646 a0 = some q177 := (oG_r g1520 h1419).trans k1503
  have k1566 : σ1521.2.2.2.2 648 a0 = some q235 := (oG_r g1520 h1419).trans k1504
  have k1567 : σ1521.2.2.2.2 654 a0 = some q350 := (oG_r g1520 h1419).trans k1505
  have k1568 : σ1521.2.2.2.2 656 a0 = some q414 := (oG_r g1520 h1419).trans k1506
  have k1569 : σ1521.2.2.2.2 664 a0 = some q481 := (oG_r g1520 h1419).trans k1507
  have k1570 : σ1521.2.2.2.2 665 a0 = some q551 := (oG_r g1520 h1419).trans k1508
  have k1571 : σ1521.2.2.2.2 666 a0 = some q624 := (oG_r g1520 h1419).trans k1509
  have k1572 : σ1521.2.2.2.2 667 a0 = some q700 := (oG_r g1520 h1419).trans k1510
  have k1573 : σ1521.2.2.2.2 670 a0 = some q779 := (oG_r g1520 h1419).trans k1511
  have k1574 : σ1521.2.2.2.2 671 a0 = some q861 := (oG_r g1520 h1419).trans k1512
  have k1575 : σ1521.2.2.2.2 673 a0 = some q946 := (oG_r g1520 h1419).trans k1513
  have k1576 : σ1521.2.2.2.2 674 a0 = some q1034 := (oG_r g1520 h1419).trans k1514
  have k1577 : σ1521.2.2.2.2 676 a0 = some q1125 := (oG_r g1520 h1419).trans k1515
  have k1578 : σ1521.2.2.2.2 677 a0 = some q1219 := (oG_r g1520 h1419).trans k1516
  have k1579 : σ1521.2.2.2.2 678 a0 = some q1316 := (oG_r g1520 h1419).trans k1517
  have k1580 : σ1521.2.2.2.2 679 a0 = some q1416 := (oG_r g1520 h1419).trans k1518
  have h1581 : oA L τ q1519 58 := oG_q g1520
  have n1582 := oX_new ox g1520
  have ox := oX_g ox g1520
  refine o_putrF cx hw 10 40 rfl fiX11 tyX11 tyX11_ok nmX11 h1522 (by decide) (by decide) rfl (by decide) rfl rfl rfl rfl hin rfl rfl k_f_X11_76 dX11_init_178 (fun σ1584 H locs e1583 hw => ?_)
  have k1585 : σ1584.1 641 a0 = 0 := (kp_r e1583).trans k1542
  have k1586 : σ1584.1 642 a0 = 0 := (kp_r e1583).trans k1543
  have k1587 : σ1584.1 645 a0 = 0 := (kp_r e1583).trans k1544
  have k1588 : σ1584.1 647 a0 = 0 := (kp_r e1583).trans k1545
  have k1589 : σ1584.1 649 a0 = 0 := (kp_r e1583).trans k1546
  have k1590 : σ1584.1 653 a0 = 0 := (kp_r e1583).trans k1547
  have k1591 : σ1584.1 655 a0 = 0 := (kp_r e1583).trans k1548
  have k1592 : σ1584.1 657 a0 = 0 := (kp_r e1583).trans k1549
  have k1593 : σ1584.1 658 a0 = 0 := (kp_r e1583).trans k1550
  have k1594 : σ1584.1 660 a0 = 0 := (kp_r e1583).trans k1551
  have k1595 : σ1584.1 661 a0 = 0 := (kp_r e1583).trans k1552
  have k1596 : σ1584.1 662 a0 = 0 := (kp_r e1583).trans k1553
  have k1597 : σ1584.1 663 a0 = 0 := (kp_r e1583).trans k1554
  have k1598 : σ1584.1 668 a0 = 0 := (kp_r e1583).trans k1555
  have k1599 : σ1584.1 669 a0 = 0 := (kp_r e1583).trans k1556
  have k1600 : σ1584.1 672 a0 = 0 := (kp_r e1583).trans k1557
  have k1601 : σ1584.1 675 a0 = 0 := (kp_r e1583).trans k1558
  have k1602 : σ1584.1 681 a0 = 0 := (kp_r e1583).trans k1559
  have k1603 : σ1584.1 650 a0 = 12 := (kp_r e1583).trans k1560
  have k1604 : σ1584.1 651 a0 = 6 := (kp_r e1583).trans k1561
  have k1605 : σ1584.2.2.2.2 640 a0 = some q21 := (kr_r e1583 (by decide)).trans k1562
  have k1606 : σ1584.2.2.2.2 643 a0 = some q70 := (kr_r e1583 (by decide)).trans k1563
  have k1607 : σ1584.2.2.2.2 644 a0 = some q122 := (kr_r e1583 (by decide)).trans k1564
  have k1608 : σ1584.2.2.2.2 646 a0 = some q177 := (kr_r e1583 (by decide)).trans k1565
  have k1609 : σ1584.2.2.2.2 648 a0 = some q235 := (kr_r e1583 (by decide)).trans k1566
  have k1610 : σ1584.2.2.2.2 654 a0 = some q350 := (kr_r e1583 (by decide)).trans k1567
  have k1611 : σ1584.2.2.2.2 656 a0 = some q414 := (kr_r e1583 (by decide)).trans k1568
  have k1612 : σ1584.2.2.2.2 664 a0 = some q481 := (kr_r e1583 (by decide)).trans k1569
  have k1613 : σ1584.2.2.2.2 665 a0 = some q551 := (kr_r e1583 (by decide)).trans k1570
  have k1614 : σ1584.2.2.2.2 666 a0 = some q624 := (kr_r e1583 (by decide)).trans k1571
  have k1615 : σ1584.2.2.2.2 667 a0 = some q700 := (kr_r e1583 (by decide)).trans k1572
  have k1616 : σ1584.2.2.2.2 670 a0 = some q779 := (kr_r e1583 (by decide)).trans k1573
  have k1617 : σ1584.2.2.2.2 671 a0 = some q861 := (kr_r e1583 (by decide)).trans k1574
  have k1618 : σ1584.2.2.2.2 673 a0 = some q946 := (kr_r e1583 (by decide)).trans k1575
  have k1619 : σ1584.2.2.2.2 674 a0 = some q1034 := (kr_r e1583 (by decide)).trans k1576
  have k1620 : σ1584.2.2.2.2 676 a0 = some q1125 := (kr_r e1583 (by decide)).trans k1577
  have k1621 : σ1584.2.2.2.2 677 a0 = some q1219 := (kr_r e1583 (by decide)).trans k1578
  have k1622 : σ1584.2.2.2.2 678 a0 = some q1316 := (kr_r e1583 (by decide)).trans k1579
  have k1623 : σ1584.2.2.2.2 679 a0 = some q1416 := (kr_r e1583 (by decide)).trans k1580
  have k1624 : σ1584.2.2.2.2 680 a0 = some q1519 := kr_s e1583
  have ox := oX_ra ox e1583
  refine lv_aload_n hx hb dX11_init_181 rfl (lv_at hl 0 rfl) ?_
  refine lv_sipush (v := 668) hx hb dX11_init_182 (by decide) ?_
  refine o_newi cx hA hw 59 (by decide) (fun _ => rfl) (atype := .int) (ty := .int) rfl k_a_int rfl (fun _ => rfl) (by decide) (by decide) (fun _ => rfl) (by decide) (by decide) (by decide) (by decide) (by decide) dX11_init_185 (fun q1625 L τ σ1627 H g1626 hw => ?_)
  have h1628 : oA L τ a0 26 := oG_a g1626 h1522
  have h1629 : oA L τ q21 48 := oG_a g1626 h1523
  have h1630 : oA L τ q70 49 := oG_a g1626 h1524
  have h1631 : oA L τ q122 63 := oG_a g1626 h1525
  have h1632 : oA L τ q177 50 := oG_a g1626 h1526
  have h1633 : oA L τ q235 69 := oG_a g1626 h1527
  have h1634 : oA L τ q350 51 := oG_a g1626 h1528
  have h1635 : oA L τ q414 52 := oG_a g1626 h1529
  have h1636 : oA L τ q481 64 := oG_a g1626 h1530
  have h1637 : oA L τ q551 65 := oG_a g1626 h1531
  have h1638 : oA L τ q624 53 := oG_a g1626 h1532
  have h1639 : oA L τ q700 54 := oG_a g1626 h1533
  have h1640 : oA L τ q779 55 := oG_a g1626 h1534
  have h1641 : oA L τ q861 56 := oG_a g1626 h1535
  have h1642 : oA L τ q946 48 := oG_a g1626 h1536
  have h1643 : oA L τ q1034 57 := oG_a g1626 h1537
  have h1644 : oA L τ q1125 66 := oG_a g1626 h1538
  have h1645 : oA L τ q1219 48 := oG_a g1626 h1539
  have h1646 : oA L τ q1316 67 := oG_a g1626 h1540
  have h1647 : oA L τ q1416 68 := oG_a g1626 h1541
  have h1648 : oA L τ q1519 58 := oG_a g1626 h1581
  have k1649 : σ1627.1 641 a0 = 0 := (oG_i g1626 h1522).trans k1585
  have k1650 : σ1627.1 642 a0 = 0 := (oG_i g1626 h1522).trans k1586
  have k1651 : σ1627.1 645 a0 = 0 := (oG_i g1626 h1522).trans k1587
  have k1652 : σ1627.1 647 a0 = 0 := (oG_i g1626 h1522).trans k1588
  have k1653 : σ1627.1 649 a0 = 0 := (oG_i g1626 h1522).trans k1589
  have k1654 : σ1627.1 653 a0 = 0 := (oG_i g1626 h1522).trans k1590
  have k1655 : σ1627.1 655 a0 = 0 := (oG_i g1626 h1522).trans k1591
  have k1656 : σ1627.1 657 a0 = 0 := (oG_i g1626 h1522).trans k1592
  have k1657 : σ1627.1 658 a0 = 0 := (oG_i g1626 h1522).trans k1593
  have k1658 : σ1627.1 660 a0 = 0 := (oG_i g1626 h1522).trans k1594
  have k1659 : σ1627.1 661 a0 = 0 := (oG_i g1626 h1522).trans k1595
  have k1660 : σ1627.1 662 a0 = 0 := (oG_i g1626 h1522).trans k1596
  have k1661 : σ1627.1 663 a0 = 0 := (oG_i g1626 h1522).trans k1597
  have k1662 : σ1627.1 668 a0 = 0 := (oG_i g1626 h1522).trans k1598
  have k1663 : σ1627.1 669 a0 = 0 := (oG_i g1626 h1522).trans k1599
  have k1664 : σ1627.1 672 a0 = 0 := (oG_i g1626 h1522).trans k1600
  have k1665 : σ1627.1 675 a0 = 0 := (oG_i g1626 h1522).trans k1601
  have k1666 : σ1627.1 681 a0 = 0 := (oG_i g1626 h1522).trans k1602
  have k1667 : σ1627.1 650 a0 = 12 := (oG_i g1626 h1522).trans k1603
  have k1668 : σ1627.1 651 a0 = 6 := (oG_i g1626 h1522).trans k1604
  have k1669 : σ1627.2.2.2.2 640 a0 = some q21 := (oG_r g1626 h1522).trans k1605
  have k1670 : σ1627.2.2.2.2 643 a0 = some q70 := (oG_r g1626 h1522).trans k1606
  have k1671 : σ1627.2.2.2.2 644 a0 = some q122 := (oG_r g1626 h1522).trans k1607
  have k1672 : σ1627.2.2.2.2 646 a0 = some q177 := (oG_r g1626 h1522).trans k1608
  have k1673 : σ1627.2.2.2.2 648 a0 = some q235 := (oG_r g1626 h1522).trans k1609
  have k1674 : σ1627.2.2.2.2 654 a0 = some q350 := (oG_r g1626 h1522).trans k1610
  have k1675 : σ1627.2.2.2.2 656 a0 = some q414 := (oG_r g1626 h1522).trans k1611
  have k1676 : σ1627.2.2.2.2 664 a0 = some q481 := (oG_r g1626 h1522).trans k1612
  have k1677 : σ1627.2.2.2.2 665 a0 = some q551 := (oG_r g1626 h1522).trans k1613
  have k1678 : σ1627.2.2.2.2 666 a0 = some q624 := (oG_r g1626 h1522).trans k1614
  have k1679 : σ1627.2.2.2.2 667 a0 = some q700 := (oG_r g1626 h1522).trans k1615
  have k1680 : σ1627.2.2.2.2 670 a0 = some q779 := (oG_r g1626 h1522).trans k1616
  have k1681 : σ1627.2.2.2.2 671 a0 = some q861 := (oG_r g1626 h1522).trans k1617
  have k1682 : σ1627.2.2.2.2 673 a0 = some q946 := (oG_r g1626 h1522).trans k1618
  have k1683 : σ1627.2.2.2.2 674 a0 = some q1034 := (oG_r g1626 h1522).trans k1619
  have k1684 : σ1627.2.2.2.2 676 a0 = some q1125 := (oG_r g1626 h1522).trans k1620
  have k1685 : σ1627.2.2.2.2 677 a0 = some q1219 := (oG_r g1626 h1522).trans k1621
  have k1686 : σ1627.2.2.2.2 678 a0 = some q1316 := (oG_r g1626 h1522).trans k1622
  have k1687 : σ1627.2.2.2.2 679 a0 = some q1416 := (oG_r g1626 h1522).trans k1623
  have k1688 : σ1627.2.2.2.2 680 a0 = some q1519 := (oG_r g1626 h1522).trans k1624
  have h1689 : oA L τ q1625 59 := oG_q g1626
  have n1690 := oX_new ox g1626
  have ox := oX_g ox g1626
  refine o_putrF cx hw 10 42 rfl fiX11 tyX11 tyX11_ok nmX11 h1628 (by decide) (by decide) rfl (by decide) rfl rfl rfl rfl hin rfl rfl k_f_X11_79 dX11_init_187 (fun σ1692 H locs e1691 hw => ?_)
  have k1693 : σ1692.1 641 a0 = 0 := (kp_r e1691).trans k1649
  have k1694 : σ1692.1 642 a0 = 0 := (kp_r e1691).trans k1650
  have k1695 : σ1692.1 645 a0 = 0 := (kp_r e1691).trans k1651
  have k1696 : σ1692.1 647 a0 = 0 := (kp_r e1691).trans k1652
  have k1697 : σ1692.1 649 a0 = 0 := (kp_r e1691).trans k1653
  have k1698 : σ1692.1 653 a0 = 0 := (kp_r e1691).trans k1654
  have k1699 : σ1692.1 655 a0 = 0 := (kp_r e1691).trans k1655
  have k1700 : σ1692.1 657 a0 = 0 := (kp_r e1691).trans k1656
  have k1701 : σ1692.1 658 a0 = 0 := (kp_r e1691).trans k1657
  have k1702 : σ1692.1 660 a0 = 0 := (kp_r e1691).trans k1658
  have k1703 : σ1692.1 661 a0 = 0 := (kp_r e1691).trans k1659
  have k1704 : σ1692.1 662 a0 = 0 := (kp_r e1691).trans k1660
  have k1705 : σ1692.1 663 a0 = 0 := (kp_r e1691).trans k1661
  have k1706 : σ1692.1 668 a0 = 0 := (kp_r e1691).trans k1662
  have k1707 : σ1692.1 669 a0 = 0 := (kp_r e1691).trans k1663
  have k1708 : σ1692.1 672 a0 = 0 := (kp_r e1691).trans k1664
  have k1709 : σ1692.1 675 a0 = 0 := (kp_r e1691).trans k1665
  have k1710 : σ1692.1 681 a0 = 0 := (kp_r e1691).trans k1666
  have k1711 : σ1692.1 650 a0 = 12 := (kp_r e1691).trans k1667
  have k1712 : σ1692.1 651 a0 = 6 := (kp_r e1691).trans k1668
  have k1713 : σ1692.2.2.2.2 640 a0 = some q21 := (kr_r e1691 (by decide)).trans k1669
  have k1714 : σ1692.2.2.2.2 643 a0 = some q70 := (kr_r e1691 (by decide)).trans k1670
  have k1715 : σ1692.2.2.2.2 644 a0 = some q122 := (kr_r e1691 (by decide)).trans k1671
  have k1716 : σ1692.2.2.2.2 646 a0 = some q177 := (kr_r e1691 (by decide)).trans k1672
  have k1717 : σ1692.2.2.2.2 648 a0 = some q235 := (kr_r e1691 (by decide)).trans k1673
  have k1718 : σ1692.2.2.2.2 654 a0 = some q350 := (kr_r e1691 (by decide)).trans k1674
  have k1719 : σ1692.2.2.2.2 656 a0 = some q414 := (kr_r e1691 (by decide)).trans k1675
  have k1720 : σ1692.2.2.2.2 664 a0 = some q481 := (kr_r e1691 (by decide)).trans k1676
  have k1721 : σ1692.2.2.2.2 665 a0 = some q551 := (kr_r e1691 (by decide)).trans k1677
  have k1722 : σ1692.2.2.2.2 666 a0 = some q624 := (kr_r e1691 (by decide)).trans k1678
  have k1723 : σ1692.2.2.2.2 667 a0 = some q700 := (kr_r e1691 (by decide)).trans k1679
  have k1724 : σ1692.2.2.2.2 670 a0 = some q779 := (kr_r e1691 (by decide)).trans k1680
  have k1725 : σ1692.2.2.2.2 671 a0 = some q861 := (kr_r e1691 (by decide)).trans k1681
  have k1726 : σ1692.2.2.2.2 673 a0 = some q946 := (kr_r e1691 (by decide)).trans k1682
  have k1727 : σ1692.2.2.2.2 674 a0 = some q1034 := (kr_r e1691 (by decide)).trans k1683
  have k1728 : σ1692.2.2.2.2 676 a0 = some q1125 := (kr_r e1691 (by decide)).trans k1684
  have k1729 : σ1692.2.2.2.2 677 a0 = some q1219 := (kr_r e1691 (by decide)).trans k1685
  have k1730 : σ1692.2.2.2.2 678 a0 = some q1316 := (kr_r e1691 (by decide)).trans k1686
  have k1731 : σ1692.2.2.2.2 679 a0 = some q1416 := (kr_r e1691 (by decide)).trans k1687
  have k1732 : σ1692.2.2.2.2 680 a0 = some q1519 := (kr_r e1691 (by decide)).trans k1688
  have k1733 : σ1692.2.2.2.2 682 a0 = some q1625 := kr_s e1691
  have ox := oX_ra ox e1691
  refine lv_aload_n hx hb dX11_init_190 rfl (lv_at hl 0 rfl) ?_
  refine lv_iconst (v := 2) hx hb dX11_init_191 (by decide) ?_
  refine o_newi cx hA hw 60 (by decide) (fun _ => rfl) (atype := .boolean) (ty := .boolean) rfl k_a_boolean rfl (fun _ => rfl) (by decide) (by decide) (fun _ => rfl) (by decide) (by decide) (by decide) (by decide) (by decide) dX11_init_192 (fun q1734 L τ σ1736 H g1735 hw => ?_)
  have h1737 : oA L τ a0 26 := oG_a g1735 h1628
  have h1738 : oA L τ q21 48 := oG_a g1735 h1629
  have h1739 : oA L τ q70 49 := oG_a g1735 h1630
  have h1740 : oA L τ q122 63 := oG_a g1735 h1631
  have h1741 : oA L τ q177 50 := oG_a g1735 h1632
  have h1742 : oA L τ q235 69 := oG_a g1735 h1633
  have h1743 : oA L τ q350 51 := oG_a g1735 h1634
  have h1744 : oA L τ q414 52 := oG_a g1735 h1635
  have h1745 : oA L τ q481 64 := oG_a g1735 h1636
  have h1746 : oA L τ q551 65 := oG_a g1735 h1637
  have h1747 : oA L τ q624 53 := oG_a g1735 h1638
  have h1748 : oA L τ q700 54 := oG_a g1735 h1639
  have h1749 : oA L τ q779 55 := oG_a g1735 h1640
  have h1750 : oA L τ q861 56 := oG_a g1735 h1641
  have h1751 : oA L τ q946 48 := oG_a g1735 h1642
  have h1752 : oA L τ q1034 57 := oG_a g1735 h1643
  have h1753 : oA L τ q1125 66 := oG_a g1735 h1644
  have h1754 : oA L τ q1219 48 := oG_a g1735 h1645
  have h1755 : oA L τ q1316 67 := oG_a g1735 h1646
  have h1756 : oA L τ q1416 68 := oG_a g1735 h1647
  have h1757 : oA L τ q1519 58 := oG_a g1735 h1648
  have h1758 : oA L τ q1625 59 := oG_a g1735 h1689
  have k1759 : σ1736.1 641 a0 = 0 := (oG_i g1735 h1628).trans k1693
  have k1760 : σ1736.1 642 a0 = 0 := (oG_i g1735 h1628).trans k1694
  have k1761 : σ1736.1 645 a0 = 0 := (oG_i g1735 h1628).trans k1695
  have k1762 : σ1736.1 647 a0 = 0 := (oG_i g1735 h1628).trans k1696
  have k1763 : σ1736.1 649 a0 = 0 := (oG_i g1735 h1628).trans k1697
  have k1764 : σ1736.1 653 a0 = 0 := (oG_i g1735 h1628).trans k1698
  have k1765 : σ1736.1 655 a0 = 0 := (oG_i g1735 h1628).trans k1699
  have k1766 : σ1736.1 657 a0 = 0 := (oG_i g1735 h1628).trans k1700
  have k1767 : σ1736.1 658 a0 = 0 := (oG_i g1735 h1628).trans k1701
  have k1768 : σ1736.1 660 a0 = 0 := (oG_i g1735 h1628).trans k1702
  have k1769 : σ1736.1 661 a0 = 0 := (oG_i g1735 h1628).trans k1703
  have k1770 : σ1736.1 662 a0 = 0 := (oG_i g1735 h1628).trans k1704
  have k1771 : σ1736.1 663 a0 = 0 := (oG_i g1735 h1628).trans k1705
  have k1772 : σ1736.1 668 a0 = 0 := (oG_i g1735 h1628).trans k1706
  have k1773 : σ1736.1 669 a0 = 0 := (oG_i g1735 h1628).trans k1707
  have k1774 : σ1736.1 672 a0 = 0 := (oG_i g1735 h1628).trans k1708
  have k1775 : σ1736.1 675 a0 = 0 := (oG_i g1735 h1628).trans k1709
  have k1776 : σ1736.1 681 a0 = 0 := (oG_i g1735 h1628).trans k1710
  have k1777 : σ1736.1 650 a0 = 12 := (oG_i g1735 h1628).trans k1711
  have k1778 : σ1736.1 651 a0 = 6 := (oG_i g1735 h1628).trans k1712
  have k1779 : σ1736.2.2.2.2 640 a0 = some q21 := (oG_r g1735 h1628).trans k1713
  have k1780 : σ1736.2.2.2.2 643 a0 = some q70 := (oG_r g1735 h1628).trans k1714
  have k1781 : σ1736.2.2.2.2 644 a0 = some q122 := (oG_r g1735 h1628).trans k1715
  have k1782 : σ1736.2.2.2.2 646 a0 = some q177 := (oG_r g1735 h1628).trans k1716
  have k1783 : σ1736.2.2.2.2 648 a0 = some q235 := (oG_r g1735 h1628).trans k1717
  have k1784 : σ1736.2.2.2.2 654 a0 = some q350 := (oG_r g1735 h1628).trans k1718
  have k1785 : σ1736.2.2.2.2 656 a0 = some q414 := (oG_r g1735 h1628).trans k1719
  have k1786 : σ1736.2.2.2.2 664 a0 = some q481 := (oG_r g1735 h1628).trans k1720
  have k1787 : σ1736.2.2.2.2 665 a0 = some q551 := (oG_r g1735 h1628).trans k1721
  have k1788 : σ1736.2.2.2.2 666 a0 = some q624 := (oG_r g1735 h1628).trans k1722
  have k1789 : σ1736.2.2.2.2 667 a0 = some q700 := (oG_r g1735 h1628).trans k1723
  have k1790 : σ1736.2.2.2.2 670 a0 = some q779 := (oG_r g1735 h1628).trans k1724
  have k1791 : σ1736.2.2.2.2 671 a0 = some q861 := (oG_r g1735 h1628).trans k1725
  have k1792 : σ1736.2.2.2.2 673 a0 = some q946 := (oG_r g1735 h1628).trans k1726
  have k1793 : σ1736.2.2.2.2 674 a0 = some q1034 := (oG_r g1735 h1628).trans k1727
  have k1794 : σ1736.2.2.2.2 676 a0 = some q1125 := (oG_r g1735 h1628).trans k1728
  have k1795 : σ1736.2.2.2.2 677 a0 = some q1219 := (oG_r g1735 h1628).trans k1729
  have k1796 : σ1736.2.2.2.2 678 a0 = some q1316 := (oG_r g1735 h1628).trans k1730
  have k1797 : σ1736.2.2.2.2 679 a0 = some q1416 := (oG_r g1735 h1628).trans k1731
  have k1798 : σ1736.2.2.2.2 680 a0 = some q1519 := (oG_r g1735 h1628).trans k1732
  have k1799 : σ1736.2.2.2.2 682 a0 = some q1625 := (oG_r g1735 h1628).trans k1733
  have k1800 : σ1736.2.2.1 q1734 = fun _ => 0 := oG_zw g1735
  have h1801 : oA L τ q1734 60 := oG_q g1735
  have n1802 := oX_new ox g1735
  have ox := oX_g ox g1735
  refine o_putrF cx hw 10 43 rfl fiX11 tyX11 tyX11_ok nmX11 h1737 (by decide) (by decide) rfl (by decide) rfl rfl rfl rfl hin rfl rfl k_f_X11_82 dX11_init_194 (fun σ1804 H locs e1803 hw => ?_)
  have k1805 : σ1804.2.2.1 q1734 = fun _ => 0 := (rw_r e1803).trans k1800
  have k1806 : σ1804.1 641 a0 = 0 := (kp_r e1803).trans k1759
  have k1807 : σ1804.1 642 a0 = 0 := (kp_r e1803).trans k1760
  have k1808 : σ1804.1 645 a0 = 0 := (kp_r e1803).trans k1761
  have k1809 : σ1804.1 647 a0 = 0 := (kp_r e1803).trans k1762
  have k1810 : σ1804.1 649 a0 = 0 := (kp_r e1803).trans k1763
  have k1811 : σ1804.1 653 a0 = 0 := (kp_r e1803).trans k1764
  have k1812 : σ1804.1 655 a0 = 0 := (kp_r e1803).trans k1765
  have k1813 : σ1804.1 657 a0 = 0 := (kp_r e1803).trans k1766
  have k1814 : σ1804.1 658 a0 = 0 := (kp_r e1803).trans k1767
  have k1815 : σ1804.1 660 a0 = 0 := (kp_r e1803).trans k1768
  have k1816 : σ1804.1 661 a0 = 0 := (kp_r e1803).trans k1769
  have k1817 : σ1804.1 662 a0 = 0 := (kp_r e1803).trans k1770
  have k1818 : σ1804.1 663 a0 = 0 := (kp_r e1803).trans k1771
  have k1819 : σ1804.1 668 a0 = 0 := (kp_r e1803).trans k1772
  have k1820 : σ1804.1 669 a0 = 0 := (kp_r e1803).trans k1773
  have k1821 : σ1804.1 672 a0 = 0 := (kp_r e1803).trans k1774
  have k1822 : σ1804.1 675 a0 = 0 := (kp_r e1803).trans k1775
  have k1823 : σ1804.1 681 a0 = 0 := (kp_r e1803).trans k1776
  have k1824 : σ1804.1 650 a0 = 12 := (kp_r e1803).trans k1777
  have k1825 : σ1804.1 651 a0 = 6 := (kp_r e1803).trans k1778
  have k1826 : σ1804.2.2.2.2 640 a0 = some q21 := (kr_r e1803 (by decide)).trans k1779
  have k1827 : σ1804.2.2.2.2 643 a0 = some q70 := (kr_r e1803 (by decide)).trans k1780
  have k1828 : σ1804.2.2.2.2 644 a0 = some q122 := (kr_r e1803 (by decide)).trans k1781
  have k1829 : σ1804.2.2.2.2 646 a0 = some q177 := (kr_r e1803 (by decide)).trans k1782
  have k1830 : σ1804.2.2.2.2 648 a0 = some q235 := (kr_r e1803 (by decide)).trans k1783
  have k1831 : σ1804.2.2.2.2 654 a0 = some q350 := (kr_r e1803 (by decide)).trans k1784
  have k1832 : σ1804.2.2.2.2 656 a0 = some q414 := (kr_r e1803 (by decide)).trans k1785
  have k1833 : σ1804.2.2.2.2 664 a0 = some q481 := (kr_r e1803 (by decide)).trans k1786
  have k1834 : σ1804.2.2.2.2 665 a0 = some q551 := (kr_r e1803 (by decide)).trans k1787
  have k1835 : σ1804.2.2.2.2 666 a0 = some q624 := (kr_r e1803 (by decide)).trans k1788
  have k1836 : σ1804.2.2.2.2 667 a0 = some q700 := (kr_r e1803 (by decide)).trans k1789
  have k1837 : σ1804.2.2.2.2 670 a0 = some q779 := (kr_r e1803 (by decide)).trans k1790
  have k1838 : σ1804.2.2.2.2 671 a0 = some q861 := (kr_r e1803 (by decide)).trans k1791
  have k1839 : σ1804.2.2.2.2 673 a0 = some q946 := (kr_r e1803 (by decide)).trans k1792
  have k1840 : σ1804.2.2.2.2 674 a0 = some q1034 := (kr_r e1803 (by decide)).trans k1793
  have k1841 : σ1804.2.2.2.2 676 a0 = some q1125 := (kr_r e1803 (by decide)).trans k1794
  have k1842 : σ1804.2.2.2.2 677 a0 = some q1219 := (kr_r e1803 (by decide)).trans k1795
  have k1843 : σ1804.2.2.2.2 678 a0 = some q1316 := (kr_r e1803 (by decide)).trans k1796
  have k1844 : σ1804.2.2.2.2 679 a0 = some q1416 := (kr_r e1803 (by decide)).trans k1797
  have k1845 : σ1804.2.2.2.2 680 a0 = some q1519 := (kr_r e1803 (by decide)).trans k1798
  have k1846 : σ1804.2.2.2.2 682 a0 = some q1625 := (kr_r e1803 (by decide)).trans k1799
  have k1847 : σ1804.2.2.2.2 683 a0 = some q1734 := kr_s e1803
  have ox := oX_ra ox e1803
  refine lv_aload_n hx hb dX11_init_197 rfl (lv_at hl 0 rfl) ?_
  refine lv_iconst (v := 2) hx hb dX11_init_198 (by decide) ?_
  refine o_newi cx hA hw 61 (by decide) (fun _ => rfl) (atype := .int) (ty := .int) rfl k_a_int rfl (fun _ => rfl) (by decide) (by decide) (fun _ => rfl) (by decide) (by decide) (by decide) (by decide) (by decide) dX11_init_199 (fun q1848 L τ σ1850 H g1849 hw => ?_)
  have h1851 : oA L τ a0 26 := oG_a g1849 h1737
  have h1852 : oA L τ q21 48 := oG_a g1849 h1738
  have h1853 : oA L τ q70 49 := oG_a g1849 h1739
  have h1854 : oA L τ q122 63 := oG_a g1849 h1740
  have h1855 : oA L τ q177 50 := oG_a g1849 h1741
  have h1856 : oA L τ q235 69 := oG_a g1849 h1742
  have h1857 : oA L τ q350 51 := oG_a g1849 h1743
  have h1858 : oA L τ q414 52 := oG_a g1849 h1744
  have h1859 : oA L τ q481 64 := oG_a g1849 h1745
  have h1860 : oA L τ q551 65 := oG_a g1849 h1746
  have h1861 : oA L τ q624 53 := oG_a g1849 h1747
  have h1862 : oA L τ q700 54 := oG_a g1849 h1748
  have h1863 : oA L τ q779 55 := oG_a g1849 h1749
  have h1864 : oA L τ q861 56 := oG_a g1849 h1750
  have h1865 : oA L τ q946 48 := oG_a g1849 h1751
  have h1866 : oA L τ q1034 57 := oG_a g1849 h1752
  have h1867 : oA L τ q1125 66 := oG_a g1849 h1753
  have h1868 : oA L τ q1219 48 := oG_a g1849 h1754
  have h1869 : oA L τ q1316 67 := oG_a g1849 h1755
  have h1870 : oA L τ q1416 68 := oG_a g1849 h1756
  have h1871 : oA L τ q1519 58 := oG_a g1849 h1757
  have h1872 : oA L τ q1625 59 := oG_a g1849 h1758
  have h1873 : oA L τ q1734 60 := oG_a g1849 h1801
  have k1874 : σ1850.2.2.1 q1734 = fun _ => 0 := (oG_w g1849 h1801).trans k1805
  have k1875 : σ1850.1 641 a0 = 0 := (oG_i g1849 h1737).trans k1806
  have k1876 : σ1850.1 642 a0 = 0 := (oG_i g1849 h1737).trans k1807
  have k1877 : σ1850.1 645 a0 = 0 := (oG_i g1849 h1737).trans k1808
  have k1878 : σ1850.1 647 a0 = 0 := (oG_i g1849 h1737).trans k1809
  have k1879 : σ1850.1 649 a0 = 0 := (oG_i g1849 h1737).trans k1810
  have k1880 : σ1850.1 653 a0 = 0 := (oG_i g1849 h1737).trans k1811
  have k1881 : σ1850.1 655 a0 = 0 := (oG_i g1849 h1737).trans k1812
  have k1882 : σ1850.1 657 a0 = 0 := (oG_i g1849 h1737).trans k1813
  have k1883 : σ1850.1 658 a0 = 0 := (oG_i g1849 h1737).trans k1814
  have k1884 : σ1850.1 660 a0 = 0 := (oG_i g1849 h1737).trans k1815
  have k1885 : σ1850.1 661 a0 = 0 := (oG_i g1849 h1737).trans k1816
  have k1886 : σ1850.1 662 a0 = 0 := (oG_i g1849 h1737).trans k1817
  have k1887 : σ1850.1 663 a0 = 0 := (oG_i g1849 h1737).trans k1818
  have k1888 : σ1850.1 668 a0 = 0 := (oG_i g1849 h1737).trans k1819
  have k1889 : σ1850.1 669 a0 = 0 := (oG_i g1849 h1737).trans k1820
  have k1890 : σ1850.1 672 a0 = 0 := (oG_i g1849 h1737).trans k1821
  have k1891 : σ1850.1 675 a0 = 0 := (oG_i g1849 h1737).trans k1822
  have k1892 : σ1850.1 681 a0 = 0 := (oG_i g1849 h1737).trans k1823
  have k1893 : σ1850.1 650 a0 = 12 := (oG_i g1849 h1737).trans k1824
  have k1894 : σ1850.1 651 a0 = 6 := (oG_i g1849 h1737).trans k1825
  have k1895 : σ1850.2.2.2.2 640 a0 = some q21 := (oG_r g1849 h1737).trans k1826
  have k1896 : σ1850.2.2.2.2 643 a0 = some q70 := (oG_r g1849 h1737).trans k1827
  have k1897 : σ1850.2.2.2.2 644 a0 = some q122 := (oG_r g1849 h1737).trans k1828
  have k1898 : σ1850.2.2.2.2 646 a0 = some q177 := (oG_r g1849 h1737).trans k1829
  have k1899 : σ1850.2.2.2.2 648 a0 = some q235 := (oG_r g1849 h1737).trans k1830
  have k1900 : σ1850.2.2.2.2 654 a0 = some q350 := (oG_r g1849 h1737).trans k1831
  have k1901 : σ1850.2.2.2.2 656 a0 = some q414 := (oG_r g1849 h1737).trans k1832
  have k1902 : σ1850.2.2.2.2 664 a0 = some q481 := (oG_r g1849 h1737).trans k1833
  have k1903 : σ1850.2.2.2.2 665 a0 = some q551 := (oG_r g1849 h1737).trans k1834
  have k1904 : σ1850.2.2.2.2 666 a0 = some q624 := (oG_r g1849 h1737).trans k1835
  have k1905 : σ1850.2.2.2.2 667 a0 = some q700 := (oG_r g1849 h1737).trans k1836
  have k1906 : σ1850.2.2.2.2 670 a0 = some q779 := (oG_r g1849 h1737).trans k1837
  have k1907 : σ1850.2.2.2.2 671 a0 = some q861 := (oG_r g1849 h1737).trans k1838
  have k1908 : σ1850.2.2.2.2 673 a0 = some q946 := (oG_r g1849 h1737).trans k1839
  have k1909 : σ1850.2.2.2.2 674 a0 = some q1034 := (oG_r g1849 h1737).trans k1840
  have k1910 : σ1850.2.2.2.2 676 a0 = some q1125 := (oG_r g1849 h1737).trans k1841
  have k1911 : σ1850.2.2.2.2 677 a0 = some q1219 := (oG_r g1849 h1737).trans k1842
  have k1912 : σ1850.2.2.2.2 678 a0 = some q1316 := (oG_r g1849 h1737).trans k1843
  have k1913 : σ1850.2.2.2.2 679 a0 = some q1416 := (oG_r g1849 h1737).trans k1844
  have k1914 : σ1850.2.2.2.2 680 a0 = some q1519 := (oG_r g1849 h1737).trans k1845
  have k1915 : σ1850.2.2.2.2 682 a0 = some q1625 := (oG_r g1849 h1737).trans k1846
  have k1916 : σ1850.2.2.2.2 683 a0 = some q1734 := (oG_r g1849 h1737).trans k1847
  have k1917 : σ1850.2.2.1 q1848 = fun _ => 0 := oG_zw g1849
  have h1918 : oA L τ q1848 61 := oG_q g1849
  have n1919 := oX_new ox g1849
  have ox := oX_g ox g1849
  refine o_putrF cx hw 10 44 rfl fiX11 tyX11 tyX11_ok nmX11 h1851 (by decide) (by decide) rfl (by decide) rfl rfl rfl rfl hin rfl rfl k_f_X11_86 dX11_init_201 (fun σ1921 H locs e1920 hw => ?_)
  have k1922 : σ1921.2.2.1 q1734 = fun _ => 0 := (rw_r e1920).trans k1874
  have k1923 : σ1921.2.2.1 q1848 = fun _ => 0 := (rw_r e1920).trans k1917
  have k1924 : σ1921.1 641 a0 = 0 := (kp_r e1920).trans k1875
  have k1925 : σ1921.1 642 a0 = 0 := (kp_r e1920).trans k1876
  have k1926 : σ1921.1 645 a0 = 0 := (kp_r e1920).trans k1877
  have k1927 : σ1921.1 647 a0 = 0 := (kp_r e1920).trans k1878
  have k1928 : σ1921.1 649 a0 = 0 := (kp_r e1920).trans k1879
  have k1929 : σ1921.1 653 a0 = 0 := (kp_r e1920).trans k1880
  have k1930 : σ1921.1 655 a0 = 0 := (kp_r e1920).trans k1881
  have k1931 : σ1921.1 657 a0 = 0 := (kp_r e1920).trans k1882
  have k1932 : σ1921.1 658 a0 = 0 := (kp_r e1920).trans k1883
  have k1933 : σ1921.1 660 a0 = 0 := (kp_r e1920).trans k1884
  have k1934 : σ1921.1 661 a0 = 0 := (kp_r e1920).trans k1885
  have k1935 : σ1921.1 662 a0 = 0 := (kp_r e1920).trans k1886
  have k1936 : σ1921.1 663 a0 = 0 := (kp_r e1920).trans k1887
  have k1937 : σ1921.1 668 a0 = 0 := (kp_r e1920).trans k1888
  have k1938 : σ1921.1 669 a0 = 0 := (kp_r e1920).trans k1889
  have k1939 : σ1921.1 672 a0 = 0 := (kp_r e1920).trans k1890
  have k1940 : σ1921.1 675 a0 = 0 := (kp_r e1920).trans k1891
  have k1941 : σ1921.1 681 a0 = 0 := (kp_r e1920).trans k1892
  have k1942 : σ1921.1 650 a0 = 12 := (kp_r e1920).trans k1893
  have k1943 : σ1921.1 651 a0 = 6 := (kp_r e1920).trans k1894
  have k1944 : σ1921.2.2.2.2 640 a0 = some q21 := (kr_r e1920 (by decide)).trans k1895
  have k1945 : σ1921.2.2.2.2 643 a0 = some q70 := (kr_r e1920 (by decide)).trans k1896
  have k1946 : σ1921.2.2.2.2 644 a0 = some q122 := (kr_r e1920 (by decide)).trans k1897
  have k1947 : σ1921.2.2.2.2 646 a0 = some q177 := (kr_r e1920 (by decide)).trans k1898
  have k1948 : σ1921.2.2.2.2 648 a0 = some q235 := (kr_r e1920 (by decide)).trans k1899
  have k1949 : σ1921.2.2.2.2 654 a0 = some q350 := (kr_r e1920 (by decide)).trans k1900
  have k1950 : σ1921.2.2.2.2 656 a0 = some q414 := (kr_r e1920 (by decide)).trans k1901
  have k1951 : σ1921.2.2.2.2 664 a0 = some q481 := (kr_r e1920 (by decide)).trans k1902
  have k1952 : σ1921.2.2.2.2 665 a0 = some q551 := (kr_r e1920 (by decide)).trans k1903
  have k1953 : σ1921.2.2.2.2 666 a0 = some q624 := (kr_r e1920 (by decide)).trans k1904
  have k1954 : σ1921.2.2.2.2 667 a0 = some q700 := (kr_r e1920 (by decide)).trans k1905
  have k1955 : σ1921.2.2.2.2 670 a0 = some q779 := (kr_r e1920 (by decide)).trans k1906
  have k1956 : σ1921.2.2.2.2 671 a0 = some q861 := (kr_r e1920 (by decide)).trans k1907
  have k1957 : σ1921.2.2.2.2 673 a0 = some q946 := (kr_r e1920 (by decide)).trans k1908
  have k1958 : σ1921.2.2.2.2 674 a0 = some q1034 := (kr_r e1920 (by decide)).trans k1909
  have k1959 : σ1921.2.2.2.2 676 a0 = some q1125 := (kr_r e1920 (by decide)).trans k1910
  have k1960 : σ1921.2.2.2.2 677 a0 = some q1219 := (kr_r e1920 (by decide)).trans k1911
  have k1961 : σ1921.2.2.2.2 678 a0 = some q1316 := (kr_r e1920 (by decide)).trans k1912
  have k1962 : σ1921.2.2.2.2 679 a0 = some q1416 := (kr_r e1920 (by decide)).trans k1913
  have k1963 : σ1921.2.2.2.2 680 a0 = some q1519 := (kr_r e1920 (by decide)).trans k1914
  have k1964 : σ1921.2.2.2.2 682 a0 = some q1625 := (kr_r e1920 (by decide)).trans k1915
  have k1965 : σ1921.2.2.2.2 683 a0 = some q1734 := (kr_r e1920 (by decide)).trans k1916
  have k1966 : σ1921.2.2.2.2 684 a0 = some q1848 := kr_s e1920
  have ox := oX_ra ox e1920
  obtain ⟨τ9, d9⟩ : ∃ τ9, oD τ a0 10 τ9 := ⟨_, rfl⟩
  have hw := oD_I d9 hw h1851 (Or.inl ⟨by decide, by decide, rfl⟩) (mb_10 (f := fun j => σ1921.1 j a0) (kn_iv k1924 ⟨by decide, by decide⟩) (kn_iv k1925 ⟨by decide, by decide⟩) (kn_iv k1926 ⟨by decide, by decide⟩) (kn_iv k1927 ⟨by decide, by decide⟩) (kn_iv k1943 ⟨by decide, by decide⟩) (kn_iv k1930 ⟨by decide, by decide⟩) (kn_iv k1931 ⟨by decide, by decide⟩) (kn_iv k1933 ⟨by decide, by decide⟩) (kn_iv k1934 ⟨by decide, by decide⟩) (kn_iv k1935 ⟨by decide, by decide⟩) (kn_iv k1936 ⟨by decide, by decide⟩) (kn_iv k1937 ⟨by decide, by decide⟩) (kn_iv k1939 ⟨by decide, by decide⟩)) (fun i => oRb_lo (by decide)) (tg_10 (P := fun j t2 => ∃ b, σ1921.2.2.2.2 j a0 = some b ∧ oA L τ b t2 ∧ b ≠ a0) ⟨q21, k1944, h1852, rw_ne h1852 h1851 (by decide)⟩ ⟨q70, k1945, h1853, rw_ne h1853 h1851 (by decide)⟩ ⟨q122, k1946, h1854, rw_ne h1854 h1851 (by decide)⟩ ⟨q177, k1947, h1855, rw_ne h1855 h1851 (by decide)⟩ ⟨q235, k1948, h1856, rw_ne h1856 h1851 (by decide)⟩ ⟨q350, k1949, h1857, rw_ne h1857 h1851 (by decide)⟩ ⟨q414, k1950, h1858, rw_ne h1858 h1851 (by decide)⟩ ⟨q481, k1951, h1859, rw_ne h1859 h1851 (by decide)⟩ ⟨q551, k1952, h1860, rw_ne h1860 h1851 (by decide)⟩ ⟨q624, k1953, h1861, rw_ne h1861 h1851 (by decide)⟩ ⟨q700, k1954, h1862, rw_ne h1862 h1851 (by decide)⟩ ⟨q779, k1955, h1863, rw_ne h1863 h1851 (by decide)⟩ ⟨q861, k1956, h1864, rw_ne h1864 h1851 (by decide)⟩ ⟨q946, k1957, h1865, rw_ne h1865 h1851 (by decide)⟩ ⟨q1034, k1958, h1866, rw_ne h1866 h1851 (by decide)⟩ ⟨q1125, k1959, h1867, rw_ne h1867 h1851 (by decide)⟩ ⟨q1219, k1960, h1868, rw_ne h1868 h1851 (by decide)⟩ ⟨q1316, k1961, h1869, rw_ne h1869 h1851 (by decide)⟩ ⟨q1416, k1962, h1870, rw_ne h1870 h1851 (by decide)⟩ ⟨q1519, k1963, h1871, rw_ne h1871 h1851 (by decide)⟩ ⟨q1625, k1964, h1872, rw_ne h1872 h1851 (by decide)⟩ ⟨q1734, k1965, h1873, rw_ne h1873 h1851 (by decide)⟩ ⟨q1848, k1966, h1918, rw_ne h1918 h1851 (by decide)⟩) (oTg_no (by decide))
  rw [← hQ]
  refine W.widen (k := 23) (n := 5973) (by decide) (by decide) ?_
  exact o_rI cx rx hw dX11_init_204 ⟨oX_da ox d9, (oD_q d9 h1851).2, k1924, k1925, k1926, k1927, k1928, k1942, k1943, k1929, k1930, k1931, k1932, k1933, k1934, k1935, k1936, k1937, k1938, k1939, k1940, k1941, ⟨q1734, q1848, k1965, k1966, fun j => congrFun k1922 j, fun j => congrFun k1923 j⟩⟩
end OM
