section OM
variable {l : Launch} {A : Nat → Prop} {L : List Nat} {τ : Nat → Nat} {cy : Nat → ClassId} {D : va_G} {K : (Nat → Nat) × (Nat → Nat)} {σ : oSt}
set_option maxHeartbeats 4000000 in
set_option maxRecDepth 100000 in
theorem c_X5_init (a0 : Nat) (ha0 : oA L τ a0 20) (hz : ∀ j, σ.1 j a0 = 0) (hzl : ∀ j, σ.2.1 j a0 = 0) : oMetI l A L τ cy D K yX5_init cX5_init 1 1 60 4 160 [.ref a0] σ (va_Qv (fun u : oW3 => oX L τ σ a0 u.1 u.2.1 u.2.2 ∧ u.2.1 a0 = 4 ∧ u.2.2.1 257 a0 = 0 ∧ u.2.2.1 259 a0 = 0 ∧ u.2.2.1 261 a0 = 0 ∧ u.2.2.1 263 a0 = 0 ∧ u.2.2.1 264 a0 = 0 ∧ u.2.2.1 265 a0 = 0) (oPo3 A cy D) A) := by
  refine oMkI (by decide) (Nat.le_of_ble_eq_true rfl) rfl rfl ?_
  intro p e s m args below meth c ls cx rx hin hA hw hl
  generalize hQ : MQ below _ args s 4 160 A = Q
  have hx := cx.1.1
  have hb := cx.1.2.1
  have hml := cx.1.2.2.1
  have hown := cx.1.2.2.2.1
  have hts := cx.1.2.2.2.2
  have hl : lv_has ls 1 [(0, .ref a0)] := hl
  have k1 : σ.1 257 a0 = 0 := hz 257
  have k2 : σ.1 259 a0 = 0 := hz 259
  have k3 : σ.1 261 a0 = 0 := hz 261
  have k4 : σ.1 263 a0 = 0 := hz 263
  have k5 : σ.1 264 a0 = 0 := hz 264
  have k6 : σ.1 265 a0 = 0 := hz 265
  have ox : oX L τ σ a0 L τ σ := oX_rf
  refine lv_aload_n hx hb dX5_init_0 rfl (lv_at hl 0 rfl) ?_
  refine W.objInit hx hb hown (hts _ k_m_X5_3) (hts _ k_oi) (hts _ k_oc) rfl (by rw [hml]; exact hl.1) rfl dX5_init_1 (Nat.le_of_ble_eq_true rfl) (Nat.le_of_ble_eq_true rfl) ?_
  show W p l e _ s m args below meth c _ _ _ _ Q (F0 m 4 ls [])
  refine lv_aload_n hx hb dX5_init_4 rfl (lv_at hl 0 rfl) ?_
  refine lv_bipush (v := 40) hx hb dX5_init_5 (by decide) ?_
  refine o_newi cx hA hw 37 (by decide) (fun _ => rfl) (atype := .int) (ty := .int) rfl k_a_int rfl (fun _ => rfl) (by decide) (by decide) (fun _ => rfl) (by decide) (by decide) (by decide) (by decide) (by decide) dX5_init_7 (fun q7 L τ σ9 H g8 hw => ?_)
  have h10 : oA L τ a0 20 := oG_a g8 ha0
  have k11 : σ9.1 257 a0 = 0 := (oG_i g8 ha0).trans k1
  have k12 : σ9.1 259 a0 = 0 := (oG_i g8 ha0).trans k2
  have k13 : σ9.1 261 a0 = 0 := (oG_i g8 ha0).trans k3
  have k14 : σ9.1 263 a0 = 0 := (oG_i g8 ha0).trans k4
  have k15 : σ9.1 264 a0 = 0 := (oG_i g8 ha0).trans k5
  have k16 : σ9.1 265 a0 = 0 := (oG_i g8 ha0).trans k6
  have h17 : oA L τ q7 37 := oG_q g8
  have n18 := oX_new ox g8
  have ox := oX_g ox g8
  refine o_putrF cx hw 4 0 rfl fiX5 tyX5 tyX5_ok nmX5 h10 (by decide) (by decide) rfl (by decide) rfl rfl rfl rfl hin rfl rfl k_f_X5_9 dX5_init_9 (fun σ20 H locs e19 hw => ?_)
  have k21 : σ20.1 257 a0 = 0 := (kp_r e19).trans k11
  have k22 : σ20.1 259 a0 = 0 := (kp_r e19).trans k12
  have k23 : σ20.1 261 a0 = 0 := (kp_r e19).trans k13
  have k24 : σ20.1 263 a0 = 0 := (kp_r e19).trans k14
  have k25 : σ20.1 264 a0 = 0 := (kp_r e19).trans k15
  have k26 : σ20.1 265 a0 = 0 := (kp_r e19).trans k16
  have k27 : σ20.2.2.2.2 256 a0 = some q7 := kr_s e19
  have ox := oX_ra ox e19
  refine lv_aload_n hx hb dX5_init_12 rfl (lv_at hl 0 rfl) ?_
  refine lv_bipush (v := 40) hx hb dX5_init_13 (by decide) ?_
  refine o_newi cx hA hw 37 (by decide) (fun _ => rfl) (atype := .int) (ty := .int) rfl k_a_int rfl (fun _ => rfl) (by decide) (by decide) (fun _ => rfl) (by decide) (by decide) (by decide) (by decide) (by decide) dX5_init_15 (fun q28 L τ σ30 H g29 hw => ?_)
  have h31 : oA L τ a0 20 := oG_a g29 h10
  have h32 : oA L τ q7 37 := oG_a g29 h17
  have k33 : σ30.1 257 a0 = 0 := (oG_i g29 h10).trans k21
  have k34 : σ30.1 259 a0 = 0 := (oG_i g29 h10).trans k22
  have k35 : σ30.1 261 a0 = 0 := (oG_i g29 h10).trans k23
  have k36 : σ30.1 263 a0 = 0 := (oG_i g29 h10).trans k24
  have k37 : σ30.1 264 a0 = 0 := (oG_i g29 h10).trans k25
  have k38 : σ30.1 265 a0 = 0 := (oG_i g29 h10).trans k26
  have k39 : σ30.2.2.2.2 256 a0 = some q7 := (oG_r g29 h10).trans k27
  have h40 : oA L τ q28 37 := oG_q g29
  have n41 := oX_new ox g29
  have ox := oX_g ox g29
  refine o_putrF cx hw 4 2 rfl fiX5 tyX5 tyX5_ok nmX5 h31 (by decide) (by decide) rfl (by decide) rfl rfl rfl rfl hin rfl rfl k_f_X5_15 dX5_init_17 (fun σ43 H locs e42 hw => ?_)
  have k44 : σ43.1 257 a0 = 0 := (kp_r e42).trans k33
  have k45 : σ43.1 259 a0 = 0 := (kp_r e42).trans k34
  have k46 : σ43.1 261 a0 = 0 := (kp_r e42).trans k35
  have k47 : σ43.1 263 a0 = 0 := (kp_r e42).trans k36
  have k48 : σ43.1 264 a0 = 0 := (kp_r e42).trans k37
  have k49 : σ43.1 265 a0 = 0 := (kp_r e42).trans k38
  have k50 : σ43.2.2.2.2 256 a0 = some q7 := (kr_r e42 (by decide)).trans k39
  have k51 : σ43.2.2.2.2 258 a0 = some q28 := kr_s e42
  have ox := oX_ra ox e42
  refine lv_aload_n hx hb dX5_init_20 rfl (lv_at hl 0 rfl) ?_
  refine lv_bipush (v := 40) hx hb dX5_init_21 (by decide) ?_
  refine o_newi cx hA hw 37 (by decide) (fun _ => rfl) (atype := .int) (ty := .int) rfl k_a_int rfl (fun _ => rfl) (by decide) (by decide) (fun _ => rfl) (by decide) (by decide) (by decide) (by decide) (by decide) dX5_init_23 (fun q52 L τ σ54 H g53 hw => ?_)
  have h55 : oA L τ a0 20 := oG_a g53 h31
  have h56 : oA L τ q7 37 := oG_a g53 h32
  have h57 : oA L τ q28 37 := oG_a g53 h40
  have k58 : σ54.1 257 a0 = 0 := (oG_i g53 h31).trans k44
  have k59 : σ54.1 259 a0 = 0 := (oG_i g53 h31).trans k45
  have k60 : σ54.1 261 a0 = 0 := (oG_i g53 h31).trans k46
  have k61 : σ54.1 263 a0 = 0 := (oG_i g53 h31).trans k47
  have k62 : σ54.1 264 a0 = 0 := (oG_i g53 h31).trans k48
  have k63 : σ54.1 265 a0 = 0 := (oG_i g53 h31).trans k49
  have k64 : σ54.2.2.2.2 256 a0 = some q7 := (oG_r g53 h31).trans k50
  have k65 : σ54.2.2.2.2 258 a0 = some q28 := (oG_r g53 h31).trans k51
  have h66 : oA L τ q52 37 := oG_q g53
  have n67 := oX_new ox g53
  have ox := oX_g ox g53
  refine o_putrF cx hw 4 4 rfl fiX5 tyX5 tyX5_ok nmX5 h55 (by decide) (by decide) rfl (by decide) rfl rfl rfl rfl hin rfl rfl k_f_X5_18 dX5_init_25 (fun σ69 H locs e68 hw => ?_)
  have k70 : σ69.1 257 a0 = 0 := (kp_r e68).trans k58
  have k71 : σ69.1 259 a0 = 0 := (kp_r e68).trans k59
  have k72 : σ69.1 261 a0 = 0 := (kp_r e68).trans k60
  have k73 : σ69.1 263 a0 = 0 := (kp_r e68).trans k61
  have k74 : σ69.1 264 a0 = 0 := (kp_r e68).trans k62
  have k75 : σ69.1 265 a0 = 0 := (kp_r e68).trans k63
  have k76 : σ69.2.2.2.2 256 a0 = some q7 := (kr_r e68 (by decide)).trans k64
  have k77 : σ69.2.2.2.2 258 a0 = some q28 := (kr_r e68 (by decide)).trans k65
  have k78 : σ69.2.2.2.2 260 a0 = some q52 := kr_s e68
  have ox := oX_ra ox e68
  refine lv_aload_n hx hb dX5_init_28 rfl (lv_at hl 0 rfl) ?_
  refine lv_bipush (v := 40) hx hb dX5_init_29 (by decide) ?_
  refine o_newi cx hA hw 37 (by decide) (fun _ => rfl) (atype := .int) (ty := .int) rfl k_a_int rfl (fun _ => rfl) (by decide) (by decide) (fun _ => rfl) (by decide) (by decide) (by decide) (by decide) (by decide) dX5_init_31 (fun q79 L τ σ81 H g80 hw => ?_)
  have h82 : oA L τ a0 20 := oG_a g80 h55
  have h83 : oA L τ q7 37 := oG_a g80 h56
  have h84 : oA L τ q28 37 := oG_a g80 h57
  have h85 : oA L τ q52 37 := oG_a g80 h66
  have k86 : σ81.1 257 a0 = 0 := (oG_i g80 h55).trans k70
  have k87 : σ81.1 259 a0 = 0 := (oG_i g80 h55).trans k71
  have k88 : σ81.1 261 a0 = 0 := (oG_i g80 h55).trans k72
  have k89 : σ81.1 263 a0 = 0 := (oG_i g80 h55).trans k73
  have k90 : σ81.1 264 a0 = 0 := (oG_i g80 h55).trans k74
  have k91 : σ81.1 265 a0 = 0 := (oG_i g80 h55).trans k75
  have k92 : σ81.2.2.2.2 256 a0 = some q7 := (oG_r g80 h55).trans k76
  have k93 : σ81.2.2.2.2 258 a0 = some q28 := (oG_r g80 h55).trans k77
  have k94 : σ81.2.2.2.2 260 a0 = some q52 := (oG_r g80 h55).trans k78
  have h95 : oA L τ q79 37 := oG_q g80
  have n96 := oX_new ox g80
  have ox := oX_g ox g80
  refine o_putrF cx hw 4 6 rfl fiX5 tyX5 tyX5_ok nmX5 h82 (by decide) (by decide) rfl (by decide) rfl rfl rfl rfl hin rfl rfl k_f_X5_21 dX5_init_33 (fun σ98 H locs e97 hw => ?_)
  have k99 : σ98.1 257 a0 = 0 := (kp_r e97).trans k86
  have k100 : σ98.1 259 a0 = 0 := (kp_r e97).trans k87
  have k101 : σ98.1 261 a0 = 0 := (kp_r e97).trans k88
  have k102 : σ98.1 263 a0 = 0 := (kp_r e97).trans k89
  have k103 : σ98.1 264 a0 = 0 := (kp_r e97).trans k90
  have k104 : σ98.1 265 a0 = 0 := (kp_r e97).trans k91
  have k105 : σ98.2.2.2.2 256 a0 = some q7 := (kr_r e97 (by decide)).trans k92
  have k106 : σ98.2.2.2.2 258 a0 = some q28 := (kr_r e97 (by decide)).trans k93
  have k107 : σ98.2.2.2.2 260 a0 = some q52 := (kr_r e97 (by decide)).trans k94
  have k108 : σ98.2.2.2.2 262 a0 = some q79 := kr_s e97
  have ox := oX_ra ox e97
  obtain ⟨τ9, d9⟩ : ∃ τ9, oD τ a0 4 τ9 := ⟨_, rfl⟩
  have hw := oD_I d9 hw h82 (Or.inl ⟨by decide, by decide, rfl⟩) (mb_4 (f := fun j => σ98.1 j a0) (kn_iv k99 ⟨by decide, by decide⟩) (kn_iv k100 ⟨by decide, by decide⟩) (kn_iv k101 ⟨by decide, by decide⟩)) (fun i => oRb_lo (by decide)) (tg_4 (P := fun j t2 => ∃ b, σ98.2.2.2.2 j a0 = some b ∧ oA L τ b t2 ∧ b ≠ a0) ⟨q7, k105, h83, rw_ne h83 h82 (by decide)⟩ ⟨q28, k106, h84, rw_ne h84 h82 (by decide)⟩ ⟨q52, k107, h85, rw_ne h85 h82 (by decide)⟩ ⟨q79, k108, h95, rw_ne h95 h82 (by decide)⟩) (oTg_no (by decide))
  rw [← hQ]
  refine W.widen (k := 4) (n := 160) (by decide) (by decide) ?_
  exact o_rI cx rx hw dX5_init_36 ⟨oX_da ox d9, (oD_q d9 h82).2, k99, k100, k101, k102, k103, k104⟩
end OM
