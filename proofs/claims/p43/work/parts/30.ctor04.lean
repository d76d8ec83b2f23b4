section OM
variable {l : Launch} {A : Nat → Prop} {L : List Nat} {τ : Nat → Nat} {cy : Nat → ClassId} {D : va_G} {K : (Nat → Nat) × (Nat → Nat)} {σ : oSt}
set_option maxHeartbeats 4000000 in
set_option maxRecDepth 100000 in
theorem c_X9_init (a0 : Nat) (ha0 : oA L τ a0 24) (hz : ∀ j, σ.1 j a0 = 0) (hzl : ∀ j, σ.2.1 j a0 = 0) (a1 : Nat) (ha1 : oA L τ a1 1) (a2 : Nat) (ha2 : oA L τ a2 4) : oMetI l A L τ cy D K yX9_init cX9_init 3 1 60 1 9 [.ref a0, .ref a1, .ref a2] σ (va_Qv (fun u : oW3 => oX L τ σ a0 u.1 u.2.1 u.2.2 ∧ u.2.1 a0 = 8 ∧ u.2.2.1 514 a0 = 12 ∧ u.2.2.1 515 a0 = 6) (oPo3 A cy D) A) := by
  refine oMkI (by decide) (Nat.le_of_ble_eq_true rfl) rfl rfl ?_
  intro p e s m args below meth c ls cx rx hin hA hw hl
  generalize hQ : MQ below _ args s 1 9 A = Q
  have hx := cx.1.1
  have hb := cx.1.2.1
  have hml := cx.1.2.2.1
  have hown := cx.1.2.2.2.1
  have hts := cx.1.2.2.2.2
  have hl : lv_has ls 3 [(0, .ref a0), (1, .ref a1), (2, .ref a2)] := hl
  have k1 : σ.1 514 a0 = 0 := hz 514
  have k2 : σ.1 515 a0 = 0 := hz 515
  have ox : oX L τ σ a0 L τ σ := oX_rf
  refine lv_aload_n hx hb dX9_init_0 rfl (lv_at hl 0 rfl) ?_
  refine W.objInit hx hb hown (hts _ k_m_X9_3) (hts _ k_oi) (hts _ k_oc) rfl (by rw [hml]; exact hl.1) rfl dX9_init_1 (Nat.le_of_ble_eq_true rfl) (Nat.le_of_ble_eq_true rfl) ?_
  show W p l e _ s m args below meth c _ _ _ _ Q (F0 m 4 ls [])
  refine lv_aload_n hx hb dX9_init_4 rfl (lv_at hl 0 rfl) ?_
  refine lv_bipush (v := 12) hx hb dX9_init_5 (by decide) ?_
  refine o_puti (v := 12) cx hw 8 2 rfl fiX9 tyX9 tyX9_ok nmX9 ha0 (by decide) rfl (by decide) rfl rfl rfl rfl rfl (by decide) (fun h => absurd h (by decide)) k_f_X9_9 dX9_init_7 (fun σ4 H locs e3 hw => ?_)
  have k5 : σ4.1 515 a0 = 0 := (kp_i e3 (by decide)).trans k2
  have k6 : σ4.1 514 a0 = 12 := kp_s e3
  have ox := oX_i ox e3
  refine lv_aload_n hx hb dX9_init_10 rfl (lv_at hl 0 rfl) ?_
  refine lv_bipush (v := 6) hx hb dX9_init_11 (by decide) ?_
  refine o_puti (v := 6) cx hw 8 3 rfl fiX9 tyX9 tyX9_ok nmX9 ha0 (by decide) rfl (by decide) rfl rfl rfl rfl rfl (by decide) (fun h => absurd h (by decide)) k_f_X9_15 dX9_init_13 (fun σ8 H locs e7 hw => ?_)
  have k9 : σ8.1 514 a0 = 12 := (kp_i e7 (by decide)).trans k6
  have k10 : σ8.1 515 a0 = 6 := kp_s e7
  have ox := oX_i ox e7
  refine lv_aload_n hx hb dX9_init_16 rfl (lv_at hl 0 rfl) ?_
  refine lv_bipush (v := 9) hx hb dX9_init_17 (by decide) ?_
  refine o_newi cx hA hw 38 (by decide) (fun _ => rfl) (atype := .int) (ty := .int) rfl k_a_int rfl (fun _ => rfl) (by decide) (by decide) (fun _ => rfl) (by decide) (by decide) (by decide) (by decide) (by decide) dX9_init_19 (fun q11 L τ σ13 H g12 hw => ?_)
  have h14 : oA L τ a0 24 := oG_a g12 ha0
  have h15 : oA L τ a1 1 := oG_a g12 ha1
  have h16 : oA L τ a2 4 := oG_a g12 ha2
  have k17 : σ13.1 514 a0 = 12 := (oG_i g12 ha0).trans k9
  have k18 : σ13.1 515 a0 = 6 := (oG_i g12 ha0).trans k10
  have h19 : oA L τ q11 38 := oG_q g12
  have n20 := oX_new ox g12
  have ox := oX_g ox g12
  refine o_putrF cx hw 8 4 rfl fiX9 tyX9 tyX9_ok nmX9 h14 (by decide) (by decide) rfl (by decide) rfl rfl rfl rfl hin rfl rfl k_f_X9_20 dX9_init_21 (fun σ22 H locs e21 hw => ?_)
  have k23 : σ22.1 514 a0 = 12 := (kp_r e21).trans k17
  have k24 : σ22.1 515 a0 = 6 := (kp_r e21).trans k18
  have k25 : σ22.2.2.2.2 516 a0 = some q11 := kr_s e21
  have ox := oX_ra ox e21
  refine lv_aload_n hx hb dX9_init_24 rfl (lv_at hl 0 rfl) ?_
  refine lv_aload_n hx hb dX9_init_25 rfl (lv_at hl 1 rfl) ?_
  refine o_putrF cx hw 8 0 rfl fiX9 tyX9 tyX9_ok nmX9 h14 (by decide) (by decide) rfl (by decide) rfl rfl rfl rfl hin rfl rfl k_f_X9_24 dX9_init_26 (fun σ27 H locs e26 hw => ?_)
  have k28 : σ27.1 514 a0 = 12 := (kp_r e26).trans k23
  have k29 : σ27.1 515 a0 = 6 := (kp_r e26).trans k24
  have k30 : σ27.2.2.2.2 516 a0 = some q11 := (kr_r e26 (by decide)).trans k25
  have k31 : σ27.2.2.2.2 512 a0 = some a1 := kr_s e26
  have ox := oX_ra ox e26
  refine lv_aload_n hx hb dX9_init_29 rfl (lv_at hl 0 rfl) ?_
  refine lv_aload_n hx hb dX9_init_30 rfl (lv_at hl 2 rfl) ?_
  refine o_putrF cx hw 8 1 rfl fiX9 tyX9 tyX9_ok nmX9 h14 (by decide) (by decide) rfl (by decide) rfl rfl rfl rfl hin rfl rfl k_f_X9_28 dX9_init_31 (fun σ33 H locs e32 hw => ?_)
  have k34 : σ33.1 514 a0 = 12 := (kp_r e32).trans k28
  have k35 : σ33.1 515 a0 = 6 := (kp_r e32).trans k29
  have k36 : σ33.2.2.2.2 516 a0 = some q11 := (kr_r e32 (by decide)).trans k30
  have k37 : σ33.2.2.2.2 512 a0 = some a1 := (kr_r e32 (by decide)).trans k31
  have k38 : σ33.2.2.2.2 513 a0 = some a2 := kr_s e32
  have ox := oX_ra ox e32
  obtain ⟨τ9, d9⟩ : ∃ τ9, oD τ a0 8 τ9 := ⟨_, rfl⟩
  have hw := oD_I d9 hw h14 (Or.inl ⟨by decide, by decide, rfl⟩) (mb_8 (f := fun j => σ33.1 j a0) ) (fun i => oRb_lo (by decide)) (tg_8 (P := fun j t2 => ∃ b, σ33.2.2.2.2 j a0 = some b ∧ oA L τ b t2 ∧ b ≠ a0) ⟨a1, k37, h15, rw_ne h15 h14 (by decide)⟩ ⟨a2, k38, h16, rw_ne h16 h14 (by decide)⟩ ⟨q11, k36, h19, rw_ne h19 h14 (by decide)⟩) (oTg_no (by decide))
  rw [← hQ]
  refine W.widen (k := 1) (n := 9) (by decide) (by decide) ?_
  exact o_rI cx rx hw dX9_init_34 ⟨oX_da ox d9, (oD_q d9 h14).2, k34, k35⟩
end OM
