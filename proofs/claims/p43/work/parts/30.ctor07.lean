section OM
variable {l : Launch} {A : Nat → Prop} {L : List Nat} {τ : Nat → Nat} {cy : Nat → ClassId} {D : va_G} {K : (Nat → Nat) × (Nat → Nat)} {σ : oSt}
set_option maxHeartbeats 4000000 in
set_option maxRecDepth 100000 in
theorem c_X8_init (a0 : Nat) (ha0 : oA L τ a0 23) (hz : ∀ j, σ.1 j a0 = 0) (hzl : ∀ j, σ.2.1 j a0 = 0) : oMetI l A L τ cy D K yX8_init cX8_init 1 1 60 3 192 [.ref a0] σ (va_Qv (fun u : oW3 => oX L τ σ a0 u.1 u.2.1 u.2.2 ∧ u.2.1 a0 = 7) (oPo3 A cy D) A) := by
  refine oMkI (by decide) (Nat.le_of_ble_eq_true rfl) rfl rfl ?_
  intro p e s m args below meth c ls cx rx hin hA hw hl
  generalize hQ : MQ below _ args s 3 192 A = Q
  have hx := cx.1.1
  have hb := cx.1.2.1
  have hml := cx.1.2.2.1
  have hown := cx.1.2.2.2.1
  have hts := cx.1.2.2.2.2
  have hl : lv_has ls 1 [(0, .ref a0)] := hl
  have ox : oX L τ σ a0 L τ σ := oX_rf
  refine lv_aload_n hx hb dX8_init_0 rfl (lv_at hl 0 rfl) ?_
  refine W.objInit hx hb hown (hts _ k_m_X8_3) (hts _ k_oi) (hts _ k_oc) rfl (by rw [hml]; exact hl.1) rfl dX8_init_1 (Nat.le_of_ble_eq_true rfl) (Nat.le_of_ble_eq_true rfl) ?_
  show W p l e _ s m args below meth c _ _ _ _ Q (F0 m 4 ls [])
  refine lv_aload_n hx hb dX8_init_4 rfl (lv_at hl 0 rfl) ?_
  refine lv_bipush (v := 64) hx hb dX8_init_5 (by decide) ?_
  refine o_newi cx hA hw 32 (by decide) (fun _ => rfl) (atype := .int) (ty := .int) rfl k_a_int rfl (fun _ => rfl) (by decide) (by decide) (fun _ => rfl) (by decide) (by decide) (by decide) (by decide) (by decide) dX8_init_7 (fun q1 L τ σ3 H g2 hw => ?_)
  have h4 : oA L τ a0 23 := oG_a g2 ha0
  have h5 : oA L τ q1 32 := oG_q g2
  have n6 := oX_new ox g2
  have ox := oX_g ox g2
  refine o_putrF cx hw 7 0 rfl fiX8 tyX8 tyX8_ok nmX8 h4 (by decide) (by decide) rfl (by decide) rfl rfl rfl rfl hin rfl rfl k_f_X8_9 dX8_init_9 (fun σ8 H locs e7 hw => ?_)
  have k9 : σ8.2.2.2.2 448 a0 = some q1 := kr_s e7
  have ox := oX_ra ox e7
  refine lv_aload_n hx hb dX8_init_12 rfl (lv_at hl 0 rfl) ?_
  refine lv_bipush (v := 64) hx hb dX8_init_13 (by decide) ?_
  refine o_newl cx hA hw 39 (by decide) (fun _ => rfl) rfl (by decide) (by decide) (by decide) (by decide) (by decide) dX8_init_15 (fun q10 L τ σ12 H g11 hw => ?_)
  have h13 : oA L τ a0 23 := oG_a g11 h4
  have h14 : oA L τ q1 32 := oG_a g11 h5
  have k15 : σ12.2.2.2.2 448 a0 = some q1 := (oG_r g11 h4).trans k9
  have h16 : oA L τ q10 39 := oG_q g11
  have n17 := oX_new ox g11
  have ox := oX_g ox g11
  refine o_putrF cx hw 7 1 rfl fiX8 tyX8 tyX8_ok nmX8 h13 (by decide) (by decide) rfl (by decide) rfl rfl rfl rfl hin rfl rfl k_f_X8_15 dX8_init_17 (fun σ19 H locs e18 hw => ?_)
  have k20 : σ19.2.2.2.2 448 a0 = some q1 := (kr_r e18 (by decide)).trans k15
  have k21 : σ19.2.2.2.2 449 a0 = some q10 := kr_s e18
  have ox := oX_ra ox e18
  refine lv_aload_n hx hb dX8_init_20 rfl (lv_at hl 0 rfl) ?_
  refine lv_bipush (v := 64) hx hb dX8_init_21 (by decide) ?_
  refine o_newl cx hA hw 39 (by decide) (fun _ => rfl) rfl (by decide) (by decide) (by decide) (by decide) (by decide) dX8_init_23 (fun q22 L τ σ24 H g23 hw => ?_)
  have h25 : oA L τ a0 23 := oG_a g23 h13
  have h26 : oA L τ q1 32 := oG_a g23 h14
  have h27 : oA L τ q10 39 := oG_a g23 h16
  have k28 : σ24.2.2.2.2 448 a0 = some q1 := (oG_r g23 h13).trans k20
  have k29 : σ24.2.2.2.2 449 a0 = some q10 := (oG_r g23 h13).trans k21
  have h30 : oA L τ q22 39 := oG_q g23
  have n31 := oX_new ox g23
  have ox := oX_g ox g23
  refine o_putrF cx hw 7 2 rfl fiX8 tyX8 tyX8_ok nmX8 h25 (by decide) (by decide) rfl (by decide) rfl rfl rfl rfl hin rfl rfl k_f_X8_19 dX8_init_25 (fun σ33 H locs e32 hw => ?_)
  have k34 : σ33.2.2.2.2 448 a0 = some q1 := (kr_r e32 (by decide)).trans k28
  have k35 : σ33.2.2.2.2 449 a0 = some q10 := (kr_r e32 (by decide)).trans k29
  have k36 : σ33.2.2.2.2 450 a0 = some q22 := kr_s e32
  have ox := oX_ra ox e32
  obtain ⟨τ9, d9⟩ : ∃ τ9, oD τ a0 7 τ9 := ⟨_, rfl⟩
  have hw := oD_I d9 hw h25 (Or.inl ⟨by decide, by decide, rfl⟩) (mb_7 (f := fun j => σ33.1 j a0) ) (fun i => oRb_lo (by decide)) (tg_7 (P := fun j t2 => ∃ b, σ33.2.2.2.2 j a0 = some b ∧ oA L τ b t2 ∧ b ≠ a0) ⟨q1, k34, h26, rw_ne h26 h25 (by decide)⟩ ⟨q10, k35, h27, rw_ne h27 h25 (by decide)⟩ ⟨q22, k36, h30, rw_ne h30 h25 (by decide)⟩) (oTg_no (by decide))
  rw [← hQ]
  refine W.widen (k := 3) (n := 192) (by decide) (by decide) ?_
  exact o_rI cx rx hw dX8_init_28 ⟨oX_da ox d9, (oD_q d9 h25).2⟩
end OM
