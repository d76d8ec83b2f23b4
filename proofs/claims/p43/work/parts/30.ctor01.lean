section OM
variable {l : Launch} {A : Nat → Prop} {L : List Nat} {τ : Nat → Nat} {cy : Nat → ClassId} {D : va_G} {K : (Nat → Nat) × (Nat → Nat)} {σ : oSt}
set_option maxHeartbeats 4000000 in
set_option maxRecDepth 100000 in
theorem c_X4_init (a0 : Nat) (ha0 : oA L τ a0 19) (hz : ∀ j, σ.1 j a0 = 0) (hzl : ∀ j, σ.2.1 j a0 = 0) : oMetI l A L τ cy D K yX4_init cX4_init 1 1 60 1 14 [.ref a0] σ (va_Qv (fun u : oW3 => oX L τ σ a0 u.1 u.2.1 u.2.2 ∧ u.2.1 a0 = 3 ∧ u.2.2.1 193 a0 = 0) (oPo3 A cy D) A) := by
  refine oMkI (by decide) (Nat.le_of_ble_eq_true rfl) rfl rfl ?_
  intro p e s m args below meth c ls cx rx hin hA hw hl
  generalize hQ : MQ below _ args s 1 14 A = Q
  have hx := cx.1.1
  have hb := cx.1.2.1
  have hml := cx.1.2.2.1
  have hown := cx.1.2.2.2.1
  have hts := cx.1.2.2.2.2
  have hl : lv_has ls 1 [(0, .ref a0)] := hl
  have k1 : σ.1 193 a0 = 0 := hz 193
  have ox : oX L τ σ a0 L τ σ := oX_rf
  refine lv_aload_n hx hb dX4_init_0 rfl (lv_at hl 0 rfl) ?_
  refine W.objInit hx hb hown (hts _ k_m_X4_1) (hts _ k_oi) (hts _ k_oc) rfl (by rw [hml]; exact hl.1) rfl dX4_init_1 (Nat.le_of_ble_eq_true rfl) (Nat.le_of_ble_eq_true rfl) ?_
  show W p l e _ s m args below meth c _ _ _ _ Q (F0 m 4 ls [])
  refine lv_aload_n hx hb dX4_init_4 rfl (lv_at hl 0 rfl) ?_
  refine lv_bipush (v := 14) hx hb dX4_init_5 (by decide) ?_
  refine o_newl cx hA hw 36 (by decide) (fun _ => rfl) rfl (by decide) (by decide) (by decide) (by decide) (by decide) dX4_init_7 (fun q2 L τ σ4 H g3 hw => ?_)
  have h5 : oA L τ a0 19 := oG_a g3 ha0
  have k6 : σ4.1 193 a0 = 0 := (oG_i g3 ha0).trans k1
  have h7 : oA L τ q2 36 := oG_q g3
  have n8 := oX_new ox g3
  have ox := oX_g ox g3
  refine o_putrF cx hw 3 0 rfl fiX4 tyX4 tyX4_ok nmX4 h5 (by decide) (by decide) rfl (by decide) rfl rfl rfl rfl hin rfl rfl k_f_X4_9 dX4_init_9 (fun σ10 H locs e9 hw => ?_)
  have k11 : σ10.1 193 a0 = 0 := (kp_r e9).trans k6
  have k12 : σ10.2.2.2.2 192 a0 = some q2 := kr_s e9
  have ox := oX_ra ox e9
  obtain ⟨τ9, d9⟩ : ∃ τ9, oD τ a0 3 τ9 := ⟨_, rfl⟩
  have hw := oD_I d9 hw h5 (Or.inl ⟨by decide, by decide, rfl⟩) (mb_3 (f := fun j => σ10.1 j a0) (kn_iv k11 ⟨by decide, by decide⟩)) (fun i => oRb_lo (by decide)) (tg_3 (P := fun j t2 => ∃ b, σ10.2.2.2.2 j a0 = some b ∧ oA L τ b t2 ∧ b ≠ a0) ⟨q2, k12, h7, rw_ne h7 h5 (by decide)⟩) (oTg_no (by decide))
  rw [← hQ]
  refine W.widen (k := 1) (n := 14) (by decide) (by decide) ?_
  exact o_rI cx rx hw dX4_init_12 ⟨oX_da ox d9, (oD_q d9 h5).2, k11⟩
end OM
