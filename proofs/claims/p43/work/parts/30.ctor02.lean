section OM
variable {l : Launch} {A : Nat → Prop} {L : List Nat} {τ : Nat → Nat} {cy : Nat → ClassId} {D : va_G} {K : (Nat → Nat) × (Nat → Nat)} {σ : oSt}
set_option maxHeartbeats 4000000 in
set_option maxRecDepth 100000 in
theorem c_X2_init (a0 : Nat) (ha0 : oA L τ a0 17) (hz : ∀ j, σ.1 j a0 = 0) (hzl : ∀ j, σ.2.1 j a0 = 0) : oMetI l A L τ cy D K yX2_init cX2_init 1 1 60 1 6 [.ref a0] σ (va_Qv (fun u : oW3 => oX L τ σ a0 u.1 u.2.1 u.2.2 ∧ u.2.1 a0 = 1 ∧ u.2.2.1 64 a0 = 0 ∧ u.2.2.1 65 a0 = 0 ∧ u.2.2.1 66 a0 = 0) (oPo3 A cy D) A) := by
  refine oMkI (by decide) (Nat.le_of_ble_eq_true rfl) rfl rfl ?_
  intro p e s m args below meth c ls cx rx hin hA hw hl
  generalize hQ : MQ below _ args s 1 6 A = Q
  have hx := cx.1.1
  have hb := cx.1.2.1
  have hml := cx.1.2.2.1
  have hown := cx.1.2.2.2.1
  have hts := cx.1.2.2.2.2
  have hl : lv_has ls 1 [(0, .ref a0)] := hl
  have k1 : σ.1 64 a0 = 0 := hz 64
  have k2 : σ.1 65 a0 = 0 := hz 65
  have k3 : σ.1 66 a0 = 0 := hz 66
  have ox : oX L τ σ a0 L τ σ := oX_rf
  refine lv_aload_n hx hb dX2_init_0 rfl (lv_at hl 0 rfl) ?_
  refine W.objInit hx hb hown (hts _ k_m_X2_3) (hts _ k_oi) (hts _ k_oc) rfl (by rw [hml]; exact hl.1) rfl dX2_init_1 (Nat.le_of_ble_eq_true rfl) (Nat.le_of_ble_eq_true rfl) ?_
  show W p l e _ s m args below meth c _ _ _ _ Q (F0 m 4 ls [])
  refine lv_aload_n hx hb dX2_init_4 rfl (lv_at hl 0 rfl) ?_
  refine lv_bipush (v := 6) hx hb dX2_init_5 (by decide) ?_
  refine o_newi cx hA hw 34 (by decide) (fun _ => rfl) (atype := .int) (ty := .int) rfl k_a_int rfl (fun _ => rfl) (by decide) (by decide) (fun _ => rfl) (by decide) (by decide) (by decide) (by decide) (by decide) dX2_init_7 (fun q4 L τ σ6 H g5 hw => ?_)
  have h7 : oA L τ a0 17 := oG_a g5 ha0
  have k8 : σ6.1 64 a0 = 0 := (oG_i g5 ha0).trans k1
  have k9 : σ6.1 65 a0 = 0 := (oG_i g5 ha0).trans k2
  have k10 : σ6.1 66 a0 = 0 := (oG_i g5 ha0).trans k3
  have h11 : oA L τ q4 34 := oG_q g5
  have n12 := oX_new ox g5
  have ox := oX_g ox g5
  refine o_putrF cx hw 1 3 rfl fiX2 tyX2 tyX2_ok nmX2 h7 (by decide) (by decide) rfl (by decide) rfl rfl rfl rfl hin rfl rfl k_f_X2_9 dX2_init_9 (fun σ14 H locs e13 hw => ?_)
  have k15 : σ14.1 64 a0 = 0 := (kp_r e13).trans k8
  have k16 : σ14.1 65 a0 = 0 := (kp_r e13).trans k9
  have k17 : σ14.1 66 a0 = 0 := (kp_r e13).trans k10
  have k18 : σ14.2.2.2.2 67 a0 = some q4 := kr_s e13
  have ox := oX_ra ox e13
  obtain ⟨τ9, d9⟩ : ∃ τ9, oD τ a0 1 τ9 := ⟨_, rfl⟩
  have hw := oD_I d9 hw h7 (Or.inl ⟨by decide, by decide, rfl⟩) (mb_1 (f := fun j => σ14.1 j a0) (kn_iv k15 ⟨by decide, by decide⟩) (kn_iv k16 ⟨by decide, by decide⟩) (kn_iv k17 ⟨by decide, by decide⟩)) (fun i => oRb_lo (by decide)) (tg_1 (P := fun j t2 => ∃ b, σ14.2.2.2.2 j a0 = some b ∧ oA L τ b t2 ∧ b ≠ a0) ⟨q4, k18, h11, rw_ne h11 h7 (by decide)⟩) (oTg_no (by decide))
  rw [← hQ]
  refine W.widen (k := 1) (n := 6) (by decide) (by decide) ?_
  exact o_rI cx rx hw dX2_init_12 ⟨oX_da ox d9, (oD_q d9 h7).2, k15, k16, k17⟩
end OM
