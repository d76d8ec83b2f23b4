section OM
variable {l : Launch} {A : Nat → Prop} {L : List Nat} {τ : Nat → Nat} {cy : Nat → ClassId} {D : va_G} {K : (Nat → Nat) × (Nat → Nat)} {σ : oSt}
set_option maxHeartbeats 4000000 in
set_option maxRecDepth 100000 in
theorem c_X7_init (a0 : Nat) (ha0 : oA L τ a0 22) (hz : ∀ j, σ.1 j a0 = 0) (hzl : ∀ j, σ.2.1 j a0 = 0) : oMetI l A L τ cy D K yX7_init cX7_init 1 1 60 1 80 [.ref a0] σ (va_Qv (fun u : oW3 => oX L τ σ a0 u.1 u.2.1 u.2.2 ∧ u.2.1 a0 = 6 ∧ u.2.2.1 385 a0 = 0 ∧ u.2.2.1 386 a0 = 0 ∧ u.2.2.1 387 a0 = 80) (oPo3 A cy D) A) := by
  refine oMkI (by decide) (Nat.le_of_ble_eq_true rfl) rfl rfl ?_
  intro p e s m args below meth c ls cx rx hin hA hw hl
  generalize hQ : MQ below _ args s 1 80 A = Q
  have hx := cx.1.1
  have hb := cx.1.2.1
  have hml := cx.1.2.2.1
  have hown := cx.1.2.2.2.1
  have hts := cx.1.2.2.2.2
  have hl : lv_has ls 1 [(0, .ref a0)] := hl
  have k1 : σ.1 385 a0 = 0 := hz 385
  have k2 : σ.1 386 a0 = 0 := hz 386
  have k3 : σ.1 387 a0 = 0 := hz 387
  have ox : oX L τ σ a0 L τ σ := oX_rf
  refine lv_aload_n hx hb dX7_init_0 rfl (lv_at hl 0 rfl) ?_
  refine W.objInit hx hb hown (hts _ k_m_X7_3) (hts _ k_oi) (hts _ k_oc) rfl (by rw [hml]; exact hl.1) rfl dX7_init_1 (Nat.le_of_ble_eq_true rfl) (Nat.le_of_ble_eq_true rfl) ?_
  show W p l e _ s m args below meth c _ _ _ _ Q (F0 m 4 ls [])
  refine lv_aload_n hx hb dX7_init_4 rfl (lv_at hl 0 rfl) ?_
  refine lv_bipush (v := 80) hx hb dX7_init_5 (by decide) ?_
  refine o_newi cx hA hw 35 (by decide) (fun _ => rfl) (atype := .char) (ty := .char) rfl k_a_char rfl (fun _ => rfl) (by decide) (by decide) (fun _ => rfl) (by decide) (by decide) (by decide) (by decide) (by decide) dX7_init_7 (fun q4 L τ σ6 H g5 hw => ?_)
  have h7 : oA L τ a0 22 := oG_a g5 ha0
  have k8 : σ6.1 385 a0 = 0 := (oG_i g5 ha0).trans k1
  have k9 : σ6.1 386 a0 = 0 := (oG_i g5 ha0).trans k2
  have k10 : σ6.1 387 a0 = 0 := (oG_i g5 ha0).trans k3
  have h11 : oA L τ q4 35 := oG_q g5
  have n12 := oX_new ox g5
  have ox := oX_g ox g5
  refine o_putrF cx hw 6 0 rfl fiX7 tyX7 tyX7_ok nmX7 h7 (by decide) (by decide) rfl (by decide) rfl rfl rfl rfl hin rfl rfl k_f_X7_11 dX7_init_9 (fun σ14 H locs e13 hw => ?_)
  have k15 : σ14.1 385 a0 = 0 := (kp_r e13).trans k8
  have k16 : σ14.1 386 a0 = 0 := (kp_r e13).trans k9
  have k17 : σ14.1 387 a0 = 0 := (kp_r e13).trans k10
  have k18 : σ14.2.2.2.2 384 a0 = some q4 := kr_s e13
  have ox := oX_ra ox e13
  refine lv_aload_n hx hb dX7_init_12 rfl (lv_at hl 0 rfl) ?_
  refine lv_bipush (v := 80) hx hb dX7_init_13 (by decide) ?_
  refine o_puti (v := 80) cx hw 6 3 rfl fiX7 tyX7 tyX7_ok nmX7 h7 (by decide) rfl (by decide) rfl rfl rfl rfl rfl (by decide) (fun h => absurd h (by decide)) k_f_X7_15 dX7_init_15 (fun σ20 H locs e19 hw => ?_)
  have k21 : σ20.1 385 a0 = 0 := (kp_i e19 (by decide)).trans k15
  have k22 : σ20.1 386 a0 = 0 := (kp_i e19 (by decide)).trans k16
  have k23 : σ20.2.2.2.2 384 a0 = some q4 := (kr_i e19).trans k18
  have k24 : σ20.1 387 a0 = 80 := kp_s e19
  have ox := oX_i ox e19
  obtain ⟨τ9, d9⟩ : ∃ τ9, oD τ a0 6 τ9 := ⟨_, rfl⟩
  have hw := oD_I d9 hw h7 (Or.inl ⟨by decide, by decide, rfl⟩) (mb_6 (f := fun j => σ20.1 j a0) (kn_iv k21 ⟨by decide, by decide⟩)) (fun i => oRb_lo (by decide)) (tg_6 (P := fun j t2 => ∃ b, σ20.2.2.2.2 j a0 = some b ∧ oA L τ b t2 ∧ b ≠ a0) ⟨q4, k23, h11, rw_ne h11 h7 (by decide)⟩) (oTg_no (by decide))
  rw [← hQ]
  refine W.widen (k := 1) (n := 80) (by decide) (by decide) ?_
  exact o_rI cx rx hw dX7_init_18 ⟨oX_da ox d9, (oD_q d9 h7).2, k21, k22, k24⟩
end OM
