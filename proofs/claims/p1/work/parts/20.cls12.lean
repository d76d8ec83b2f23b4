section OM
variable {l : Launch} {A : Nat → Prop} {L : List Nat} {τ : Nat → Nat} {cy : Nat → ClassId} {D : va_G} {K : (Nat → Nat) × (Nat → Nat)} {σ : oSt}
abbrev fs_X11_row : List Nat := [658]
abbrev ts_X11_row : List Nat := []
set_option maxHeartbeats 4000000 in
set_option maxRecDepth 100000 in
theorem c_X11_row (a0 : Nat) (ha0 : oA L τ a0 10) (a1 : Int32) : oMet l A L τ cy D K yX11_row cX11_row 2 (some .long) 1 22 [.ref a0, .int a1] σ (va_Ql (fun r σ1 => oFr τ fs_X11_row ts_X11_row σ σ1) (oPo A L τ cy D) A) := by
  refine oMk (by decide) (Nat.le_of_ble_eq_true rfl) rfl ?_
  intro p e s m args below meth c ls cx rx hA hw hl
  generalize hQ : MQ below _ args s 0 0 A = Q
  have hx := cx.1.1
  have hb := cx.1.2.1
  have hml := cx.1.2.2.1
  have hown := cx.1.2.2.2.1
  have hts := cx.1.2.2.2.2
  have hl : lv_has ls 2 [(0, .ref a0), (1, .int a1)] := hl
  have fr : oFr τ fs_X11_row ts_X11_row σ σ := oFr_rf
  refine lv_aload_n hx hb dX11_row_0 rfl (lv_at hl 0 rfl) ?_
  refine lv_iconst (v := 0) hx hb dX11_row_1 (by decide) ?_
  refine p_658 cx hw ha0 k_f_X11_89 dX11_row_2 (fun σ1 H locs eσ1 hw => ?_)
  have fr := oFr_i fr eσ1 (by decide)
  refine lv_iload_n hx hb dX11_row_5 rfl (lv_at hl 1 rfl) ?_
  refine lv_iconst (v := 0) hx hb dX11_row_6 (by decide) ?_
  refine lv_aload_n hx hb dX11_row_7 rfl (lv_at hl 0 rfl) ?_
  refine g_657 cx hw ha0 k_f_X11_92 dX11_row_8 (fun v2 e2 i2 => ?_)
  refine lv_iconst (v := 1) hx hb dX11_row_11 (by decide) ?_
  refine lv_isub hx hb dX11_row_12 ?_
  refine lv_topi (fun v3 e3 => ?_)
  have i3 : Iv v3 (-1) 19 := iv_sub e3 i2 (⟨by decide, by decide⟩ : Iv 1 1 1) (by decide)
  have x3 : v3.toInt = v2.toInt + (-1) := ex_sub e3 i2 (⟨by decide, by decide⟩ : Iv 1 1 1) (by decide)
  refine o_ci hw (oRunS cx hA hw q_X11_in k_m_X11_95 (As := [.int a1, .int 0, .int v3]) (c_X11_in a1 0 v3) (by decide) rfl hl.1 rfl (Nat.le_of_ble_eq_true rfl) dX11_row_13 (by decide)) (fun v5 σ4 H locs hp hw => ?_)
  obtain ⟨p5_0, p5_1, p5_2⟩ := hp
  rw [p5_0] at hw
  refine lv_if_eq (tgt := 28) hx hb dX11_row_16 (by decide) (fun c6 => ?_) (fun c6 => ?_)
  · --
    have i7 : Iv v5 0 0 := iv_eq1 c6 p5_1 (⟨by decide, by decide⟩ : Iv 0 0 0) (by decide)
    refine lv_aload_n hx hb dX11_row_28 rfl (lv_at hl 0 rfl) ?_
    refine o_ci hw (oRunV cx hA hw q_X11_lost k_m_X11_230 rfl ha0 (by decide) (As := []) (c_X11_lost a0 ha0) (by decide) rfl hl.1 rfl (Nat.le_of_ble_eq_true rfl) dX11_row_29 (by decide)) (fun v9 σ8 H locs hp hw => ?_)
    obtain ⟨p9_0, p9_1⟩ := hp
    have fr := oFr_tr fr p9_0 (by decide)
    refine lv_i2l hx hb dX11_row_32 rfl ?_
    refine lv_topl (fun v10 e10 => ?_)
    rw [← hQ]
    exact o_rl cx rx hw dX11_row_33 fr
  · --
    have i11 : Iv v5 1 1 := iv_ne1 c6 p5_1 (⟨by decide, by decide⟩ : Iv 0 0 0) (by decide)
    have l12 : a1.toInt ≤ v3.toInt + 0 := le_of (p5_2 c6).2
    have i13 : Iv a1 0 19 := (fun h => iv_rel (p5_2 h) (⟨by decide, by decide⟩ : Iv 0 0 0) i3) c6
    refine lv_aload_n hx hb dX11_row_19 rfl (lv_at hl 0 rfl) ?_
    refine g_656 cx hw ha0 k_f_X11_36 dX11_row_20 (fun v14 e14 h14 => ?_)
    refine lv_iload_n hx hb dX11_row_23 rfl (lv_at hl 1 rfl) ?_
    refine o_lald cx hw h14 (by decide) rfl (iv_in i13 (by decide)) dX11_row_24 (fun v15 e15 => ?_)
    refine lv_goto (tgt := 33) hx hb dX11_row_25 (by decide) ?_
    rw [← hQ]
    exact o_rl cx rx hw dX11_row_33 fr
end OM
