section OM
variable {l : Launch} {A : Nat → Prop} {L : List Nat} {τ : Nat → Nat} {cy : Nat → ClassId} {D : va_G} {K : (Nat → Nat) × (Nat → Nat)} {σ : oSt}
set_option maxHeartbeats 4000000 in
set_option maxRecDepth 100000 in
theorem c_X11_fine (a0 : Nat) (ha0 : oA L τ a0 10) : oMet l A L τ cy D K yX11_fine cX11_fine 1 (some .boolean) 0 0 [.ref a0] σ (va_Qi (fun r σ1 => σ1 = σ ∧ Iv r 0 1 ∧ ((r.toInt = 1 ∧ (σ.1 663 a0).toInt = -1) ∨ (r.toInt = 0 ∧ (σ.1 663 a0).toInt ≠ -1))) (oPo A L τ cy D) A) := by
  refine oMk (by decide) (Nat.le_of_ble_eq_true rfl) rfl ?_
  intro p e s m args below meth c ls cx rx hA hw hl
  generalize hQ : MQ below _ args s 0 0 A = Q
  have hx := cx.1.1
  have hb := cx.1.2.1
  have hml := cx.1.2.2.1
  have hown := cx.1.2.2.2.1
  have hts := cx.1.2.2.2.2
  have hl : lv_has ls 1 [(0, .ref a0)] := hl
  refine lv_aload_n hx hb dX11_fine_0 rfl (lv_at hl 0 rfl) ?_
  refine g_663 cx hw ha0 k_f_X11_123 dX11_fine_1 (fun v1 e1 i1 => ?_)
  have z1 : v1.toInt = (σ.1 663 a0).toInt := congrArg Int32.toInt e1
  refine lv_iconst (v := (-1)) hx hb dX11_fine_4 (by decide) ?_
  refine lv_icmp_ne (tgt := 12) hx hb dX11_fine_5 (by decide) (fun c2 => ?_) (fun c2 => ?_)
  · --
    have i3 : Iv v1 0 200 := iv_ne1 c2 i1 (⟨by decide, by decide⟩ : Iv (-1) (-1) (-1)) (by decide)
    refine lv_iconst (v := 0) hx hb dX11_fine_12 (by decide) ?_
    rw [← hQ]
    exact o_rz cx rx hw (iv_nz01 (iv_w (⟨by decide, by decide⟩ : Iv 0 0 0) (by decide))) dX11_fine_13 ⟨rfl, (iv_w (⟨by decide, by decide⟩ : Iv 0 0 0) (by decide)), (by exact (by have := (i3).1; have := (i3).2; have : (σ.1 663 a0).toInt = (v1 : Int32).toInt := congrArg Int32.toInt (show σ.1 663 a0 = v1 from e1.symm); have : (0 : Int32).toInt = 0 := (by decide); omega))⟩
  · --
    have i4 : Iv v1 (-1) (-1) := iv_eq1 c2 i1 (⟨by decide, by decide⟩ : Iv (-1) (-1) (-1)) (by decide)
    refine lv_iconst (v := 1) hx hb dX11_fine_8 (by decide) ?_
    refine lv_goto (tgt := 13) hx hb dX11_fine_9 (by decide) ?_
    rw [← hQ]
    exact o_rz cx rx hw (iv_nz01 (iv_w (⟨by decide, by decide⟩ : Iv 1 1 1) (by decide))) dX11_fine_13 ⟨rfl, (iv_w (⟨by decide, by decide⟩ : Iv 1 1 1) (by decide)), (by exact (by have := (i4).1; have := (i4).2; have : (σ.1 663 a0).toInt = (v1 : Int32).toInt := congrArg Int32.toInt (show σ.1 663 a0 = v1 from e1.symm); have : (v1 : Int32).toInt = ((-1) : Int32).toInt := congrArg Int32.toInt c2; have : ((-1) : Int32).toInt = (-1) := (by decide); have : (1 : Int32).toInt = 1 := (by decide); omega))⟩
abbrev fs_X11_fault : List Nat := [663]
abbrev ts_X11_fault : List Nat := []
set_option maxHeartbeats 4000000 in
set_option maxRecDepth 100000 in
theorem c_X11_fault (a0 : Nat) (ha0 : oA L τ a0 10) (a1 : Int32) (ia1 : Iv a1 (-1) 200) : oMet l A L τ cy D K yX11_fault cX11_fault 2 none 1 20 [.ref a0, .int a1] σ (va_Qv (fun σ1 => oFr τ fs_X11_fault ts_X11_fault σ σ1 ∧ (((σ.1 663 a0).toInt = -1 ∧ (σ1.1 663 a0).toInt = a1.toInt) ∨ ((σ.1 663 a0).toInt ≠ -1 ∧ (σ1.1 663 a0).toInt = (σ.1 663 a0).toInt))) (oPo A L τ cy D) A) := by
  refine oMk (by decide) (Nat.le_of_ble_eq_true rfl) rfl ?_
  intro p e s m args below meth c ls cx rx hA hw hl
  generalize hQ : MQ below _ args s 0 0 A = Q
  have hx := cx.1.1
  have hb := cx.1.2.1
  have hml := cx.1.2.2.1
  have hown := cx.1.2.2.2.1
  have hts := cx.1.2.2.2.2
  have hl : lv_has ls 2 [(0, .ref a0), (1, .int a1)] := hl
  have fr : oFr τ fs_X11_fault ts_X11_fault σ σ := oFr_rf
  refine lv_aload_n hx hb dX11_fault_0 rfl (lv_at hl 0 rfl) ?_
  have i1 : Iv (σ.1 663 a0) (-1) 200 := o_fb (j := 663) hw ha0 rfl
  refine o_ci hw (oRunV cx hA hw q_X11_fine k_m_X11_126 rfl ha0 (by decide) (As := []) (c_X11_fine a0 ha0) (by decide) rfl hl.1 rfl (Nat.le_of_ble_eq_true rfl) dX11_fault_1 (by decide)) (fun v3 σ2 H locs hp hw => ?_)
  obtain ⟨p3_0, p3_1, p3_2⟩ := hp
  rw [p3_0] at hw
  refine lv_if_eq (tgt := 12) hx hb dX11_fault_4 (by decide) (fun c4 => ?_) (fun c4 => ?_)
  · --
    have i5 : Iv (σ.1 663 a0) 0 200 := (fun h => (by have := z_ti h; have := (ia1).1; have := (ia1).2; have := (p3_1).1; have := (p3_1).2; have := (i1).1; have := (i1).2; exact ⟨by omega, by omega⟩)) c4
    have i6 : Iv v3 0 0 := iv_eq1 c4 p3_1 (⟨by decide, by decide⟩ : Iv 0 0 0) (by decide)
    rw [← hQ]
    exact o_rv cx rx hw dX11_fault_12 ⟨fr, (by exact (by have := (ia1).1; have := (ia1).2; have := (i5).1; have := (i5).2; have := (i6).1; have := (i6).2; have : (v3 : Int32).toInt = (0 : Int32).toInt := congrArg Int32.toInt c4; have : (0 : Int32).toInt = 0 := (by decide); omega))⟩
  · --
    have i7 : Iv v3 1 1 := iv_ne1 c4 p3_1 (⟨by decide, by decide⟩ : Iv 0 0 0) (by decide)
    have i8 : Iv (σ.1 663 a0) (-1) (-1) := (fun h => (by have := nz_ti h; have := (ia1).1; have := (ia1).2; have := (p3_1).1; have := (p3_1).2; have := (i1).1; have := (i1).2; exact ⟨by omega, by omega⟩)) c4
    refine lv_aload_n hx hb dX11_fault_7 rfl (lv_at hl 0 rfl) ?_
    refine lv_iload_n hx hb dX11_fault_8 rfl (lv_at hl 1 rfl) ?_
    refine p_663 cx hw ha0 (iv_w ia1 (by decide)) k_f_X11_123 dX11_fault_9 (fun σ9 H locs eσ9 hw => ?_)
    have fr := oFr_i fr eσ9 (by decide)
    rw [← hQ]
    exact o_rv cx rx hw dX11_fault_12 ⟨fr, (by exact (by have := (ia1).1; have := (ia1).2; have := (i8).1; have := (i8).2; have := (i7).1; have := (i7).2; have : (σ9.1 663 a0).toInt = (a1 : Int32).toInt := congrArg Int32.toInt (show σ9.1 663 a0 = a1 from (kp_s eσ9)); omega))⟩
abbrev fs_X11_passesT : List Nat := [662]
abbrev ts_X11_passesT : List Nat := []
set_option maxHeartbeats 4000000 in
set_option maxRecDepth 100000 in
theorem c_X11_passesT (a0 : Nat) (ha0 : oA L τ a0 10) (a1 : Int32) (ia1 : Iv a1 0 65535) (b0 : Nat) (hF0 : σ.2.2.2.2 659 a0 = some b0) (hb0 : oA L τ b0 51) (hf660 : Iv (σ.1 660 a0) 0 80) : oMet l A L τ cy D K yX11_passes cX11_passes 2 (some .boolean) 1 20 [.ref a0, .int a1] σ (va_Qi (fun r σ1 => oFr τ fs_X11_passesT ts_X11_passesT σ σ1 ∧ Iv r 0 1 ∧ (¬ r = 0 → Iv (σ1.1 662 a0) 1 80) ∧ ((r.toInt = 0 ∧ (σ1.1 662 a0).toInt = (σ.1 662 a0).toInt) ∨ (r.toInt = 1 ∧ (σ.1 662 a0).toInt < (σ.1 660 a0).toInt ∧ (σ1.1 662 a0).toInt = (σ.1 662 a0).toInt + 1)) ∧ ((σ.1 662 a0).toInt ≤ (σ.1 661 a0).toInt → (σ1.1 662 a0).toInt ≤ (σ.1 661 a0).toInt) ∧ (PS (fun i => σ.2.2.1 b0 i &&& 255) (σ.1 660 a0).toInt (σ.1 661 a0).toInt a1.toInt (σ.1 663 a0).toInt (σ.1 662 a0).toInt (σ1.1 662 a0).toInt r.toInt)) (oPo A L τ cy D) A) := by
  refine oMk (by decide) (Nat.le_of_ble_eq_true rfl) rfl ?_
  intro p e s m args below meth c ls cx rx hA hw hl
  generalize hQ : MQ below _ args s 0 0 A = Q
  have hx := cx.1.1
  have hb := cx.1.2.1
  have hml := cx.1.2.2.1
  have hown := cx.1.2.2.2.1
  have hts := cx.1.2.2.2.2
  have hl : lv_has ls 2 [(0, .ref a0), (1, .int a1)] := hl
  have fr : oFr τ fs_X11_passesT ts_X11_passesT σ σ := oFr_rf
  have iz663 : Iv (σ.1 663 a0) (-1) 200 := o_fb (j := 663) hw ha0 rfl
  have iz662 : Iv (σ.1 662 a0) (0) 200 := o_fb (j := 662) hw ha0 rfl
  refine lv_aload_n hx hb dX11_passes_0 rfl (lv_at hl 0 rfl) ?_
  refine o_ci hw (oRunV cx hA hw q_X11_fine k_m_X11_126 rfl ha0 (by decide) (As := []) (c_X11_fine a0 ha0) (by decide) rfl hl.1 rfl (Nat.le_of_ble_eq_true rfl) dX11_passes_1 (by decide)) (fun v2 σ1 H locs hp hw => ?_)
  obtain ⟨p2_0, p2_1, p2_2⟩ := hp
  rw [p2_0] at hw
  refine lv_if_eq (tgt := 15) hx hb dX11_passes_4 (by decide) (fun c3 => ?_) (fun c3 => ?_)
  · --
    have i4 : Iv (σ.1 663 a0) 0 200 := (fun h => (by have := z_ti h; have := (ia1).1; have := (ia1).2; have := (p2_1).1; have := (p2_1).2; have := (iz663).1; have := (iz663).2; have := (iz662).1; have := (iz662).2; have := (hf660).1; have := (hf660).2; exact ⟨by omega, by omega⟩)) c3
    have i5 : Iv v2 0 0 := iv_eq1 c3 p2_1 (⟨by decide, by decide⟩ : Iv 0 0 0) (by decide)
    refine lv_iconst (v := 0) hx hb dX11_passes_15 (by decide) ?_
    rw [← hQ]
    exact o_rz cx rx hw (iv_nz01 (iv_w (⟨by decide, by decide⟩ : Iv 0 0 0) (by decide))) dX11_passes_16 ⟨fr, (iv_w (⟨by decide, by decide⟩ : Iv 0 0 0) (by decide)), (fun h => absurd rfl h), (by exact (by have := (ia1).1; have := (ia1).2; have := (i4).1; have := (i4).2; have := (iz662).1; have := (iz662).2; have := (hf660).1; have := (hf660).2; have := (i5).1; have := (i5).2; have : (v2 : Int32).toInt = (0 : Int32).toInt := congrArg Int32.toInt c3; have : (0 : Int32).toInt = 0 := (by decide); omega)), (by exact (by have := (ia1).1; have := (ia1).2; have := (i4).1; have := (i4).2; have := (iz662).1; have := (iz662).2; have := (hf660).1; have := (hf660).2; have := (i5).1; have := (i5).2; have : (v2 : Int32).toInt = (0 : Int32).toInt := congrArg Int32.toInt c3; have : (0 : Int32).toInt = 0 := (by decide); omega)), (by unfold PS; have th9 := hr_tC (g := σ.2.2.1 b0) (n := (σ.1 660 a0).toInt) (m := (σ.1 661 a0).toInt) (p := (σ.1 662 a0).toInt) (v := hr_F (σ.2.2.1 b0) (σ.1 662 a0) (σ.1 660 a0) (σ.1 661 a0)) rfl rfl rfl rfl rfl (by have := (ia1).1; have := (ia1).2; have := (i4).1; have := (i4).2; have := (iz662).1; have := (iz662).2; have := (hf660).1; have := (hf660).2; have := (i5).1; have := (i5).2; have : (v2 : Int32).toInt = (0 : Int32).toInt := congrArg Int32.toInt c3; have : (0 : Int32).toInt = 0 := (by decide); omega); exact (by have := (ia1).1; have := (ia1).2; have := (i4).1; have := (i4).2; have := (iz662).1; have := (iz662).2; have := (hf660).1; have := (hf660).2; have := (i5).1; have := (i5).2; have : (v2 : Int32).toInt = (0 : Int32).toInt := congrArg Int32.toInt c3; have : (0 : Int32).toInt = 0 := (by decide); omega))⟩
  · --
    have i6 : Iv v2 1 1 := iv_ne1 c3 p2_1 (⟨by decide, by decide⟩ : Iv 0 0 0) (by decide)
    have i7 : Iv (σ.1 663 a0) (-1) (-1) := (fun h => (by have := nz_ti h; have := (ia1).1; have := (ia1).2; have := (p2_1).1; have := (p2_1).2; have := (iz663).1; have := (iz663).2; have := (iz662).1; have := (iz662).2; have := (hf660).1; have := (hf660).2; exact ⟨by omega, by omega⟩)) c3
    refine lv_aload_n hx hb dX11_passes_7 rfl (lv_at hl 0 rfl) ?_
    have i8 : Iv (σ.1 661 a0) 0 80 := o_fb (j := 661) hw ha0 rfl
    refine o_ci hw (oRunV cx hA hw q_X11_here k_m_X11_130 rfl ha0 (by decide) (As := []) (c_X11_hereT a0 ha0 b0 (hF0) hb0 (kn_iv (rfl) (iv_w hf660 (by decide)))) (by decide) rfl hl.1 rfl (Nat.le_of_ble_eq_true rfl) dX11_passes_8 (by decide)) (fun v10 σ9 H locs hp hw => ?_)
    obtain ⟨p10_0, p10_1, p10_2, p10_3, p10_4, p10_5, p10_6⟩ := hp
    rw [p10_0] at hw
    have hnv10 := congrArg Int32.toInt p10_6
    refine lv_iload_n hx hb dX11_passes_11 rfl (lv_at hl 1 rfl) ?_
    refine lv_icmp_eq (tgt := 17) hx hb dX11_passes_12 (by decide) (fun c11 => ?_) (fun c11 => ?_)
    · --
      have i12 : Iv v10 0 255 := iv_eq1 c11 p10_1 ia1 (by decide)
      have i13 : Iv (σ.1 662 a0) 0 79 := (fun h => kn_iv2 (rfl) (p10_2 h)) (ge0_iv i12 (by decide))
      have i14 : Iv a1 0 255 := iv_eq1 (Eq.symm c11) ia1 p10_1 (by decide)
      refine lv_aload_n hx hb dX11_passes_17 rfl (lv_at hl 0 rfl) ?_
      refine lv_dup hx hb dX11_passes_18 rfl ?_
      refine g_662 cx hw ha0 k_f_X11_120 dX11_passes_19 (fun v15 e15 i15 => ?_)
      rw [show v15 = (σ.1 662 a0) from e15.trans rfl]
      refine lv_iconst (v := 1) hx hb dX11_passes_22 (by decide) ?_
      refine lv_iadd hx hb dX11_passes_23 ?_
      refine lv_topi (fun v16 e16 => ?_)
      have i16 : Iv v16 1 80 := iv_add e16 i13 (⟨by decide, by decide⟩ : Iv 1 1 1) (by decide)
      have x16 : v16.toInt = (σ.1 662 a0).toInt + 1 := ex_add e16 i13 (⟨by decide, by decide⟩ : Iv 1 1 1) (by decide)
      refine p_662 cx hw ha0 (iv_w i16 (by decide)) k_f_X11_120 dX11_passes_24 (fun σ17 H locs eσ17 hw => ?_)
      have fr := oFr_i fr eσ17 (by decide)
      refine lv_iconst (v := 1) hx hb dX11_passes_27 (by decide) ?_
      rw [← hQ]
      exact o_rz cx rx hw (iv_nz01 (iv_w (⟨by decide, by decide⟩ : Iv 1 1 1) (by decide))) dX11_passes_28 ⟨fr, (iv_w (⟨by decide, by decide⟩ : Iv 1 1 1) (by decide)), (fun _ => kn_iv ((kp_s eσ17)) (iv_w i16 (by decide))), (by exact (by have := (i14).1; have := (i14).2; have := (i7).1; have := (i7).2; have := (hf660).1; have := (hf660).2; have := (i8).1; have := (i8).2; have := (i16).1; have := (i16).2; have := (i13).1; have := (i13).2; have := (i6).1; have := (i6).2; have := (i12).1; have := (i12).2; have : (σ17.1 663 a0).toInt = ((σ.1 663 a0) : Int32).toInt := congrArg Int32.toInt (show σ17.1 663 a0 = (σ.1 663 a0) from ((kp_i eσ17 (by decide)).trans rfl)); have : (σ17.1 660 a0).toInt = ((σ.1 660 a0) : Int32).toInt := congrArg Int32.toInt (show σ17.1 660 a0 = (σ.1 660 a0) from ((kp_i eσ17 (by decide)).trans rfl)); have : (σ17.1 661 a0).toInt = ((σ.1 661 a0) : Int32).toInt := congrArg Int32.toInt (show σ17.1 661 a0 = (σ.1 661 a0) from ((kp_i eσ17 (by decide)).trans rfl)); have : (σ17.1 662 a0).toInt = (v16 : Int32).toInt := congrArg Int32.toInt (show σ17.1 662 a0 = v16 from (kp_s eσ17)); have : (v10 : Int32).toInt = (a1 : Int32).toInt := congrArg Int32.toInt c11; have : (1 : Int32).toInt = 1 := (by decide); omega)), (by exact (by have := (i14).1; have := (i14).2; have := (i7).1; have := (i7).2; have := (hf660).1; have := (hf660).2; have := (i8).1; have := (i8).2; have := (i16).1; have := (i16).2; have := (i13).1; have := (i13).2; have := (i6).1; have := (i6).2; have := (i12).1; have := (i12).2; have : (σ17.1 663 a0).toInt = ((σ.1 663 a0) : Int32).toInt := congrArg Int32.toInt (show σ17.1 663 a0 = (σ.1 663 a0) from ((kp_i eσ17 (by decide)).trans rfl)); have : (σ17.1 660 a0).toInt = ((σ.1 660 a0) : Int32).toInt := congrArg Int32.toInt (show σ17.1 660 a0 = (σ.1 660 a0) from ((kp_i eσ17 (by decide)).trans rfl)); have : (σ17.1 661 a0).toInt = ((σ.1 661 a0) : Int32).toInt := congrArg Int32.toInt (show σ17.1 661 a0 = (σ.1 661 a0) from ((kp_i eσ17 (by decide)).trans rfl)); have : (σ17.1 662 a0).toInt = (v16 : Int32).toInt := congrArg Int32.toInt (show σ17.1 662 a0 = v16 from (kp_s eσ17)); have : (v10 : Int32).toInt = (a1 : Int32).toInt := congrArg Int32.toInt c11; have : (1 : Int32).toInt = 1 := (by decide); omega)), (by unfold PS; have th9 := hr_tC (g := σ.2.2.1 b0) (n := (σ.1 660 a0).toInt) (m := (σ.1 661 a0).toInt) (p := (σ.1 662 a0).toInt) (v := hr_F (σ.2.2.1 b0) (σ.1 662 a0) (σ.1 660 a0) (σ.1 661 a0)) rfl rfl rfl rfl rfl (by have := (i14).1; have := (i14).2; have := (i7).1; have := (i7).2; have := (hf660).1; have := (hf660).2; have := (i8).1; have := (i8).2; have := (i16).1; have := (i16).2; have := (i13).1; have := (i13).2; have := (i6).1; have := (i6).2; have := (i12).1; have := (i12).2; have : (σ17.1 663 a0).toInt = ((σ.1 663 a0) : Int32).toInt := congrArg Int32.toInt (show σ17.1 663 a0 = (σ.1 663 a0) from ((kp_i eσ17 (by decide)).trans rfl)); have : (σ17.1 660 a0).toInt = ((σ.1 660 a0) : Int32).toInt := congrArg Int32.toInt (show σ17.1 660 a0 = (σ.1 660 a0) from ((kp_i eσ17 (by decide)).trans rfl)); have : (σ17.1 661 a0).toInt = ((σ.1 661 a0) : Int32).toInt := congrArg Int32.toInt (show σ17.1 661 a0 = (σ.1 661 a0) from ((kp_i eσ17 (by decide)).trans rfl)); have : (σ17.1 662 a0).toInt = (v16 : Int32).toInt := congrArg Int32.toInt (show σ17.1 662 a0 = v16 from (kp_s eσ17)); have : (v10 : Int32).toInt = (a1 : Int32).toInt := congrArg Int32.toInt c11; have : (1 : Int32).toInt = 1 := (by decide); omega); exact (by have := (i14).1; have := (i14).2; have := (i7).1; have := (i7).2; have := (hf660).1; have := (hf660).2; have := (i8).1; have := (i8).2; have := (i16).1; have := (i16).2; have := (i13).1; have := (i13).2; have := (i6).1; have := (i6).2; have := (i12).1; have := (i12).2; have : (σ17.1 663 a0).toInt = ((σ.1 663 a0) : Int32).toInt := congrArg Int32.toInt (show σ17.1 663 a0 = (σ.1 663 a0) from ((kp_i eσ17 (by decide)).trans rfl)); have : (σ17.1 660 a0).toInt = ((σ.1 660 a0) : Int32).toInt := congrArg Int32.toInt (show σ17.1 660 a0 = (σ.1 660 a0) from ((kp_i eσ17 (by decide)).trans rfl)); have : (σ17.1 661 a0).toInt = ((σ.1 661 a0) : Int32).toInt := congrArg Int32.toInt (show σ17.1 661 a0 = (σ.1 661 a0) from ((kp_i eσ17 (by decide)).trans rfl)); have : (σ17.1 662 a0).toInt = (v16 : Int32).toInt := congrArg Int32.toInt (show σ17.1 662 a0 = v16 from (kp_s eσ17)); have : (v10 : Int32).toInt = (a1 : Int32).toInt := congrArg Int32.toInt c11; have : (1 : Int32).toInt = 1 := (by decide); omega))⟩
    · --
      refine lv_iconst (v := 0) hx hb dX11_passes_15 (by decide) ?_
      rw [← hQ]
      exact o_rz cx rx hw (iv_nz01 (iv_w (⟨by decide, by decide⟩ : Iv 0 0 0) (by decide))) dX11_passes_16 ⟨fr, (iv_w (⟨by decide, by decide⟩ : Iv 0 0 0) (by decide)), (fun h => absurd rfl h), (by exact (by have := (ia1).1; have := (ia1).2; have := (i7).1; have := (i7).2; have := (iz662).1; have := (iz662).2; have := (hf660).1; have := (hf660).2; have := (i8).1; have := (i8).2; have := (i6).1; have := (i6).2; have := (p10_1).1; have := (p10_1).2; have : (v10 : Int32).toInt ≠ (a1 : Int32).toInt := fun q => c11 (Int32.toInt_inj.mp q); have : (0 : Int32).toInt = 0 := (by decide); omega)), (by exact (by have := (ia1).1; have := (ia1).2; have := (i7).1; have := (i7).2; have := (iz662).1; have := (iz662).2; have := (hf660).1; have := (hf660).2; have := (i8).1; have := (i8).2; have := (i6).1; have := (i6).2; have := (p10_1).1; have := (p10_1).2; have : (v10 : Int32).toInt ≠ (a1 : Int32).toInt := fun q => c11 (Int32.toInt_inj.mp q); have : (0 : Int32).toInt = 0 := (by decide); omega)), (by unfold PS; have th9 := hr_tC (g := σ.2.2.1 b0) (n := (σ.1 660 a0).toInt) (m := (σ.1 661 a0).toInt) (p := (σ.1 662 a0).toInt) (v := hr_F (σ.2.2.1 b0) (σ.1 662 a0) (σ.1 660 a0) (σ.1 661 a0)) rfl rfl rfl rfl rfl (by have := (ia1).1; have := (ia1).2; have := (i7).1; have := (i7).2; have := (iz662).1; have := (iz662).2; have := (hf660).1; have := (hf660).2; have := (i8).1; have := (i8).2; have := (i6).1; have := (i6).2; have := (p10_1).1; have := (p10_1).2; have : (v10 : Int32).toInt ≠ (a1 : Int32).toInt := fun q => c11 (Int32.toInt_inj.mp q); have : (0 : Int32).toInt = 0 := (by decide); omega); exact (by have := (ia1).1; have := (ia1).2; have := (i7).1; have := (i7).2; have := (iz662).1; have := (iz662).2; have := (hf660).1; have := (hf660).2; have := (i8).1; have := (i8).2; have := (i6).1; have := (i6).2; have := (p10_1).1; have := (p10_1).2; have : (v10 : Int32).toInt ≠ (a1 : Int32).toInt := fun q => c11 (Int32.toInt_inj.mp q); have : (0 : Int32).toInt = 0 := (by decide); omega))⟩
abbrev fs_X11_passesR : List Nat := [662]
abbrev ts_X11_passesR : List Nat := []
set_option maxHeartbeats 4000000 in
set_option maxRecDepth 100000 in
theorem c_X11_passesR (a0 : Nat) (ha0 : oA L τ a0 10) (a1 : Int32) (ia1 : Iv a1 0 65535) (b0 : Nat) (hF0 : σ.2.2.2.2 659 a0 = some b0) (hb0 : oA L τ b0 54) (hf660 : Iv (σ.1 660 a0) 0 40) : oMet l A L τ cy D K yX11_passes cX11_passes 2 (some .boolean) 1 20 [.ref a0, .int a1] σ (va_Qi (fun r σ1 => oFr τ fs_X11_passesR ts_X11_passesR σ σ1 ∧ Iv r 0 1 ∧ (¬ r = 0 → Iv (σ1.1 662 a0) 1 40) ∧ ((r.toInt = 0 ∧ (σ1.1 662 a0).toInt = (σ.1 662 a0).toInt) ∨ (r.toInt = 1 ∧ (σ.1 662 a0).toInt < (σ.1 660 a0).toInt ∧ (σ1.1 662 a0).toInt = (σ.1 662 a0).toInt + 1)) ∧ ((σ.1 662 a0).toInt ≤ (σ.1 661 a0).toInt → (σ1.1 662 a0).toInt ≤ (σ.1 661 a0).toInt) ∧ (PS (fun i => σ.2.2.1 b0 i &&& 255) (σ.1 660 a0).toInt (σ.1 661 a0).toInt a1.toInt (σ.1 663 a0).toInt (σ.1 662 a0).toInt (σ1.1 662 a0).toInt r.toInt)) (oPo A L τ cy D) A) := by
  refine oMk (by decide) (Nat.le_of_ble_eq_true rfl) rfl ?_
  intro p e s m args below meth c ls cx rx hA hw hl
  generalize hQ : MQ below _ args s 0 0 A = Q
  have hx := cx.1.1
  have hb := cx.1.2.1
  have hml := cx.1.2.2.1
  have hown := cx.1.2.2.2.1
  have hts := cx.1.2.2.2.2
  have hl : lv_has ls 2 [(0, .ref a0), (1, .int a1)] := hl
  have fr : oFr τ fs_X11_passesR ts_X11_passesR σ σ := oFr_rf
  have iz663 : Iv (σ.1 663 a0) (-1) 200 := o_fb (j := 663) hw ha0 rfl
  have iz662 : Iv (σ.1 662 a0) (0) 200 := o_fb (j := 662) hw ha0 rfl
  refine lv_aload_n hx hb dX11_passes_0 rfl (lv_at hl 0 rfl) ?_
  refine o_ci hw (oRunV cx hA hw q_X11_fine k_m_X11_126 rfl ha0 (by decide) (As := []) (c_X11_fine a0 ha0) (by decide) rfl hl.1 rfl (Nat.le_of_ble_eq_true rfl) dX11_passes_1 (by decide)) (fun v2 σ1 H locs hp hw => ?_)
  obtain ⟨p2_0, p2_1, p2_2⟩ := hp
  rw [p2_0] at hw
  refine lv_if_eq (tgt := 15) hx hb dX11_passes_4 (by decide) (fun c3 => ?_) (fun c3 => ?_)
  · --
    have i4 : Iv (σ.1 663 a0) 0 200 := (fun h => (by have := z_ti h; have := (ia1).1; have := (ia1).2; have := (p2_1).1; have := (p2_1).2; have := (iz663).1; have := (iz663).2; have := (iz662).1; have := (iz662).2; have := (hf660).1; have := (hf660).2; exact ⟨by omega, by omega⟩)) c3
    have i5 : Iv v2 0 0 := iv_eq1 c3 p2_1 (⟨by decide, by decide⟩ : Iv 0 0 0) (by decide)
    refine lv_iconst (v := 0) hx hb dX11_passes_15 (by decide) ?_
    rw [← hQ]
    exact o_rz cx rx hw (iv_nz01 (iv_w (⟨by decide, by decide⟩ : Iv 0 0 0) (by decide))) dX11_passes_16 ⟨fr, (iv_w (⟨by decide, by decide⟩ : Iv 0 0 0) (by decide)), (fun h => absurd rfl h), (by exact (by have := (ia1).1; have := (ia1).2; have := (i4).1; have := (i4).2; have := (iz662).1; have := (iz662).2; have := (hf660).1; have := (hf660).2; have := (i5).1; have := (i5).2; have : (v2 : Int32).toInt = (0 : Int32).toInt := congrArg Int32.toInt c3; have : (0 : Int32).toInt = 0 := (by decide); omega)), (by exact (by have := (ia1).1; have := (ia1).2; have := (i4).1; have := (i4).2; have := (iz662).1; have := (iz662).2; have := (hf660).1; have := (hf660).2; have := (i5).1; have := (i5).2; have : (v2 : Int32).toInt = (0 : Int32).toInt := congrArg Int32.toInt c3; have : (0 : Int32).toInt = 0 := (by decide); omega)), (by unfold PS; have th9 := hr_tC (g := σ.2.2.1 b0) (n := (σ.1 660 a0).toInt) (m := (σ.1 661 a0).toInt) (p := (σ.1 662 a0).toInt) (v := hr_F (σ.2.2.1 b0) (σ.1 662 a0) (σ.1 660 a0) (σ.1 661 a0)) rfl rfl rfl rfl rfl (by have := (ia1).1; have := (ia1).2; have := (i4).1; have := (i4).2; have := (iz662).1; have := (iz662).2; have := (hf660).1; have := (hf660).2; have := (i5).1; have := (i5).2; have : (v2 : Int32).toInt = (0 : Int32).toInt := congrArg Int32.toInt c3; have : (0 : Int32).toInt = 0 := (by decide); omega); exact (by have := (ia1).1; have := (ia1).2; have := (i4).1; have := (i4).2; have := (iz662).1; have := (iz662).2; have := (hf660).1; have := (hf660).2; have := (i5).1; have := (i5).2; have : (v2 : Int32).toInt = (0 : Int32).toInt := congrArg Int32.toInt c3; have : (0 : Int32).toInt = 0 := (by decide); omega))⟩
  · --
    have i6 : Iv v2 1 1 := iv_ne1 c3 p2_1 (⟨by decide, by decide⟩ : Iv 0 0 0) (by decide)
    have i7 : Iv (σ.1 663 a0) (-1) (-1) := (fun h => (by have := nz_ti h; have := (ia1).1; have := (ia1).2; have := (p2_1).1; have := (p2_1).2; have := (iz663).1; have := (iz663).2; have := (iz662).1; have := (iz662).2; have := (hf660).1; have := (hf660).2; exact ⟨by omega, by omega⟩)) c3
    refine lv_aload_n hx hb dX11_passes_7 rfl (lv_at hl 0 rfl) ?_
    have i8 : Iv (σ.1 661 a0) 0 80 := o_fb (j := 661) hw ha0 rfl
    refine o_ci hw (oRunV cx hA hw q_X11_here k_m_X11_130 rfl ha0 (by decide) (As := []) (c_X11_hereR a0 ha0 b0 (hF0) hb0 (kn_iv (rfl) (iv_w hf660 (by decide)))) (by decide) rfl hl.1 rfl (Nat.le_of_ble_eq_true rfl) dX11_passes_8 (by decide)) (fun v10 σ9 H locs hp hw => ?_)
    obtain ⟨p10_0, p10_1, p10_2, p10_3, p10_4, p10_5, p10_6⟩ := hp
    rw [p10_0] at hw
    have hnv10 := congrArg Int32.toInt p10_6
    refine lv_iload_n hx hb dX11_passes_11 rfl (lv_at hl 1 rfl) ?_
    refine lv_icmp_eq (tgt := 17) hx hb dX11_passes_12 (by decide) (fun c11 => ?_) (fun c11 => ?_)
    · --
      have i12 : Iv v10 0 255 := iv_eq1 c11 p10_1 ia1 (by decide)
      have i13 : Iv (σ.1 662 a0) 0 39 := (fun h => kn_iv2 (rfl) (p10_2 h)) (ge0_iv i12 (by decide))
      have i14 : Iv a1 0 255 := iv_eq1 (Eq.symm c11) ia1 p10_1 (by decide)
      refine lv_aload_n hx hb dX11_passes_17 rfl (lv_at hl 0 rfl) ?_
      refine lv_dup hx hb dX11_passes_18 rfl ?_
      refine g_662 cx hw ha0 k_f_X11_120 dX11_passes_19 (fun v15 e15 i15 => ?_)
      rw [show v15 = (σ.1 662 a0) from e15.trans rfl]
      refine lv_iconst (v := 1) hx hb dX11_passes_22 (by decide) ?_
      refine lv_iadd hx hb dX11_passes_23 ?_
      refine lv_topi (fun v16 e16 => ?_)
      have i16 : Iv v16 1 40 := iv_add e16 i13 (⟨by decide, by decide⟩ : Iv 1 1 1) (by decide)
      have x16 : v16.toInt = (σ.1 662 a0).toInt + 1 := ex_add e16 i13 (⟨by decide, by decide⟩ : Iv 1 1 1) (by decide)
      refine p_662 cx hw ha0 (iv_w i16 (by decide)) k_f_X11_120 dX11_passes_24 (fun σ17 H locs eσ17 hw => ?_)
      have fr := oFr_i fr eσ17 (by decide)
      refine lv_iconst (v := 1) hx hb dX11_passes_27 (by decide) ?_
      rw [← hQ]
      exact o_rz cx rx hw (iv_nz01 (iv_w (⟨by decide, by decide⟩ : Iv 1 1 1) (by decide))) dX11_passes_28 ⟨fr, (iv_w (⟨by decide, by decide⟩ : Iv 1 1 1) (by decide)), (fun _ => kn_iv ((kp_s eσ17)) (iv_w i16 (by decide))), (by exact (by have := (i14).1; have := (i14).2; have := (i7).1; have := (i7).2; have := (hf660).1; have := (hf660).2; have := (i8).1; have := (i8).2; have := (i16).1; have := (i16).2; have := (i13).1; have := (i13).2; have := (i6).1; have := (i6).2; have := (i12).1; have := (i12).2; have : (σ17.1 663 a0).toInt = ((σ.1 663 a0) : Int32).toInt := congrArg Int32.toInt (show σ17.1 663 a0 = (σ.1 663 a0) from ((kp_i eσ17 (by decide)).trans rfl)); have : (σ17.1 660 a0).toInt = ((σ.1 660 a0) : Int32).toInt := congrArg Int32.toInt (show σ17.1 660 a0 = (σ.1 660 a0) from ((kp_i eσ17 (by decide)).trans rfl)); have : (σ17.1 661 a0).toInt = ((σ.1 661 a0) : Int32).toInt := congrArg Int32.toInt (show σ17.1 661 a0 = (σ.1 661 a0) from ((kp_i eσ17 (by decide)).trans rfl)); have : (σ17.1 662 a0).toInt = (v16 : Int32).toInt := congrArg Int32.toInt (show σ17.1 662 a0 = v16 from (kp_s eσ17)); have : (v10 : Int32).toInt = (a1 : Int32).toInt := congrArg Int32.toInt c11; have : (1 : Int32).toInt = 1 := (by decide); omega)), (by exact (by have := (i14).1; have := (i14).2; have := (i7).1; have := (i7).2; have := (hf660).1; have := (hf660).2; have := (i8).1; have := (i8).2; have := (i16).1; have := (i16).2; have := (i13).1; have := (i13).2; have := (i6).1; have := (i6).2; have := (i12).1; have := (i12).2; have : (σ17.1 663 a0).toInt = ((σ.1 663 a0) : Int32).toInt := congrArg Int32.toInt (show σ17.1 663 a0 = (σ.1 663 a0) from ((kp_i eσ17 (by decide)).trans rfl)); have : (σ17.1 660 a0).toInt = ((σ.1 660 a0) : Int32).toInt := congrArg Int32.toInt (show σ17.1 660 a0 = (σ.1 660 a0) from ((kp_i eσ17 (by decide)).trans rfl)); have : (σ17.1 661 a0).toInt = ((σ.1 661 a0) : Int32).toInt := congrArg Int32.toInt (show σ17.1 661 a0 = (σ.1 661 a0) from ((kp_i eσ17 (by decide)).trans rfl)); have : (σ17.1 662 a0).toInt = (v16 : Int32).toInt := congrArg Int32.toInt (show σ17.1 662 a0 = v16 from (kp_s eσ17)); have : (v10 : Int32).toInt = (a1 : Int32).toInt := congrArg Int32.toInt c11; have : (1 : Int32).toInt = 1 := (by decide); omega)), (by unfold PS; have th9 := hr_tC (g := σ.2.2.1 b0) (n := (σ.1 660 a0).toInt) (m := (σ.1 661 a0).toInt) (p := (σ.1 662 a0).toInt) (v := hr_F (σ.2.2.1 b0) (σ.1 662 a0) (σ.1 660 a0) (σ.1 661 a0)) rfl rfl rfl rfl rfl (by have := (i14).1; have := (i14).2; have := (i7).1; have := (i7).2; have := (hf660).1; have := (hf660).2; have := (i8).1; have := (i8).2; have := (i16).1; have := (i16).2; have := (i13).1; have := (i13).2; have := (i6).1; have := (i6).2; have := (i12).1; have := (i12).2; have : (σ17.1 663 a0).toInt = ((σ.1 663 a0) : Int32).toInt := congrArg Int32.toInt (show σ17.1 663 a0 = (σ.1 663 a0) from ((kp_i eσ17 (by decide)).trans rfl)); have : (σ17.1 660 a0).toInt = ((σ.1 660 a0) : Int32).toInt := congrArg Int32.toInt (show σ17.1 660 a0 = (σ.1 660 a0) from ((kp_i eσ17 (by decide)).trans rfl)); have : (σ17.1 661 a0).toInt = ((σ.1 661 a0) : Int32).toInt := congrArg Int32.toInt (show σ17.1 661 a0 = (σ.1 661 a0) from ((kp_i eσ17 (by decide)).trans rfl)); have : (σ17.1 662 a0).toInt = (v16 : Int32).toInt := congrArg Int32.toInt (show σ17.1 662 a0 = v16 from (kp_s eσ17)); have : (v10 : Int32).toInt = (a1 : Int32).toInt := congrArg Int32.toInt c11; have : (1 : Int32).toInt = 1 := (by decide); omega); exact (by have := (i14).1; have := (i14).2; have := (i7).1; have := (i7).2; have := (hf660).1; have := (hf660).2; have := (i8).1; have := (i8).2; have := (i16).1; have := (i16).2; have := (i13).1; have := (i13).2; have := (i6).1; have := (i6).2; have := (i12).1; have := (i12).2; have : (σ17.1 663 a0).toInt = ((σ.1 663 a0) : Int32).toInt := congrArg Int32.toInt (show σ17.1 663 a0 = (σ.1 663 a0) from ((kp_i eσ17 (by decide)).trans rfl)); have : (σ17.1 660 a0).toInt = ((σ.1 660 a0) : Int32).toInt := congrArg Int32.toInt (show σ17.1 660 a0 = (σ.1 660 a0) from ((kp_i eσ17 (by decide)).trans rfl)); have : (σ17.1 661 a0).toInt = ((σ.1 661 a0) : Int32).toInt := congrArg Int32.toInt (show σ17.1 661 a0 = (σ.1 661 a0) from ((kp_i eσ17 (by decide)).trans rfl)); have : (σ17.1 662 a0).toInt = (v16 : Int32).toInt := congrArg Int32.toInt (show σ17.1 662 a0 = v16 from (kp_s eσ17)); have : (v10 : Int32).toInt = (a1 : Int32).toInt := congrArg Int32.toInt c11; have : (1 : Int32).toInt = 1 := (by decide); omega))⟩
    · --
      refine lv_iconst (v := 0) hx hb dX11_passes_15 (by decide) ?_
      rw [← hQ]
      exact o_rz cx rx hw (iv_nz01 (iv_w (⟨by decide, by decide⟩ : Iv 0 0 0) (by decide))) dX11_passes_16 ⟨fr, (iv_w (⟨by decide, by decide⟩ : Iv 0 0 0) (by decide)), (fun h => absurd rfl h), (by exact (by have := (ia1).1; have := (ia1).2; have := (i7).1; have := (i7).2; have := (iz662).1; have := (iz662).2; have := (hf660).1; have := (hf660).2; have := (i8).1; have := (i8).2; have := (i6).1; have := (i6).2; have := (p10_1).1; have := (p10_1).2; have : (v10 : Int32).toInt ≠ (a1 : Int32).toInt := fun q => c11 (Int32.toInt_inj.mp q); have : (0 : Int32).toInt = 0 := (by decide); omega)), (by exact (by have := (ia1).1; have := (ia1).2; have := (i7).1; have := (i7).2; have := (iz662).1; have := (iz662).2; have := (hf660).1; have := (hf660).2; have := (i8).1; have := (i8).2; have := (i6).1; have := (i6).2; have := (p10_1).1; have := (p10_1).2; have : (v10 : Int32).toInt ≠ (a1 : Int32).toInt := fun q => c11 (Int32.toInt_inj.mp q); have : (0 : Int32).toInt = 0 := (by decide); omega)), (by unfold PS; have th9 := hr_tC (g := σ.2.2.1 b0) (n := (σ.1 660 a0).toInt) (m := (σ.1 661 a0).toInt) (p := (σ.1 662 a0).toInt) (v := hr_F (σ.2.2.1 b0) (σ.1 662 a0) (σ.1 660 a0) (σ.1 661 a0)) rfl rfl rfl rfl rfl (by have := (ia1).1; have := (ia1).2; have := (i7).1; have := (i7).2; have := (iz662).1; have := (iz662).2; have := (hf660).1; have := (hf660).2; have := (i8).1; have := (i8).2; have := (i6).1; have := (i6).2; have := (p10_1).1; have := (p10_1).2; have : (v10 : Int32).toInt ≠ (a1 : Int32).toInt := fun q => c11 (Int32.toInt_inj.mp q); have : (0 : Int32).toInt = 0 := (by decide); omega); exact (by have := (ia1).1; have := (ia1).2; have := (i7).1; have := (i7).2; have := (iz662).1; have := (iz662).2; have := (hf660).1; have := (hf660).2; have := (i8).1; have := (i8).2; have := (i6).1; have := (i6).2; have := (p10_1).1; have := (p10_1).2; have : (v10 : Int32).toInt ≠ (a1 : Int32).toInt := fun q => c11 (Int32.toInt_inj.mp q); have : (0 : Int32).toInt = 0 := (by decide); omega))⟩
abbrev fs_X11_needT : List Nat := [662, 663]
abbrev ts_X11_needT : List Nat := []
set_option maxHeartbeats 4000000 in
set_option maxRecDepth 100000 in
theorem c_X11_needT (a0 : Nat) (ha0 : oA L τ a0 10) (a1 : Int32) (ia1 : Iv a1 0 65535) (b0 : Nat) (hF0 : σ.2.2.2.2 659 a0 = some b0) (hb0 : oA L τ b0 51) (hf660 : Iv (σ.1 660 a0) 0 80) : oMet l A L τ cy D K yX11_need cX11_need 2 none 2 41 [.ref a0, .int a1] σ (va_Qv (fun σ1 => oFr τ fs_X11_needT ts_X11_needT σ σ1 ∧ ((σ.1 662 a0).toInt ≤ (σ1.1 662 a0).toInt) ∧ ((σ.1 662 a0).toInt ≤ (σ.1 661 a0).toInt → (σ1.1 662 a0).toInt ≤ (σ.1 661 a0).toInt) ∧ (∃ r, O1 (fun i => σ.2.2.1 b0 i &&& 255) (σ.1 660 a0).toInt (σ.1 661 a0).toInt a1.toInt a1.toInt (σ.1 663 a0).toInt (σ.1 662 a0).toInt (σ1.1 663 a0).toInt (σ1.1 662 a0).toInt r)) (oPo A L τ cy D) A) := by
  refine oMk (by decide) (Nat.le_of_ble_eq_true rfl) rfl ?_
  intro p e s m args below meth c ls cx rx hA hw hl
  generalize hQ : MQ below _ args s 0 0 A = Q
  have hx := cx.1.1
  have hb := cx.1.2.1
  have hml := cx.1.2.2.1
  have hown := cx.1.2.2.2.1
  have hts := cx.1.2.2.2.2
  have hl : lv_has ls 2 [(0, .ref a0), (1, .int a1)] := hl
  have fr : oFr τ fs_X11_needT ts_X11_needT σ σ := oFr_rf
  have iz663 : Iv (σ.1 663 a0) (-1) 200 := o_fb (j := 663) hw ha0 rfl
  have iz662 : Iv (σ.1 662 a0) (0) 200 := o_fb (j := 662) hw ha0 rfl
  refine lv_aload_n hx hb dX11_need_0 rfl (lv_at hl 0 rfl) ?_
  refine lv_iload_n hx hb dX11_need_1 rfl (lv_at hl 1 rfl) ?_
  have i1 : Iv (σ.1 661 a0) 0 80 := o_fb (j := 661) hw ha0 rfl
  refine o_ci hw (oRunV cx hA hw q_X11_passes k_m_X11_134 rfl ha0 (by decide) (As := [.int a1]) (c_X11_passesT a0 ha0 a1 (iv_w ia1 (by decide)) b0 (hF0) hb0 (kn_iv (rfl) (iv_w hf660 (by decide)))) (by decide) rfl hl.1 rfl (Nat.le_of_ble_eq_true rfl) dX11_need_2 (by decide)) (fun v3 σ2 H locs hp hw => ?_)
  obtain ⟨p3_0, p3_1, p3_2, p3_3, p3_4, p3_5⟩ := hp
  have fr := oFr_tr fr p3_0 (by decide)
  have i4 : Iv (σ2.1 662 a0) 0 200 := o_fb (j := 662) hw ha0 rfl
  refine lv_if_ne (tgt := 16) hx hb dX11_need_5 (by decide) (fun c5 => ?_) (fun c5 => ?_)
  · --
    have i6 : Iv v3 1 1 := iv_ne1 c5 p3_1 (⟨by decide, by decide⟩ : Iv 0 0 0) (by decide)
    have i7 : Iv (σ2.1 662 a0) 1 80 := (fun h => kn_iv2 (rfl) (p3_2 h)) c5
    rw [← hQ]
    exact o_rv cx rx hw dX11_need_16 ⟨fr, (by exact (by have := (ia1).1; have := (ia1).2; have := (iz663).1; have := (iz663).2; have := (hf660).1; have := (hf660).2; have := (i1).1; have := (i1).2; have := (i7).1; have := (i7).2; have := (iz662).1; have := (iz662).2; have := (i6).1; have := (i6).2; have : (σ2.1 663 a0).toInt = ((σ.1 663 a0) : Int32).toInt := congrArg Int32.toInt (show σ2.1 663 a0 = (σ.1 663 a0) from ((kp_c p3_0 (by decide)).trans rfl)); have : (σ2.1 660 a0).toInt = ((σ.1 660 a0) : Int32).toInt := congrArg Int32.toInt (show σ2.1 660 a0 = (σ.1 660 a0) from ((kp_c p3_0 (by decide)).trans rfl)); have : (σ2.1 661 a0).toInt = ((σ.1 661 a0) : Int32).toInt := congrArg Int32.toInt (show σ2.1 661 a0 = (σ.1 661 a0) from ((kp_c p3_0 (by decide)).trans rfl)); omega)), (by exact (by have := (ia1).1; have := (ia1).2; have := (iz663).1; have := (iz663).2; have := (hf660).1; have := (hf660).2; have := (i1).1; have := (i1).2; have := (i7).1; have := (i7).2; have := (iz662).1; have := (iz662).2; have := (i6).1; have := (i6).2; have : (σ2.1 663 a0).toInt = ((σ.1 663 a0) : Int32).toInt := congrArg Int32.toInt (show σ2.1 663 a0 = (σ.1 663 a0) from ((kp_c p3_0 (by decide)).trans rfl)); have : (σ2.1 660 a0).toInt = ((σ.1 660 a0) : Int32).toInt := congrArg Int32.toInt (show σ2.1 660 a0 = (σ.1 660 a0) from ((kp_c p3_0 (by decide)).trans rfl)); have : (σ2.1 661 a0).toInt = ((σ.1 661 a0) : Int32).toInt := congrArg Int32.toInt (show σ2.1 661 a0 = (σ.1 661 a0) from ((kp_c p3_0 (by decide)).trans rfl)); omega)), (by refine ⟨tC (fun i => σ.2.2.1 b0 i &&& 255) (σ.1 660 a0).toInt (σ.1 661 a0).toInt (σ.1 662 a0).toInt - a1.toInt, ?_⟩; have ps9 := p3_5; unfold PS at ps9; unfold O1; exact (by have := (ia1).1; have := (ia1).2; have := (iz663).1; have := (iz663).2; have := (hf660).1; have := (hf660).2; have := (i1).1; have := (i1).2; have := (i7).1; have := (i7).2; have := (iz662).1; have := (iz662).2; have := (i6).1; have := (i6).2; have : (σ2.1 663 a0).toInt = ((σ.1 663 a0) : Int32).toInt := congrArg Int32.toInt (show σ2.1 663 a0 = (σ.1 663 a0) from ((kp_c p3_0 (by decide)).trans rfl)); have : (σ2.1 660 a0).toInt = ((σ.1 660 a0) : Int32).toInt := congrArg Int32.toInt (show σ2.1 660 a0 = (σ.1 660 a0) from ((kp_c p3_0 (by decide)).trans rfl)); have : (σ2.1 661 a0).toInt = ((σ.1 661 a0) : Int32).toInt := congrArg Int32.toInt (show σ2.1 661 a0 = (σ.1 661 a0) from ((kp_c p3_0 (by decide)).trans rfl)); omega))⟩
  · --
    have i8 : Iv v3 0 0 := iv_eq1 c5 p3_1 (⟨by decide, by decide⟩ : Iv 0 0 0) (by decide)
    refine lv_aload_n hx hb dX11_need_8 rfl (lv_at hl 0 rfl) ?_
    refine lv_aload_n hx hb dX11_need_9 rfl (lv_at hl 0 rfl) ?_
    refine g_662 cx hw ha0 k_f_X11_120 dX11_need_10 (fun v9 e9 i9 => ?_)
    rw [show v9 = (σ2.1 662 a0) from e9.trans rfl]
    have z10 : (σ2.1 663 a0).toInt = ((σ.1 663 a0) : Int32).toInt := congrArg Int32.toInt (show σ2.1 663 a0 = (σ.1 663 a0) from ((kp_c p3_0 (by decide)).trans rfl))
    refine o_cv hw (oRunV cx hA hw q_X11_fault k_m_X11_138 rfl ha0 (by decide) (As := [.int (σ2.1 662 a0)]) (c_X11_fault a0 ha0 (σ2.1 662 a0) (iv_w i4 (by decide))) (by decide) rfl hl.1 rfl (Nat.le_of_ble_eq_true rfl) dX11_need_13 (by decide)) (fun σ11 H locs hp hw => ?_)
    obtain ⟨p12_0, p12_1⟩ := hp
    have fr := oFr_tr fr p12_0 (by decide)
    have i13 : Iv (σ11.1 663 a0) (-1) 200 := o_fb (j := 663) hw ha0 rfl
    have i14 : Iv (σ11.1 663 a0) 0 200 := (by have := (ia1).1; have := (ia1).2; have := (hf660).1; have := (hf660).2; have := (i1).1; have := (i1).2; have := (i4).1; have := (i4).2; have := (i13).1; have := (i13).2; have := (iz663).1; have := (iz663).2; have := (iz662).1; have := (iz662).2; have := (i8).1; have := (i8).2; have : (σ11.1 660 a0).toInt = ((σ.1 660 a0) : Int32).toInt := congrArg Int32.toInt (show σ11.1 660 a0 = (σ.1 660 a0) from ((kp_c p12_0 (by decide)).trans ((kp_c p3_0 (by decide)).trans rfl))); have : (σ11.1 661 a0).toInt = ((σ.1 661 a0) : Int32).toInt := congrArg Int32.toInt (show σ11.1 661 a0 = (σ.1 661 a0) from ((kp_c p12_0 (by decide)).trans ((kp_c p3_0 (by decide)).trans rfl))); have : (σ11.1 662 a0).toInt = ((σ2.1 662 a0) : Int32).toInt := congrArg Int32.toInt (show σ11.1 662 a0 = (σ2.1 662 a0) from ((kp_c p12_0 (by decide)).trans rfl)); have : (v3 : Int32).toInt = (0 : Int32).toInt := congrArg Int32.toInt c5; have : (0 : Int32).toInt = 0 := (by decide); exact ⟨by omega, by omega⟩)
    rw [← hQ]
    exact o_rv cx rx hw dX11_need_16 ⟨fr, (by exact (by have := (ia1).1; have := (ia1).2; have := (hf660).1; have := (hf660).2; have := (i1).1; have := (i1).2; have := (i4).1; have := (i4).2; have := (i14).1; have := (i14).2; have := (iz663).1; have := (iz663).2; have := (iz662).1; have := (iz662).2; have := (i8).1; have := (i8).2; have : (σ11.1 660 a0).toInt = ((σ.1 660 a0) : Int32).toInt := congrArg Int32.toInt (show σ11.1 660 a0 = (σ.1 660 a0) from ((kp_c p12_0 (by decide)).trans ((kp_c p3_0 (by decide)).trans rfl))); have : (σ11.1 661 a0).toInt = ((σ.1 661 a0) : Int32).toInt := congrArg Int32.toInt (show σ11.1 661 a0 = (σ.1 661 a0) from ((kp_c p12_0 (by decide)).trans ((kp_c p3_0 (by decide)).trans rfl))); have : (σ11.1 662 a0).toInt = ((σ2.1 662 a0) : Int32).toInt := congrArg Int32.toInt (show σ11.1 662 a0 = (σ2.1 662 a0) from ((kp_c p12_0 (by decide)).trans rfl)); have : (v3 : Int32).toInt = (0 : Int32).toInt := congrArg Int32.toInt c5; have : (0 : Int32).toInt = 0 := (by decide); omega)), (by exact (by have := (ia1).1; have := (ia1).2; have := (hf660).1; have := (hf660).2; have := (i1).1; have := (i1).2; have := (i4).1; have := (i4).2; have := (i14).1; have := (i14).2; have := (iz663).1; have := (iz663).2; have := (iz662).1; have := (iz662).2; have := (i8).1; have := (i8).2; have : (σ11.1 660 a0).toInt = ((σ.1 660 a0) : Int32).toInt := congrArg Int32.toInt (show σ11.1 660 a0 = (σ.1 660 a0) from ((kp_c p12_0 (by decide)).trans ((kp_c p3_0 (by decide)).trans rfl))); have : (σ11.1 661 a0).toInt = ((σ.1 661 a0) : Int32).toInt := congrArg Int32.toInt (show σ11.1 661 a0 = (σ.1 661 a0) from ((kp_c p12_0 (by decide)).trans ((kp_c p3_0 (by decide)).trans rfl))); have : (σ11.1 662 a0).toInt = ((σ2.1 662 a0) : Int32).toInt := congrArg Int32.toInt (show σ11.1 662 a0 = (σ2.1 662 a0) from ((kp_c p12_0 (by decide)).trans rfl)); have : (v3 : Int32).toInt = (0 : Int32).toInt := congrArg Int32.toInt c5; have : (0 : Int32).toInt = 0 := (by decide); omega)), (by refine ⟨tC (fun i => σ.2.2.1 b0 i &&& 255) (σ.1 660 a0).toInt (σ.1 661 a0).toInt (σ.1 662 a0).toInt - a1.toInt, ?_⟩; have ps9 := p3_5; unfold PS at ps9; unfold O1; exact (by have := (ia1).1; have := (ia1).2; have := (hf660).1; have := (hf660).2; have := (i1).1; have := (i1).2; have := (i4).1; have := (i4).2; have := (i14).1; have := (i14).2; have := (iz663).1; have := (iz663).2; have := (iz662).1; have := (iz662).2; have := (i8).1; have := (i8).2; have : (σ11.1 660 a0).toInt = ((σ.1 660 a0) : Int32).toInt := congrArg Int32.toInt (show σ11.1 660 a0 = (σ.1 660 a0) from ((kp_c p12_0 (by decide)).trans ((kp_c p3_0 (by decide)).trans rfl))); have : (σ11.1 661 a0).toInt = ((σ.1 661 a0) : Int32).toInt := congrArg Int32.toInt (show σ11.1 661 a0 = (σ.1 661 a0) from ((kp_c p12_0 (by decide)).trans ((kp_c p3_0 (by decide)).trans rfl))); have : (σ11.1 662 a0).toInt = ((σ2.1 662 a0) : Int32).toInt := congrArg Int32.toInt (show σ11.1 662 a0 = (σ2.1 662 a0) from ((kp_c p12_0 (by decide)).trans rfl)); have : (v3 : Int32).toInt = (0 : Int32).toInt := congrArg Int32.toInt c5; have : (0 : Int32).toInt = 0 := (by decide); omega))⟩
abbrev fs_X11_needR : List Nat := [662, 663]
abbrev ts_X11_needR : List Nat := []
set_option maxHeartbeats 4000000 in
set_option maxRecDepth 100000 in
theorem c_X11_needR (a0 : Nat) (ha0 : oA L τ a0 10) (a1 : Int32) (ia1 : Iv a1 0 65535) (b0 : Nat) (hF0 : σ.2.2.2.2 659 a0 = some b0) (hb0 : oA L τ b0 54) (hf660 : Iv (σ.1 660 a0) 0 40) : oMet l A L τ cy D K yX11_need cX11_need 2 none 2 41 [.ref a0, .int a1] σ (va_Qv (fun σ1 => oFr τ fs_X11_needR ts_X11_needR σ σ1 ∧ ((σ.1 662 a0).toInt ≤ (σ1.1 662 a0).toInt) ∧ ((σ.1 662 a0).toInt ≤ (σ.1 661 a0).toInt → (σ1.1 662 a0).toInt ≤ (σ.1 661 a0).toInt) ∧ (∃ r, O1 (fun i => σ.2.2.1 b0 i &&& 255) (σ.1 660 a0).toInt (σ.1 661 a0).toInt a1.toInt a1.toInt (σ.1 663 a0).toInt (σ.1 662 a0).toInt (σ1.1 663 a0).toInt (σ1.1 662 a0).toInt r)) (oPo A L τ cy D) A) := by
  refine oMk (by decide) (Nat.le_of_ble_eq_true rfl) rfl ?_
  intro p e s m args below meth c ls cx rx hA hw hl
  generalize hQ : MQ below _ args s 0 0 A = Q
  have hx := cx.1.1
  have hb := cx.1.2.1
  have hml := cx.1.2.2.1
  have hown := cx.1.2.2.2.1
  have hts := cx.1.2.2.2.2
  have hl : lv_has ls 2 [(0, .ref a0), (1, .int a1)] := hl
  have fr : oFr τ fs_X11_needR ts_X11_needR σ σ := oFr_rf
  have iz663 : Iv (σ.1 663 a0) (-1) 200 := o_fb (j := 663) hw ha0 rfl
  have iz662 : Iv (σ.1 662 a0) (0) 200 := o_fb (j := 662) hw ha0 rfl
  refine lv_aload_n hx hb dX11_need_0 rfl (lv_at hl 0 rfl) ?_
  refine lv_iload_n hx hb dX11_need_1 rfl (lv_at hl 1 rfl) ?_
  have i1 : Iv (σ.1 661 a0) 0 80 := o_fb (j := 661) hw ha0 rfl
  refine o_ci hw (oRunV cx hA hw q_X11_passes k_m_X11_134 rfl ha0 (by decide) (As := [.int a1]) (c_X11_passesR a0 ha0 a1 (iv_w ia1 (by decide)) b0 (hF0) hb0 (kn_iv (rfl) (iv_w hf660 (by decide)))) (by decide) rfl hl.1 rfl (Nat.le_of_ble_eq_true rfl) dX11_need_2 (by decide)) (fun v3 σ2 H locs hp hw => ?_)
  obtain ⟨p3_0, p3_1, p3_2, p3_3, p3_4, p3_5⟩ := hp
  have fr := oFr_tr fr p3_0 (by decide)
  have i4 : Iv (σ2.1 662 a0) 0 200 := o_fb (j := 662) hw ha0 rfl
  refine lv_if_ne (tgt := 16) hx hb dX11_need_5 (by decide) (fun c5 => ?_) (fun c5 => ?_)
  · --
    have i6 : Iv v3 1 1 := iv_ne1 c5 p3_1 (⟨by decide, by decide⟩ : Iv 0 0 0) (by decide)
    have i7 : Iv (σ2.1 662 a0) 1 40 := (fun h => kn_iv2 (rfl) (p3_2 h)) c5
    rw [← hQ]
    exact o_rv cx rx hw dX11_need_16 ⟨fr, (by exact (by have := (ia1).1; have := (ia1).2; have := (iz663).1; have := (iz663).2; have := (hf660).1; have := (hf660).2; have := (i1).1; have := (i1).2; have := (i7).1; have := (i7).2; have := (iz662).1; have := (iz662).2; have := (i6).1; have := (i6).2; have : (σ2.1 663 a0).toInt = ((σ.1 663 a0) : Int32).toInt := congrArg Int32.toInt (show σ2.1 663 a0 = (σ.1 663 a0) from ((kp_c p3_0 (by decide)).trans rfl)); have : (σ2.1 660 a0).toInt = ((σ.1 660 a0) : Int32).toInt := congrArg Int32.toInt (show σ2.1 660 a0 = (σ.1 660 a0) from ((kp_c p3_0 (by decide)).trans rfl)); have : (σ2.1 661 a0).toInt = ((σ.1 661 a0) : Int32).toInt := congrArg Int32.toInt (show σ2.1 661 a0 = (σ.1 661 a0) from ((kp_c p3_0 (by decide)).trans rfl)); omega)), (by exact (by have := (ia1).1; have := (ia1).2; have := (iz663).1; have := (iz663).2; have := (hf660).1; have := (hf660).2; have := (i1).1; have := (i1).2; have := (i7).1; have := (i7).2; have := (iz662).1; have := (iz662).2; have := (i6).1; have := (i6).2; have : (σ2.1 663 a0).toInt = ((σ.1 663 a0) : Int32).toInt := congrArg Int32.toInt (show σ2.1 663 a0 = (σ.1 663 a0) from ((kp_c p3_0 (by decide)).trans rfl)); have : (σ2.1 660 a0).toInt = ((σ.1 660 a0) : Int32).toInt := congrArg Int32.toInt (show σ2.1 660 a0 = (σ.1 660 a0) from ((kp_c p3_0 (by decide)).trans rfl)); have : (σ2.1 661 a0).toInt = ((σ.1 661 a0) : Int32).toInt := congrArg Int32.toInt (show σ2.1 661 a0 = (σ.1 661 a0) from ((kp_c p3_0 (by decide)).trans rfl)); omega)), (by refine ⟨tC (fun i => σ.2.2.1 b0 i &&& 255) (σ.1 660 a0).toInt (σ.1 661 a0).toInt (σ.1 662 a0).toInt - a1.toInt, ?_⟩; have ps9 := p3_5; unfold PS at ps9; unfold O1; exact (by have := (ia1).1; have := (ia1).2; have := (iz663).1; have := (iz663).2; have := (hf660).1; have := (hf660).2; have := (i1).1; have := (i1).2; have := (i7).1; have := (i7).2; have := (iz662).1; have := (iz662).2; have := (i6).1; have := (i6).2; have : (σ2.1 663 a0).toInt = ((σ.1 663 a0) : Int32).toInt := congrArg Int32.toInt (show σ2.1 663 a0 = (σ.1 663 a0) from ((kp_c p3_0 (by decide)).trans rfl)); have : (σ2.1 660 a0).toInt = ((σ.1 660 a0) : Int32).toInt := congrArg Int32.toInt (show σ2.1 660 a0 = (σ.1 660 a0) from ((kp_c p3_0 (by decide)).trans rfl)); have : (σ2.1 661 a0).toInt = ((σ.1 661 a0) : Int32).toInt := congrArg Int32.toInt (show σ2.1 661 a0 = (σ.1 661 a0) from ((kp_c p3_0 (by decide)).trans rfl)); omega))⟩
  · --
    have i8 : Iv v3 0 0 := iv_eq1 c5 p3_1 (⟨by decide, by decide⟩ : Iv 0 0 0) (by decide)
    refine lv_aload_n hx hb dX11_need_8 rfl (lv_at hl 0 rfl) ?_
    refine lv_aload_n hx hb dX11_need_9 rfl (lv_at hl 0 rfl) ?_
    refine g_662 cx hw ha0 k_f_X11_120 dX11_need_10 (fun v9 e9 i9 => ?_)
    rw [show v9 = (σ2.1 662 a0) from e9.trans rfl]
    have z10 : (σ2.1 663 a0).toInt = ((σ.1 663 a0) : Int32).toInt := congrArg Int32.toInt (show σ2.1 663 a0 = (σ.1 663 a0) from ((kp_c p3_0 (by decide)).trans rfl))
    refine o_cv hw (oRunV cx hA hw q_X11_fault k_m_X11_138 rfl ha0 (by decide) (As := [.int (σ2.1 662 a0)]) (c_X11_fault a0 ha0 (σ2.1 662 a0) (iv_w i4 (by decide))) (by decide) rfl hl.1 rfl (Nat.le_of_ble_eq_true rfl) dX11_need_13 (by decide)) (fun σ11 H locs hp hw => ?_)
    obtain ⟨p12_0, p12_1⟩ := hp
    have fr := oFr_tr fr p12_0 (by decide)
    have i13 : Iv (σ11.1 663 a0) (-1) 200 := o_fb (j := 663) hw ha0 rfl
    have i14 : Iv (σ11.1 663 a0) 0 200 := (by have := (ia1).1; have := (ia1).2; have := (hf660).1; have := (hf660).2; have := (i1).1; have := (i1).2; have := (i4).1; have := (i4).2; have := (i13).1; have := (i13).2; have := (iz663).1; have := (iz663).2; have := (iz662).1; have := (iz662).2; have := (i8).1; have := (i8).2; have : (σ11.1 660 a0).toInt = ((σ.1 660 a0) : Int32).toInt := congrArg Int32.toInt (show σ11.1 660 a0 = (σ.1 660 a0) from ((kp_c p12_0 (by decide)).trans ((kp_c p3_0 (by decide)).trans rfl))); have : (σ11.1 661 a0).toInt = ((σ.1 661 a0) : Int32).toInt := congrArg Int32.toInt (show σ11.1 661 a0 = (σ.1 661 a0) from ((kp_c p12_0 (by decide)).trans ((kp_c p3_0 (by decide)).trans rfl))); have : (σ11.1 662 a0).toInt = ((σ2.1 662 a0) : Int32).toInt := congrArg Int32.toInt (show σ11.1 662 a0 = (σ2.1 662 a0) from ((kp_c p12_0 (by decide)).trans rfl)); have : (v3 : Int32).toInt = (0 : Int32).toInt := congrArg Int32.toInt c5; have : (0 : Int32).toInt = 0 := (by decide); exact ⟨by omega, by omega⟩)
    rw [← hQ]
    exact o_rv cx rx hw dX11_need_16 ⟨fr, (by exact (by have := (ia1).1; have := (ia1).2; have := (hf660).1; have := (hf660).2; have := (i1).1; have := (i1).2; have := (i4).1; have := (i4).2; have := (i14).1; have := (i14).2; have := (iz663).1; have := (iz663).2; have := (iz662).1; have := (iz662).2; have := (i8).1; have := (i8).2; have : (σ11.1 660 a0).toInt = ((σ.1 660 a0) : Int32).toInt := congrArg Int32.toInt (show σ11.1 660 a0 = (σ.1 660 a0) from ((kp_c p12_0 (by decide)).trans ((kp_c p3_0 (by decide)).trans rfl))); have : (σ11.1 661 a0).toInt = ((σ.1 661 a0) : Int32).toInt := congrArg Int32.toInt (show σ11.1 661 a0 = (σ.1 661 a0) from ((kp_c p12_0 (by decide)).trans ((kp_c p3_0 (by decide)).trans rfl))); have : (σ11.1 662 a0).toInt = ((σ2.1 662 a0) : Int32).toInt := congrArg Int32.toInt (show σ11.1 662 a0 = (σ2.1 662 a0) from ((kp_c p12_0 (by decide)).trans rfl)); have : (v3 : Int32).toInt = (0 : Int32).toInt := congrArg Int32.toInt c5; have : (0 : Int32).toInt = 0 := (by decide); omega)), (by exact (by have := (ia1).1; have := (ia1).2; have := (hf660).1; have := (hf660).2; have := (i1).1; have := (i1).2; have := (i4).1; have := (i4).2; have := (i14).1; have := (i14).2; have := (iz663).1; have := (iz663).2; have := (iz662).1; have := (iz662).2; have := (i8).1; have := (i8).2; have : (σ11.1 660 a0).toInt = ((σ.1 660 a0) : Int32).toInt := congrArg Int32.toInt (show σ11.1 660 a0 = (σ.1 660 a0) from ((kp_c p12_0 (by decide)).trans ((kp_c p3_0 (by decide)).trans rfl))); have : (σ11.1 661 a0).toInt = ((σ.1 661 a0) : Int32).toInt := congrArg Int32.toInt (show σ11.1 661 a0 = (σ.1 661 a0) from ((kp_c p12_0 (by decide)).trans ((kp_c p3_0 (by decide)).trans rfl))); have : (σ11.1 662 a0).toInt = ((σ2.1 662 a0) : Int32).toInt := congrArg Int32.toInt (show σ11.1 662 a0 = (σ2.1 662 a0) from ((kp_c p12_0 (by decide)).trans rfl)); have : (v3 : Int32).toInt = (0 : Int32).toInt := congrArg Int32.toInt c5; have : (0 : Int32).toInt = 0 := (by decide); omega)), (by refine ⟨tC (fun i => σ.2.2.1 b0 i &&& 255) (σ.1 660 a0).toInt (σ.1 661 a0).toInt (σ.1 662 a0).toInt - a1.toInt, ?_⟩; have ps9 := p3_5; unfold PS at ps9; unfold O1; exact (by have := (ia1).1; have := (ia1).2; have := (hf660).1; have := (hf660).2; have := (i1).1; have := (i1).2; have := (i4).1; have := (i4).2; have := (i14).1; have := (i14).2; have := (iz663).1; have := (iz663).2; have := (iz662).1; have := (iz662).2; have := (i8).1; have := (i8).2; have : (σ11.1 660 a0).toInt = ((σ.1 660 a0) : Int32).toInt := congrArg Int32.toInt (show σ11.1 660 a0 = (σ.1 660 a0) from ((kp_c p12_0 (by decide)).trans ((kp_c p3_0 (by decide)).trans rfl))); have : (σ11.1 661 a0).toInt = ((σ.1 661 a0) : Int32).toInt := congrArg Int32.toInt (show σ11.1 661 a0 = (σ.1 661 a0) from ((kp_c p12_0 (by decide)).trans ((kp_c p3_0 (by decide)).trans rfl))); have : (σ11.1 662 a0).toInt = ((σ2.1 662 a0) : Int32).toInt := congrArg Int32.toInt (show σ11.1 662 a0 = (σ2.1 662 a0) from ((kp_c p12_0 (by decide)).trans rfl)); have : (v3 : Int32).toInt = (0 : Int32).toInt := congrArg Int32.toInt c5; have : (0 : Int32).toInt = 0 := (by decide); omega))⟩
abbrev fs_X11_oneOfT : List Nat := [662, 663]
abbrev ts_X11_oneOfT : List Nat := []
set_option maxHeartbeats 4000000 in
set_option maxRecDepth 100000 in
theorem c_X11_oneOfT (a0 : Nat) (ha0 : oA L τ a0 10) (a1 : Int32) (ia1 : Iv a1 48 97) (a2 : Int32) (ia2 : Iv a2 0 10) (b0 : Nat) (hF0 : σ.2.2.2.2 659 a0 = some b0) (hb0 : oA L τ b0 51) (hf660 : Iv (σ.1 660 a0) 0 80) : oMet l A L τ cy D K yX11_oneOf cX11_oneOf 3 (some .int) 2 41 [.ref a0, .int a1, .int a2] σ (va_Qi (fun r σ1 => oFr τ fs_X11_oneOfT ts_X11_oneOfT σ σ1 ∧ Iv r (-225) 79 ∧ (0 ≤ r.toInt ∧ (r.toInt = 0 ∨ r.toInt < a2.toInt)) ∧ ((σ.1 662 a0).toInt ≤ (σ1.1 662 a0).toInt ∧ (σ1.1 662 a0).toInt ≤ (σ.1 662 a0).toInt + 1) ∧ ((σ.1 662 a0).toInt ≤ (σ.1 661 a0).toInt → (σ1.1 662 a0).toInt ≤ (σ.1 661 a0).toInt) ∧ (O1 (fun i => σ.2.2.1 b0 i &&& 255) (σ.1 660 a0).toInt (σ.1 661 a0).toInt a1.toInt (a1.toInt + a2.toInt - 1) (σ.1 663 a0).toInt (σ.1 662 a0).toInt (σ1.1 663 a0).toInt (σ1.1 662 a0).toInt r.toInt)) (oPo A L τ cy D) A) := by
  refine oMk (by decide) (Nat.le_of_ble_eq_true rfl) rfl ?_
  intro p e s m args below meth c ls cx rx hA hw hl
  generalize hQ : MQ below _ args s 0 0 A = Q
  have hx := cx.1.1
  have hb := cx.1.2.1
  have hml := cx.1.2.2.1
  have hown := cx.1.2.2.2.1
  have hts := cx.1.2.2.2.2
  have hl : lv_has ls 3 [(0, .ref a0), (1, .int a1), (2, .int a2)] := hl
  have fr : oFr τ fs_X11_oneOfT ts_X11_oneOfT σ σ := oFr_rf
  have iz663 : Iv (σ.1 663 a0) (-1) 200 := o_fb (j := 663) hw ha0 rfl
  have iz662 : Iv (σ.1 662 a0) (0) 200 := o_fb (j := 662) hw ha0 rfl
  refine lv_aload_n hx hb dX11_oneOf_0 rfl (lv_at hl 0 rfl) ?_
  refine o_ci hw (oRunV cx hA hw q_X11_fine k_m_X11_126 rfl ha0 (by decide) (As := []) (c_X11_fine a0 ha0) (by decide) rfl hl.1 rfl (Nat.le_of_ble_eq_true rfl) dX11_oneOf_1 (by decide)) (fun v2 σ1 H locs hp hw => ?_)
  obtain ⟨p2_0, p2_1, p2_2⟩ := hp
  rw [p2_0] at hw
  refine lv_if_ne (tgt := 9) hx hb dX11_oneOf_4 (by decide) (fun c3 => ?_) (fun c3 => ?_)
  · --
    have i4 : Iv v2 1 1 := iv_ne1 c3 p2_1 (⟨by decide, by decide⟩ : Iv 0 0 0) (by decide)
    have i5 : Iv (σ.1 663 a0) (-1) (-1) := (fun h => (by have := nz_ti h; have := (ia1).1; have := (ia1).2; have := (ia2).1; have := (ia2).2; have := (p2_1).1; have := (p2_1).2; have := (iz663).1; have := (iz663).2; have := (iz662).1; have := (iz662).2; have := (hf660).1; have := (hf660).2; exact ⟨by omega, by omega⟩)) c3
    refine lv_aload_n hx hb dX11_oneOf_9 rfl (lv_at hl 0 rfl) ?_
    have i6 : Iv (σ.1 661 a0) 0 80 := o_fb (j := 661) hw ha0 rfl
    refine o_ci hw (oRunV cx hA hw q_X11_here k_m_X11_130 rfl ha0 (by decide) (As := []) (c_X11_hereT a0 ha0 b0 (hF0) hb0 (kn_iv (rfl) (iv_w hf660 (by decide)))) (by decide) rfl hl.1 rfl (Nat.le_of_ble_eq_true rfl) dX11_oneOf_10 (by decide)) (fun v8 σ7 H locs hp hw => ?_)
    obtain ⟨p8_0, p8_1, p8_2, p8_3, p8_4, p8_5, p8_6⟩ := hp
    rw [p8_0] at hw
    have hnv8 := congrArg Int32.toInt p8_6
    refine lv_iload_n hx hb dX11_oneOf_13 rfl (lv_at hl 1 rfl) ?_
    refine lv_iload_n hx hb dX11_oneOf_14 rfl (lv_at hl 1 rfl) ?_
    refine lv_iload_n hx hb dX11_oneOf_15 rfl (lv_at hl 2 rfl) ?_
    refine lv_iadd hx hb dX11_oneOf_16 ?_
    refine lv_topi (fun v9 e9 => ?_)
    have i9 : Iv v9 48 107 := iv_add e9 ia1 ia2 (by decide)
    have x9 : v9.toInt = a1.toInt + a2.toInt := ex_add e9 ia1 ia2 (by decide)
    refine lv_iconst (v := 1) hx hb dX11_oneOf_17 (by decide) ?_
    refine lv_isub hx hb dX11_oneOf_18 ?_
    refine lv_topi (fun v10 e10 => ?_)
    have i10 : Iv v10 47 106 := iv_sub e10 i9 (⟨by decide, by decide⟩ : Iv 1 1 1) (by decide)
    have x10 : v10.toInt = v9.toInt + (-1) := ex_sub e10 i9 (⟨by decide, by decide⟩ : Iv 1 1 1) (by decide)
    refine o_ci hw (oRunS cx hA hw q_X11_in k_m_X11_95 (As := [.int v8, .int a1, .int v10]) (c_X11_in v8 a1 v10) (by decide) rfl hl.1 rfl (Nat.le_of_ble_eq_true rfl) dX11_oneOf_19 (by decide)) (fun v12 σ11 H locs hp hw => ?_)
    obtain ⟨p12_0, p12_1, p12_2, p12_3, p12_4⟩ := hp
    rw [p12_0] at hw
    refine lv_if_ne (tgt := 35) hx hb dX11_oneOf_22 (by decide) (fun c13 => ?_) (fun c13 => ?_)
    · --
      have i14 : Iv v12 1 1 := iv_ne1 c13 p12_1 (⟨by decide, by decide⟩ : Iv 0 0 0) (by decide)
      have l15 : a1.toInt ≤ v8.toInt + 0 := le_of (p12_2 c13).1
      have l16 : v8.toInt ≤ v10.toInt + 0 := le_of (p12_2 c13).2
      have i17 : Iv v8 48 106 := (fun h => iv_rel (p12_2 h) ia1 i10) c13
      have i18 : Iv (σ.1 662 a0) 0 79 := (fun h => kn_iv2 (rfl) (p8_2 h)) (ge0_iv i17 (by decide))
      refine lv_aload_n hx hb dX11_oneOf_35 rfl (lv_at hl 0 rfl) ?_
      refine lv_dup hx hb dX11_oneOf_36 rfl ?_
      refine g_662 cx hw ha0 k_f_X11_120 dX11_oneOf_37 (fun v19 e19 i19 => ?_)
      rw [show v19 = (σ.1 662 a0) from e19.trans rfl]
      refine lv_iconst (v := 1) hx hb dX11_oneOf_40 (by decide) ?_
      refine lv_iadd hx hb dX11_oneOf_41 ?_
      refine lv_topi (fun v20 e20 => ?_)
      have i20 : Iv v20 1 80 := iv_add e20 i18 (⟨by decide, by decide⟩ : Iv 1 1 1) (by decide)
      have x20 : v20.toInt = (σ.1 662 a0).toInt + 1 := ex_add e20 i18 (⟨by decide, by decide⟩ : Iv 1 1 1) (by decide)
      refine p_662 cx hw ha0 (iv_w i20 (by decide)) k_f_X11_120 dX11_oneOf_42 (fun σ21 H locs eσ21 hw => ?_)
      have fr := oFr_i fr eσ21 (by decide)
      refine lv_aload_n hx hb dX11_oneOf_45 rfl (lv_at hl 0 rfl) ?_
      refine g_659 cx hw ha0 (((kr_i eσ21).trans hF0)) k_f_X11_111 dX11_oneOf_46 ?_
      refine lv_aload_n hx hb dX11_oneOf_49 rfl (lv_at hl 0 rfl) ?_
      refine g_662 cx hw ha0 k_f_X11_120 dX11_oneOf_50 (fun v23 e23 i23 => ?_)
      rw [show v23 = v20 from e23.trans (kp_s eσ21)]
      refine lv_iconst (v := 1) hx hb dX11_oneOf_53 (by decide) ?_
      refine lv_isub hx hb dX11_oneOf_54 ?_
      refine lv_topi (fun v24 e24 => ?_)
      have i24 : Iv v24 0 79 := iv_sub e24 i20 (⟨by decide, by decide⟩ : Iv 1 1 1) (by decide)
      have x24 : v24.toInt = v20.toInt + (-1) := ex_sub e24 i20 (⟨by decide, by decide⟩ : Iv 1 1 1) (by decide)
      refine o_bald cx hw hb0 (by decide) rfl (iv_in i24 (by decide)) dX11_oneOf_55 (fun v25 e25 b25 => ?_)
      have i25 : Iv v25 (-128) 127 := b25
      refine lv_iload_n hx hb dX11_oneOf_56 rfl (lv_at hl 1 rfl) ?_
      refine lv_isub hx hb dX11_oneOf_57 ?_
      refine lv_topi (fun v26 e26 => ?_)
      have i26 : Iv v26 (-225) 79 := iv_sub e26 i25 ia1 (by decide)
      have x26 : v26.toInt = v25.toInt - a1.toInt := ex_sub e26 i25 ia1 (by decide)
      rw [← hQ]
      exact o_ri cx rx hw dX11_oneOf_58 ⟨fr, (iv_w i26 (by decide)), (by have q1 : v24 = σ.1 662 a0 := Int32.toInt_inj.mp ((by have := (ia1).1; have := (ia1).2; have := (ia2).1; have := (ia2).2; have := (i26).1; have := (i26).2; have := (i5).1; have := (i5).2; have := (hf660).1; have := (hf660).2; have := (i6).1; have := (i6).2; have := (i20).1; have := (i20).2; have := (i24).1; have := (i24).2; have := (i18).1; have := (i18).2; have := (i4).1; have := (i4).2; have := (i17).1; have := (i17).2; have := (i9).1; have := (i9).2; have := (i10).1; have := (i10).2; have := (i14).1; have := (i14).2; have := (i25).1; have := (i25).2; have : (σ21.1 663 a0).toInt = ((σ.1 663 a0) : Int32).toInt := congrArg Int32.toInt (show σ21.1 663 a0 = (σ.1 663 a0) from ((kp_i eσ21 (by decide)).trans rfl)); have : (σ21.1 660 a0).toInt = ((σ.1 660 a0) : Int32).toInt := congrArg Int32.toInt (show σ21.1 660 a0 = (σ.1 660 a0) from ((kp_i eσ21 (by decide)).trans rfl)); have : (σ21.1 661 a0).toInt = ((σ.1 661 a0) : Int32).toInt := congrArg Int32.toInt (show σ21.1 661 a0 = (σ.1 661 a0) from ((kp_i eσ21 (by decide)).trans rfl)); have : (σ21.1 662 a0).toInt = (v20 : Int32).toInt := congrArg Int32.toInt (show σ21.1 662 a0 = v20 from (kp_s eσ21)); omega)); have q2 : v25 = σ.2.2.1 b0 (σ.1 662 a0).toNatClampNeg := (by rw [e25, q1, eσ21]); have q3 : v8 = v25 &&& 255 := p8_3.elim (fun h => absurd (i17).1 (by rw [h]; decide)) (fun h => h.trans (by rw [q2])); have q4 := by_and q3 i25; have q5 := (i17).2; have q6 := (i25).1; have q7 := ex_sub e26 i25 ia1 (by decide); have q8 := ex_add e9 ia1 ia2 (by decide);  exact (by have := (ia1).1; have := (ia1).2; have := (ia2).1; have := (ia2).2; have := (i26).1; have := (i26).2; have := (i5).1; have := (i5).2; have := (hf660).1; have := (hf660).2; have := (i6).1; have := (i6).2; have := (i20).1; have := (i20).2; have := (i25).1; have := (i25).2; have := (i18).1; have := (i18).2; have := (i4).1; have := (i4).2; have := (i17).1; have := (i17).2; have := (i9).1; have := (i9).2; have := (i10).1; have := (i10).2; have := (i14).1; have := (i14).2; have := (i24).1; have := (i24).2; have : (σ21.1 663 a0).toInt = ((σ.1 663 a0) : Int32).toInt := congrArg Int32.toInt (show σ21.1 663 a0 = (σ.1 663 a0) from ((kp_i eσ21 (by decide)).trans rfl)); have : (σ21.1 660 a0).toInt = ((σ.1 660 a0) : Int32).toInt := congrArg Int32.toInt (show σ21.1 660 a0 = (σ.1 660 a0) from ((kp_i eσ21 (by decide)).trans rfl)); have : (σ21.1 661 a0).toInt = ((σ.1 661 a0) : Int32).toInt := congrArg Int32.toInt (show σ21.1 661 a0 = (σ.1 661 a0) from ((kp_i eσ21 (by decide)).trans rfl)); have : (σ21.1 662 a0).toInt = (v20 : Int32).toInt := congrArg Int32.toInt (show σ21.1 662 a0 = v20 from (kp_s eσ21)); exact ⟨by omega, by omega⟩)), (by exact (by have := (ia1).1; have := (ia1).2; have := (ia2).1; have := (ia2).2; have := (i26).1; have := (i26).2; have := (i5).1; have := (i5).2; have := (hf660).1; have := (hf660).2; have := (i6).1; have := (i6).2; have := (i20).1; have := (i20).2; have := (i18).1; have := (i18).2; have := (i4).1; have := (i4).2; have := (i17).1; have := (i17).2; have := (i9).1; have := (i9).2; have := (i10).1; have := (i10).2; have := (i14).1; have := (i14).2; have := (i24).1; have := (i24).2; have := (i25).1; have := (i25).2; have : (σ21.1 663 a0).toInt = ((σ.1 663 a0) : Int32).toInt := congrArg Int32.toInt (show σ21.1 663 a0 = (σ.1 663 a0) from ((kp_i eσ21 (by decide)).trans rfl)); have : (σ21.1 660 a0).toInt = ((σ.1 660 a0) : Int32).toInt := congrArg Int32.toInt (show σ21.1 660 a0 = (σ.1 660 a0) from ((kp_i eσ21 (by decide)).trans rfl)); have : (σ21.1 661 a0).toInt = ((σ.1 661 a0) : Int32).toInt := congrArg Int32.toInt (show σ21.1 661 a0 = (σ.1 661 a0) from ((kp_i eσ21 (by decide)).trans rfl)); have : (σ21.1 662 a0).toInt = (v20 : Int32).toInt := congrArg Int32.toInt (show σ21.1 662 a0 = v20 from (kp_s eσ21)); omega)), (by exact (by have := (ia1).1; have := (ia1).2; have := (ia2).1; have := (ia2).2; have := (i26).1; have := (i26).2; have := (i5).1; have := (i5).2; have := (hf660).1; have := (hf660).2; have := (i6).1; have := (i6).2; have := (i20).1; have := (i20).2; have := (i18).1; have := (i18).2; have := (i4).1; have := (i4).2; have := (i17).1; have := (i17).2; have := (i9).1; have := (i9).2; have := (i10).1; have := (i10).2; have := (i14).1; have := (i14).2; have := (i24).1; have := (i24).2; have := (i25).1; have := (i25).2; have : (σ21.1 663 a0).toInt = ((σ.1 663 a0) : Int32).toInt := congrArg Int32.toInt (show σ21.1 663 a0 = (σ.1 663 a0) from ((kp_i eσ21 (by decide)).trans rfl)); have : (σ21.1 660 a0).toInt = ((σ.1 660 a0) : Int32).toInt := congrArg Int32.toInt (show σ21.1 660 a0 = (σ.1 660 a0) from ((kp_i eσ21 (by decide)).trans rfl)); have : (σ21.1 661 a0).toInt = ((σ.1 661 a0) : Int32).toInt := congrArg Int32.toInt (show σ21.1 661 a0 = (σ.1 661 a0) from ((kp_i eσ21 (by decide)).trans rfl)); have : (σ21.1 662 a0).toInt = (v20 : Int32).toInt := congrArg Int32.toInt (show σ21.1 662 a0 = v20 from (kp_s eσ21)); omega)), (by unfold O1; have th9 := hr_tC (g := σ.2.2.1 b0) (n := (σ.1 660 a0).toInt) (m := (σ.1 661 a0).toInt) (p := (σ.1 662 a0).toInt) (v := hr_F (σ.2.2.1 b0) (σ.1 662 a0) (σ.1 660 a0) (σ.1 661 a0)) rfl rfl rfl rfl rfl (by have := (ia1).1; have := (ia1).2; have := (ia2).1; have := (ia2).2; have := (i26).1; have := (i26).2; have := (i5).1; have := (i5).2; have := (hf660).1; have := (hf660).2; have := (i6).1; have := (i6).2; have := (i20).1; have := (i20).2; have := (i18).1; have := (i18).2; have := (i4).1; have := (i4).2; have := (i17).1; have := (i17).2; have := (i9).1; have := (i9).2; have := (i10).1; have := (i10).2; have := (i14).1; have := (i14).2; have := (i24).1; have := (i24).2; have := (i25).1; have := (i25).2; have : (σ21.1 663 a0).toInt = ((σ.1 663 a0) : Int32).toInt := congrArg Int32.toInt (show σ21.1 663 a0 = (σ.1 663 a0) from ((kp_i eσ21 (by decide)).trans rfl)); have : (σ21.1 660 a0).toInt = ((σ.1 660 a0) : Int32).toInt := congrArg Int32.toInt (show σ21.1 660 a0 = (σ.1 660 a0) from ((kp_i eσ21 (by decide)).trans rfl)); have : (σ21.1 661 a0).toInt = ((σ.1 661 a0) : Int32).toInt := congrArg Int32.toInt (show σ21.1 661 a0 = (σ.1 661 a0) from ((kp_i eσ21 (by decide)).trans rfl)); have : (σ21.1 662 a0).toInt = (v20 : Int32).toInt := congrArg Int32.toInt (show σ21.1 662 a0 = v20 from (kp_s eσ21)); omega); have b9 := and255 i25; have t9 : (v25 &&& 255).toInt = tC (fun i => σ.2.2.1 b0 i &&& 255) (σ.1 660 a0).toInt (σ.1 661 a0).toInt (σ.1 662 a0).toInt := tC_at (f := (fun i => σ.2.2.1 b0 i &&& 255)) (y := v24) (by have := (ia1).1; have := (ia1).2; have := (ia2).1; have := (ia2).2; have := (i26).1; have := (i26).2; have := (i5).1; have := (i5).2; have := (hf660).1; have := (hf660).2; have := (i6).1; have := (i6).2; have := (i20).1; have := (i20).2; have := (i18).1; have := (i18).2; have := (i4).1; have := (i4).2; have := (i17).1; have := (i17).2; have := (i9).1; have := (i9).2; have := (i10).1; have := (i10).2; have := (i14).1; have := (i14).2; have := (i24).1; have := (i24).2; have := (i25).1; have := (i25).2; have : (σ21.1 663 a0).toInt = ((σ.1 663 a0) : Int32).toInt := congrArg Int32.toInt (show σ21.1 663 a0 = (σ.1 663 a0) from ((kp_i eσ21 (by decide)).trans rfl)); have : (σ21.1 660 a0).toInt = ((σ.1 660 a0) : Int32).toInt := congrArg Int32.toInt (show σ21.1 660 a0 = (σ.1 660 a0) from ((kp_i eσ21 (by decide)).trans rfl)); have : (σ21.1 661 a0).toInt = ((σ.1 661 a0) : Int32).toInt := congrArg Int32.toInt (show σ21.1 661 a0 = (σ.1 661 a0) from ((kp_i eσ21 (by decide)).trans rfl)); have : (σ21.1 662 a0).toInt = (v20 : Int32).toInt := congrArg Int32.toInt (show σ21.1 662 a0 = v20 from (kp_s eσ21)); omega) (by have := (ia1).1; have := (ia1).2; have := (ia2).1; have := (ia2).2; have := (i26).1; have := (i26).2; have := (i5).1; have := (i5).2; have := (hf660).1; have := (hf660).2; have := (i6).1; have := (i6).2; have := (i20).1; have := (i20).2; have := (i18).1; have := (i18).2; have := (i4).1; have := (i4).2; have := (i17).1; have := (i17).2; have := (i9).1; have := (i9).2; have := (i10).1; have := (i10).2; have := (i14).1; have := (i14).2; have := (i24).1; have := (i24).2; have := (i25).1; have := (i25).2; have : (σ21.1 663 a0).toInt = ((σ.1 663 a0) : Int32).toInt := congrArg Int32.toInt (show σ21.1 663 a0 = (σ.1 663 a0) from ((kp_i eσ21 (by decide)).trans rfl)); have : (σ21.1 660 a0).toInt = ((σ.1 660 a0) : Int32).toInt := congrArg Int32.toInt (show σ21.1 660 a0 = (σ.1 660 a0) from ((kp_i eσ21 (by decide)).trans rfl)); have : (σ21.1 661 a0).toInt = ((σ.1 661 a0) : Int32).toInt := congrArg Int32.toInt (show σ21.1 661 a0 = (σ.1 661 a0) from ((kp_i eσ21 (by decide)).trans rfl)); have : (σ21.1 662 a0).toInt = (v20 : Int32).toInt := congrArg Int32.toInt (show σ21.1 662 a0 = v20 from (kp_s eσ21)); omega) (by have := (ia1).1; have := (ia1).2; have := (ia2).1; have := (ia2).2; have := (i26).1; have := (i26).2; have := (i5).1; have := (i5).2; have := (hf660).1; have := (hf660).2; have := (i6).1; have := (i6).2; have := (i20).1; have := (i20).2; have := (i24).1; have := (i24).2; have := (i18).1; have := (i18).2; have := (i4).1; have := (i4).2; have := (i17).1; have := (i17).2; have := (i9).1; have := (i9).2; have := (i10).1; have := (i10).2; have := (i14).1; have := (i14).2; have := (i25).1; have := (i25).2; have : (σ21.1 663 a0).toInt = ((σ.1 663 a0) : Int32).toInt := congrArg Int32.toInt (show σ21.1 663 a0 = (σ.1 663 a0) from ((kp_i eσ21 (by decide)).trans rfl)); have : (σ21.1 660 a0).toInt = ((σ.1 660 a0) : Int32).toInt := congrArg Int32.toInt (show σ21.1 660 a0 = (σ.1 660 a0) from ((kp_i eσ21 (by decide)).trans rfl)); have : (σ21.1 661 a0).toInt = ((σ.1 661 a0) : Int32).toInt := congrArg Int32.toInt (show σ21.1 661 a0 = (σ.1 661 a0) from ((kp_i eσ21 (by decide)).trans rfl)); have : (σ21.1 662 a0).toInt = (v20 : Int32).toInt := congrArg Int32.toInt (show σ21.1 662 a0 = v20 from (kp_s eσ21)); omega) (by rw [e25, show σ21.2.2.1 b0 = σ.2.2.1 b0 from ((rw_i eσ21).trans rfl)]); exact (by have := (ia1).1; have := (ia1).2; have := (ia2).1; have := (ia2).2; have := (i26).1; have := (i26).2; have := (i5).1; have := (i5).2; have := (hf660).1; have := (hf660).2; have := (i6).1; have := (i6).2; have := (i20).1; have := (i20).2; have := (i18).1; have := (i18).2; have := (i4).1; have := (i4).2; have := (i17).1; have := (i17).2; have := (i9).1; have := (i9).2; have := (i10).1; have := (i10).2; have := (i14).1; have := (i14).2; have := (i24).1; have := (i24).2; have := (i25).1; have := (i25).2; have : (σ21.1 663 a0).toInt = ((σ.1 663 a0) : Int32).toInt := congrArg Int32.toInt (show σ21.1 663 a0 = (σ.1 663 a0) from ((kp_i eσ21 (by decide)).trans rfl)); have : (σ21.1 660 a0).toInt = ((σ.1 660 a0) : Int32).toInt := congrArg Int32.toInt (show σ21.1 660 a0 = (σ.1 660 a0) from ((kp_i eσ21 (by decide)).trans rfl)); have : (σ21.1 661 a0).toInt = ((σ.1 661 a0) : Int32).toInt := congrArg Int32.toInt (show σ21.1 661 a0 = (σ.1 661 a0) from ((kp_i eσ21 (by decide)).trans rfl)); have : (σ21.1 662 a0).toInt = (v20 : Int32).toInt := congrArg Int32.toInt (show σ21.1 662 a0 = v20 from (kp_s eσ21)); omega))⟩
    · --
      have i27 : Iv v12 0 0 := iv_eq1 c13 p12_1 (⟨by decide, by decide⟩ : Iv 0 0 0) (by decide)
      refine lv_aload_n hx hb dX11_oneOf_25 rfl (lv_at hl 0 rfl) ?_
      refine lv_aload_n hx hb dX11_oneOf_26 rfl (lv_at hl 0 rfl) ?_
      refine g_662 cx hw ha0 k_f_X11_120 dX11_oneOf_27 (fun v28 e28 i28 => ?_)
      rw [show v28 = (σ.1 662 a0) from e28.trans rfl]
      refine o_cv hw (oRunV cx hA hw q_X11_fault k_m_X11_138 rfl ha0 (by decide) (As := [.int (σ.1 662 a0)]) (c_X11_fault a0 ha0 (σ.1 662 a0) (iv_w iz662 (by decide))) (by decide) rfl hl.1 rfl (Nat.le_of_ble_eq_true rfl) dX11_oneOf_30 (by decide)) (fun σ29 H locs hp hw => ?_)
      obtain ⟨p30_0, p30_1⟩ := hp
      have fr := oFr_tr fr p30_0 (by decide)
      have i31 : Iv (σ29.1 663 a0) (-1) 200 := o_fb (j := 663) hw ha0 rfl
      have i32 : Iv (σ29.1 663 a0) 0 200 := (by have := (ia1).1; have := (ia1).2; have := (ia2).1; have := (ia2).2; have := (iz662).1; have := (iz662).2; have := (hf660).1; have := (hf660).2; have := (i6).1; have := (i6).2; have := (i31).1; have := (i31).2; have := (i5).1; have := (i5).2; have := (i4).1; have := (i4).2; have := (p8_1).1; have := (p8_1).2; have := (i9).1; have := (i9).2; have := (i10).1; have := (i10).2; have := (i27).1; have := (i27).2; have : (σ29.1 662 a0).toInt = ((σ.1 662 a0) : Int32).toInt := congrArg Int32.toInt (show σ29.1 662 a0 = (σ.1 662 a0) from ((kp_c p30_0 (by decide)).trans rfl)); have : (σ29.1 660 a0).toInt = ((σ.1 660 a0) : Int32).toInt := congrArg Int32.toInt (show σ29.1 660 a0 = (σ.1 660 a0) from ((kp_c p30_0 (by decide)).trans rfl)); have : (σ29.1 661 a0).toInt = ((σ.1 661 a0) : Int32).toInt := congrArg Int32.toInt (show σ29.1 661 a0 = (σ.1 661 a0) from ((kp_c p30_0 (by decide)).trans rfl)); have : (v12 : Int32).toInt = (0 : Int32).toInt := congrArg Int32.toInt c13; have : (0 : Int32).toInt = 0 := (by decide); exact ⟨by omega, by omega⟩)
      refine lv_iconst (v := 0) hx hb dX11_oneOf_33 (by decide) ?_
      rw [← hQ]
      exact o_ri cx rx hw dX11_oneOf_34 ⟨fr, (iv_w (⟨by decide, by decide⟩ : Iv 0 0 0) (by decide)), ⟨by decide, Or.inl (by decide)⟩, (by exact (by have := (ia1).1; have := (ia1).2; have := (ia2).1; have := (ia2).2; have := (iz662).1; have := (iz662).2; have := (hf660).1; have := (hf660).2; have := (i6).1; have := (i6).2; have := (i32).1; have := (i32).2; have := (i5).1; have := (i5).2; have := (i4).1; have := (i4).2; have := (p8_1).1; have := (p8_1).2; have := (i9).1; have := (i9).2; have := (i10).1; have := (i10).2; have := (i27).1; have := (i27).2; have : (σ29.1 662 a0).toInt = ((σ.1 662 a0) : Int32).toInt := congrArg Int32.toInt (show σ29.1 662 a0 = (σ.1 662 a0) from ((kp_c p30_0 (by decide)).trans rfl)); have : (σ29.1 660 a0).toInt = ((σ.1 660 a0) : Int32).toInt := congrArg Int32.toInt (show σ29.1 660 a0 = (σ.1 660 a0) from ((kp_c p30_0 (by decide)).trans rfl)); have : (σ29.1 661 a0).toInt = ((σ.1 661 a0) : Int32).toInt := congrArg Int32.toInt (show σ29.1 661 a0 = (σ.1 661 a0) from ((kp_c p30_0 (by decide)).trans rfl)); have : (v12 : Int32).toInt = (0 : Int32).toInt := congrArg Int32.toInt c13; have : (0 : Int32).toInt = 0 := (by decide); omega)), (by exact (by have := (ia1).1; have := (ia1).2; have := (ia2).1; have := (ia2).2; have := (iz662).1; have := (iz662).2; have := (hf660).1; have := (hf660).2; have := (i6).1; have := (i6).2; have := (i32).1; have := (i32).2; have := (i5).1; have := (i5).2; have := (i4).1; have := (i4).2; have := (p8_1).1; have := (p8_1).2; have := (i9).1; have := (i9).2; have := (i10).1; have := (i10).2; have := (i27).1; have := (i27).2; have : (σ29.1 662 a0).toInt = ((σ.1 662 a0) : Int32).toInt := congrArg Int32.toInt (show σ29.1 662 a0 = (σ.1 662 a0) from ((kp_c p30_0 (by decide)).trans rfl)); have : (σ29.1 660 a0).toInt = ((σ.1 660 a0) : Int32).toInt := congrArg Int32.toInt (show σ29.1 660 a0 = (σ.1 660 a0) from ((kp_c p30_0 (by decide)).trans rfl)); have : (σ29.1 661 a0).toInt = ((σ.1 661 a0) : Int32).toInt := congrArg Int32.toInt (show σ29.1 661 a0 = (σ.1 661 a0) from ((kp_c p30_0 (by decide)).trans rfl)); have : (v12 : Int32).toInt = (0 : Int32).toInt := congrArg Int32.toInt c13; have : (0 : Int32).toInt = 0 := (by decide); omega)), (by unfold O1; have th9 := hr_tC (g := σ.2.2.1 b0) (n := (σ.1 660 a0).toInt) (m := (σ.1 661 a0).toInt) (p := (σ.1 662 a0).toInt) (v := hr_F (σ.2.2.1 b0) (σ.1 662 a0) (σ.1 660 a0) (σ.1 661 a0)) rfl rfl rfl rfl rfl (by have := (ia1).1; have := (ia1).2; have := (ia2).1; have := (ia2).2; have := (iz662).1; have := (iz662).2; have := (hf660).1; have := (hf660).2; have := (i6).1; have := (i6).2; have := (i32).1; have := (i32).2; have := (i5).1; have := (i5).2; have := (i4).1; have := (i4).2; have := (p8_1).1; have := (p8_1).2; have := (i9).1; have := (i9).2; have := (i10).1; have := (i10).2; have := (i27).1; have := (i27).2; have : (σ29.1 662 a0).toInt = ((σ.1 662 a0) : Int32).toInt := congrArg Int32.toInt (show σ29.1 662 a0 = (σ.1 662 a0) from ((kp_c p30_0 (by decide)).trans rfl)); have : (σ29.1 660 a0).toInt = ((σ.1 660 a0) : Int32).toInt := congrArg Int32.toInt (show σ29.1 660 a0 = (σ.1 660 a0) from ((kp_c p30_0 (by decide)).trans rfl)); have : (σ29.1 661 a0).toInt = ((σ.1 661 a0) : Int32).toInt := congrArg Int32.toInt (show σ29.1 661 a0 = (σ.1 661 a0) from ((kp_c p30_0 (by decide)).trans rfl)); have : (v12 : Int32).toInt = (0 : Int32).toInt := congrArg Int32.toInt c13; have : (0 : Int32).toInt = 0 := (by decide); omega); exact (by have := (ia1).1; have := (ia1).2; have := (ia2).1; have := (ia2).2; have := (iz662).1; have := (iz662).2; have := (hf660).1; have := (hf660).2; have := (i6).1; have := (i6).2; have := (i32).1; have := (i32).2; have := (i5).1; have := (i5).2; have := (i4).1; have := (i4).2; have := (p8_1).1; have := (p8_1).2; have := (i9).1; have := (i9).2; have := (i10).1; have := (i10).2; have := (i27).1; have := (i27).2; have : (σ29.1 662 a0).toInt = ((σ.1 662 a0) : Int32).toInt := congrArg Int32.toInt (show σ29.1 662 a0 = (σ.1 662 a0) from ((kp_c p30_0 (by decide)).trans rfl)); have : (σ29.1 660 a0).toInt = ((σ.1 660 a0) : Int32).toInt := congrArg Int32.toInt (show σ29.1 660 a0 = (σ.1 660 a0) from ((kp_c p30_0 (by decide)).trans rfl)); have : (σ29.1 661 a0).toInt = ((σ.1 661 a0) : Int32).toInt := congrArg Int32.toInt (show σ29.1 661 a0 = (σ.1 661 a0) from ((kp_c p30_0 (by decide)).trans rfl)); have : (v12 : Int32).toInt = (0 : Int32).toInt := congrArg Int32.toInt c13; have : (0 : Int32).toInt = 0 := (by decide); omega))⟩
  · --
    have i33 : Iv (σ.1 663 a0) 0 200 := (fun h => (by have := z_ti h; have := (ia1).1; have := (ia1).2; have := (ia2).1; have := (ia2).2; have := (p2_1).1; have := (p2_1).2; have := (iz663).1; have := (iz663).2; have := (iz662).1; have := (iz662).2; have := (hf660).1; have := (hf660).2; exact ⟨by omega, by omega⟩)) c3
    have i34 : Iv v2 0 0 := iv_eq1 c3 p2_1 (⟨by decide, by decide⟩ : Iv 0 0 0) (by decide)
    refine lv_iconst (v := 0) hx hb dX11_oneOf_7 (by decide) ?_
    rw [← hQ]
    exact o_ri cx rx hw dX11_oneOf_8 ⟨fr, (iv_w (⟨by decide, by decide⟩ : Iv 0 0 0) (by decide)), ⟨by decide, Or.inl (by decide)⟩, (by exact (by have := (ia1).1; have := (ia1).2; have := (ia2).1; have := (ia2).2; have := (i33).1; have := (i33).2; have := (iz662).1; have := (iz662).2; have := (hf660).1; have := (hf660).2; have := (i34).1; have := (i34).2; have : (v2 : Int32).toInt = (0 : Int32).toInt := congrArg Int32.toInt c3; have : (0 : Int32).toInt = 0 := (by decide); omega)), (by exact (by have := (ia1).1; have := (ia1).2; have := (ia2).1; have := (ia2).2; have := (i33).1; have := (i33).2; have := (iz662).1; have := (iz662).2; have := (hf660).1; have := (hf660).2; have := (i34).1; have := (i34).2; have : (v2 : Int32).toInt = (0 : Int32).toInt := congrArg Int32.toInt c3; have : (0 : Int32).toInt = 0 := (by decide); omega)), (by unfold O1; have th9 := hr_tC (g := σ.2.2.1 b0) (n := (σ.1 660 a0).toInt) (m := (σ.1 661 a0).toInt) (p := (σ.1 662 a0).toInt) (v := hr_F (σ.2.2.1 b0) (σ.1 662 a0) (σ.1 660 a0) (σ.1 661 a0)) rfl rfl rfl rfl rfl (by have := (ia1).1; have := (ia1).2; have := (ia2).1; have := (ia2).2; have := (i33).1; have := (i33).2; have := (iz662).1; have := (iz662).2; have := (hf660).1; have := (hf660).2; have := (i34).1; have := (i34).2; have : (v2 : Int32).toInt = (0 : Int32).toInt := congrArg Int32.toInt c3; have : (0 : Int32).toInt = 0 := (by decide); omega); exact (by have := (ia1).1; have := (ia1).2; have := (ia2).1; have := (ia2).2; have := (i33).1; have := (i33).2; have := (iz662).1; have := (iz662).2; have := (hf660).1; have := (hf660).2; have := (i34).1; have := (i34).2; have : (v2 : Int32).toInt = (0 : Int32).toInt := congrArg Int32.toInt c3; have : (0 : Int32).toInt = 0 := (by decide); omega))⟩
abbrev fs_X11_oneOfR : List Nat := [662, 663]
abbrev ts_X11_oneOfR : List Nat := []
set_option maxHeartbeats 4000000 in
set_option maxRecDepth 100000 in
theorem c_X11_oneOfR (a0 : Nat) (ha0 : oA L τ a0 10) (a1 : Int32) (ia1 : Iv a1 48 97) (a2 : Int32) (ia2 : Iv a2 0 10) (b0 : Nat) (hF0 : σ.2.2.2.2 659 a0 = some b0) (hb0 : oA L τ b0 54) (hf660 : Iv (σ.1 660 a0) 0 40) : oMet l A L τ cy D K yX11_oneOf cX11_oneOf 3 (some .int) 2 41 [.ref a0, .int a1, .int a2] σ (va_Qi (fun r σ1 => oFr τ fs_X11_oneOfR ts_X11_oneOfR σ σ1 ∧ Iv r (-225) 79 ∧ (0 ≤ r.toInt ∧ (r.toInt = 0 ∨ r.toInt < a2.toInt)) ∧ ((σ.1 662 a0).toInt ≤ (σ1.1 662 a0).toInt ∧ (σ1.1 662 a0).toInt ≤ (σ.1 662 a0).toInt + 1) ∧ ((σ.1 662 a0).toInt ≤ (σ.1 661 a0).toInt → (σ1.1 662 a0).toInt ≤ (σ.1 661 a0).toInt) ∧ (O1 (fun i => σ.2.2.1 b0 i &&& 255) (σ.1 660 a0).toInt (σ.1 661 a0).toInt a1.toInt (a1.toInt + a2.toInt - 1) (σ.1 663 a0).toInt (σ.1 662 a0).toInt (σ1.1 663 a0).toInt (σ1.1 662 a0).toInt r.toInt)) (oPo A L τ cy D) A) := by
  refine oMk (by decide) (Nat.le_of_ble_eq_true rfl) rfl ?_
  intro p e s m args below meth c ls cx rx hA hw hl
  generalize hQ : MQ below _ args s 0 0 A = Q
  have hx := cx.1.1
  have hb := cx.1.2.1
  have hml := cx.1.2.2.1
  have hown := cx.1.2.2.2.1
  have hts := cx.1.2.2.2.2
  have hl : lv_has ls 3 [(0, .ref a0), (1, .int a1), (2, .int a2)] := hl
  have fr : oFr τ fs_X11_oneOfR ts_X11_oneOfR σ σ := oFr_rf
  have iz663 : Iv (σ.1 663 a0) (-1) 200 := o_fb (j := 663) hw ha0 rfl
  have iz662 : Iv (σ.1 662 a0) (0) 200 := o_fb (j := 662) hw ha0 rfl
  refine lv_aload_n hx hb dX11_oneOf_0 rfl (lv_at hl 0 rfl) ?_
  refine o_ci hw (oRunV cx hA hw q_X11_fine k_m_X11_126 rfl ha0 (by decide) (As := []) (c_X11_fine a0 ha0) (by decide) rfl hl.1 rfl (Nat.le_of_ble_eq_true rfl) dX11_oneOf_1 (by decide)) (fun v2 σ1 H locs hp hw => ?_)
  obtain ⟨p2_0, p2_1, p2_2⟩ := hp
  rw [p2_0] at hw
  refine lv_if_ne (tgt := 9) hx hb dX11_oneOf_4 (by decide) (fun c3 => ?_) (fun c3 => ?_)
  · --
    have i4 : Iv v2 1 1 := iv_ne1 c3 p2_1 (⟨by decide, by decide⟩ : Iv 0 0 0) (by decide)
    have i5 : Iv (σ.1 663 a0) (-1) (-1) := (fun h => (by have := nz_ti h; have := (ia1).1; have := (ia1).2; have := (ia2).1; have := (ia2).2; have := (p2_1).1; have := (p2_1).2; have := (iz663).1; have := (iz663).2; have := (iz662).1; have := (iz662).2; have := (hf660).1; have := (hf660).2; exact ⟨by omega, by omega⟩)) c3
    refine lv_aload_n hx hb dX11_oneOf_9 rfl (lv_at hl 0 rfl) ?_
    have i6 : Iv (σ.1 661 a0) 0 80 := o_fb (j := 661) hw ha0 rfl
    refine o_ci hw (oRunV cx hA hw q_X11_here k_m_X11_130 rfl ha0 (by decide) (As := []) (c_X11_hereR a0 ha0 b0 (hF0) hb0 (kn_iv (rfl) (iv_w hf660 (by decide)))) (by decide) rfl hl.1 rfl (Nat.le_of_ble_eq_true rfl) dX11_oneOf_10 (by decide)) (fun v8 σ7 H locs hp hw => ?_)
    obtain ⟨p8_0, p8_1, p8_2, p8_3, p8_4, p8_5, p8_6⟩ := hp
    rw [p8_0] at hw
    have hnv8 := congrArg Int32.toInt p8_6
    refine lv_iload_n hx hb dX11_oneOf_13 rfl (lv_at hl 1 rfl) ?_
    refine lv_iload_n hx hb dX11_oneOf_14 rfl (lv_at hl 1 rfl) ?_
    refine lv_iload_n hx hb dX11_oneOf_15 rfl (lv_at hl 2 rfl) ?_
    refine lv_iadd hx hb dX11_oneOf_16 ?_
    refine lv_topi (fun v9 e9 => ?_)
    have i9 : Iv v9 48 107 := iv_add e9 ia1 ia2 (by decide)
    have x9 : v9.toInt = a1.toInt + a2.toInt := ex_add e9 ia1 ia2 (by decide)
    refine lv_iconst (v := 1) hx hb dX11_oneOf_17 (by decide) ?_
    refine lv_isub hx hb dX11_oneOf_18 ?_
    refine lv_topi (fun v10 e10 => ?_)
    have i10 : Iv v10 47 106 := iv_sub e10 i9 (⟨by decide, by decide⟩ : Iv 1 1 1) (by decide)
    have x10 : v10.toInt = v9.toInt + (-1) := ex_sub e10 i9 (⟨by decide, by decide⟩ : Iv 1 1 1) (by decide)
    refine o_ci hw (oRunS cx hA hw q_X11_in k_m_X11_95 (As := [.int v8, .int a1, .int v10]) (c_X11_in v8 a1 v10) (by decide) rfl hl.1 rfl (Nat.le_of_ble_eq_true rfl) dX11_oneOf_19 (by decide)) (fun v12 σ11 H locs hp hw => ?_)
    obtain ⟨p12_0, p12_1, p12_2, p12_3, p12_4⟩ := hp
    rw [p12_0] at hw
    refine lv_if_ne (tgt := 35) hx hb dX11_oneOf_22 (by decide) (fun c13 => ?_) (fun c13 => ?_)
    · --
      have i14 : Iv v12 1 1 := iv_ne1 c13 p12_1 (⟨by decide, by decide⟩ : Iv 0 0 0) (by decide)
      have l15 : a1.toInt ≤ v8.toInt + 0 := le_of (p12_2 c13).1
      have l16 : v8.toInt ≤ v10.toInt + 0 := le_of (p12_2 c13).2
      have i17 : Iv v8 48 106 := (fun h => iv_rel (p12_2 h) ia1 i10) c13
      have i18 : Iv (σ.1 662 a0) 0 39 := (fun h => kn_iv2 (rfl) (p8_2 h)) (ge0_iv i17 (by decide))
      refine lv_aload_n hx hb dX11_oneOf_35 rfl (lv_at hl 0 rfl) ?_
      refine lv_dup hx hb dX11_oneOf_36 rfl ?_
      refine g_662 cx hw ha0 k_f_X11_120 dX11_oneOf_37 (fun v19 e19 i19 => ?_)
      rw [show v19 = (σ.1 662 a0) from e19.trans rfl]
      refine lv_iconst (v := 1) hx hb dX11_oneOf_40 (by decide) ?_
      refine lv_iadd hx hb dX11_oneOf_41 ?_
      refine lv_topi (fun v20 e20 => ?_)
      have i20 : Iv v20 1 40 := iv_add e20 i18 (⟨by decide, by decide⟩ : Iv 1 1 1) (by decide)
      have x20 : v20.toInt = (σ.1 662 a0).toInt + 1 := ex_add e20 i18 (⟨by decide, by decide⟩ : Iv 1 1 1) (by decide)
      refine p_662 cx hw ha0 (iv_w i20 (by decide)) k_f_X11_120 dX11_oneOf_42 (fun σ21 H locs eσ21 hw => ?_)
      have fr := oFr_i fr eσ21 (by decide)
      refine lv_aload_n hx hb dX11_oneOf_45 rfl (lv_at hl 0 rfl) ?_
      refine g_659 cx hw ha0 (((kr_i eσ21).trans hF0)) k_f_X11_111 dX11_oneOf_46 ?_
      refine lv_aload_n hx hb dX11_oneOf_49 rfl (lv_at hl 0 rfl) ?_
      refine g_662 cx hw ha0 k_f_X11_120 dX11_oneOf_50 (fun v23 e23 i23 => ?_)
      rw [show v23 = v20 from e23.trans (kp_s eσ21)]
      refine lv_iconst (v := 1) hx hb dX11_oneOf_53 (by decide) ?_
      refine lv_isub hx hb dX11_oneOf_54 ?_
      refine lv_topi (fun v24 e24 => ?_)
      have i24 : Iv v24 0 39 := iv_sub e24 i20 (⟨by decide, by decide⟩ : Iv 1 1 1) (by decide)
      have x24 : v24.toInt = v20.toInt + (-1) := ex_sub e24 i20 (⟨by decide, by decide⟩ : Iv 1 1 1) (by decide)
      refine o_bald cx hw hb0 (by decide) rfl (iv_in i24 (by decide)) dX11_oneOf_55 (fun v25 e25 b25 => ?_)
      have i25 : Iv v25 (-128) 127 := b25
      refine lv_iload_n hx hb dX11_oneOf_56 rfl (lv_at hl 1 rfl) ?_
      refine lv_isub hx hb dX11_oneOf_57 ?_
      refine lv_topi (fun v26 e26 => ?_)
      have i26 : Iv v26 (-225) 79 := iv_sub e26 i25 ia1 (by decide)
      have x26 : v26.toInt = v25.toInt - a1.toInt := ex_sub e26 i25 ia1 (by decide)
      rw [← hQ]
      exact o_ri cx rx hw dX11_oneOf_58 ⟨fr, (iv_w i26 (by decide)), (by have q1 : v24 = σ.1 662 a0 := Int32.toInt_inj.mp ((by have := (ia1).1; have := (ia1).2; have := (ia2).1; have := (ia2).2; have := (i26).1; have := (i26).2; have := (i5).1; have := (i5).2; have := (hf660).1; have := (hf660).2; have := (i6).1; have := (i6).2; have := (i20).1; have := (i20).2; have := (i24).1; have := (i24).2; have := (i18).1; have := (i18).2; have := (i4).1; have := (i4).2; have := (i17).1; have := (i17).2; have := (i9).1; have := (i9).2; have := (i10).1; have := (i10).2; have := (i14).1; have := (i14).2; have := (i25).1; have := (i25).2; have : (σ21.1 663 a0).toInt = ((σ.1 663 a0) : Int32).toInt := congrArg Int32.toInt (show σ21.1 663 a0 = (σ.1 663 a0) from ((kp_i eσ21 (by decide)).trans rfl)); have : (σ21.1 660 a0).toInt = ((σ.1 660 a0) : Int32).toInt := congrArg Int32.toInt (show σ21.1 660 a0 = (σ.1 660 a0) from ((kp_i eσ21 (by decide)).trans rfl)); have : (σ21.1 661 a0).toInt = ((σ.1 661 a0) : Int32).toInt := congrArg Int32.toInt (show σ21.1 661 a0 = (σ.1 661 a0) from ((kp_i eσ21 (by decide)).trans rfl)); have : (σ21.1 662 a0).toInt = (v20 : Int32).toInt := congrArg Int32.toInt (show σ21.1 662 a0 = v20 from (kp_s eσ21)); omega)); have q2 : v25 = σ.2.2.1 b0 (σ.1 662 a0).toNatClampNeg := (by rw [e25, q1, eσ21]); have q3 : v8 = v25 &&& 255 := p8_3.elim (fun h => absurd (i17).1 (by rw [h]; decide)) (fun h => h.trans (by rw [q2])); have q4 := by_and q3 i25; have q5 := (i17).2; have q6 := (i25).1; have q7 := ex_sub e26 i25 ia1 (by decide); have q8 := ex_add e9 ia1 ia2 (by decide);  exact (by have := (ia1).1; have := (ia1).2; have := (ia2).1; have := (ia2).2; have := (i26).1; have := (i26).2; have := (i5).1; have := (i5).2; have := (hf660).1; have := (hf660).2; have := (i6).1; have := (i6).2; have := (i20).1; have := (i20).2; have := (i25).1; have := (i25).2; have := (i18).1; have := (i18).2; have := (i4).1; have := (i4).2; have := (i17).1; have := (i17).2; have := (i9).1; have := (i9).2; have := (i10).1; have := (i10).2; have := (i14).1; have := (i14).2; have := (i24).1; have := (i24).2; have : (σ21.1 663 a0).toInt = ((σ.1 663 a0) : Int32).toInt := congrArg Int32.toInt (show σ21.1 663 a0 = (σ.1 663 a0) from ((kp_i eσ21 (by decide)).trans rfl)); have : (σ21.1 660 a0).toInt = ((σ.1 660 a0) : Int32).toInt := congrArg Int32.toInt (show σ21.1 660 a0 = (σ.1 660 a0) from ((kp_i eσ21 (by decide)).trans rfl)); have : (σ21.1 661 a0).toInt = ((σ.1 661 a0) : Int32).toInt := congrArg Int32.toInt (show σ21.1 661 a0 = (σ.1 661 a0) from ((kp_i eσ21 (by decide)).trans rfl)); have : (σ21.1 662 a0).toInt = (v20 : Int32).toInt := congrArg Int32.toInt (show σ21.1 662 a0 = v20 from (kp_s eσ21)); exact ⟨by omega, by omega⟩)), (by exact (by have := (ia1).1; have := (ia1).2; have := (ia2).1; have := (ia2).2; have := (i26).1; have := (i26).2; have := (i5).1; have := (i5).2; have := (hf660).1; have := (hf660).2; have := (i6).1; have := (i6).2; have := (i20).1; have := (i20).2; have := (i18).1; have := (i18).2; have := (i4).1; have := (i4).2; have := (i17).1; have := (i17).2; have := (i9).1; have := (i9).2; have := (i10).1; have := (i10).2; have := (i14).1; have := (i14).2; have := (i24).1; have := (i24).2; have := (i25).1; have := (i25).2; have : (σ21.1 663 a0).toInt = ((σ.1 663 a0) : Int32).toInt := congrArg Int32.toInt (show σ21.1 663 a0 = (σ.1 663 a0) from ((kp_i eσ21 (by decide)).trans rfl)); have : (σ21.1 660 a0).toInt = ((σ.1 660 a0) : Int32).toInt := congrArg Int32.toInt (show σ21.1 660 a0 = (σ.1 660 a0) from ((kp_i eσ21 (by decide)).trans rfl)); have : (σ21.1 661 a0).toInt = ((σ.1 661 a0) : Int32).toInt := congrArg Int32.toInt (show σ21.1 661 a0 = (σ.1 661 a0) from ((kp_i eσ21 (by decide)).trans rfl)); have : (σ21.1 662 a0).toInt = (v20 : Int32).toInt := congrArg Int32.toInt (show σ21.1 662 a0 = v20 from (kp_s eσ21)); omega)), (by exact (by have := (ia1).1; have := (ia1).2; have := (ia2).1; have := (ia2).2; have := (i26).1; have := (i26).2; have := (i5).1; have := (i5).2; have := (hf660).1; have := (hf660).2; have := (i6).1; have := (i6).2; have := (i20).1; have := (i20).2; have := (i18).1; have := (i18).2; have := (i4).1; have := (i4).2; have := (i17).1; have := (i17).2; have := (i9).1; have := (i9).2; have := (i10).1; have := (i10).2; have := (i14).1; have := (i14).2; have := (i24).1; have := (i24).2; have := (i25).1; have := (i25).2; have : (σ21.1 663 a0).toInt = ((σ.1 663 a0) : Int32).toInt := congrArg Int32.toInt (show σ21.1 663 a0 = (σ.1 663 a0) from ((kp_i eσ21 (by decide)).trans rfl)); have : (σ21.1 660 a0).toInt = ((σ.1 660 a0) : Int32).toInt := congrArg Int32.toInt (show σ21.1 660 a0 = (σ.1 660 a0) from ((kp_i eσ21 (by decide)).trans rfl)); have : (σ21.1 661 a0).toInt = ((σ.1 661 a0) : Int32).toInt := congrArg Int32.toInt (show σ21.1 661 a0 = (σ.1 661 a0) from ((kp_i eσ21 (by decide)).trans rfl)); have : (σ21.1 662 a0).toInt = (v20 : Int32).toInt := congrArg Int32.toInt (show σ21.1 662 a0 = v20 from (kp_s eσ21)); omega)), (by unfold O1; have th9 := hr_tC (g := σ.2.2.1 b0) (n := (σ.1 660 a0).toInt) (m := (σ.1 661 a0).toInt) (p := (σ.1 662 a0).toInt) (v := hr_F (σ.2.2.1 b0) (σ.1 662 a0) (σ.1 660 a0) (σ.1 661 a0)) rfl rfl rfl rfl rfl (by have := (ia1).1; have := (ia1).2; have := (ia2).1; have := (ia2).2; have := (i26).1; have := (i26).2; have := (i5).1; have := (i5).2; have := (hf660).1; have := (hf660).2; have := (i6).1; have := (i6).2; have := (i20).1; have := (i20).2; have := (i18).1; have := (i18).2; have := (i4).1; have := (i4).2; have := (i17).1; have := (i17).2; have := (i9).1; have := (i9).2; have := (i10).1; have := (i10).2; have := (i14).1; have := (i14).2; have := (i24).1; have := (i24).2; have := (i25).1; have := (i25).2; have : (σ21.1 663 a0).toInt = ((σ.1 663 a0) : Int32).toInt := congrArg Int32.toInt (show σ21.1 663 a0 = (σ.1 663 a0) from ((kp_i eσ21 (by decide)).trans rfl)); have : (σ21.1 660 a0).toInt = ((σ.1 660 a0) : Int32).toInt := congrArg Int32.toInt (show σ21.1 660 a0 = (σ.1 660 a0) from ((kp_i eσ21 (by decide)).trans rfl)); have : (σ21.1 661 a0).toInt = ((σ.1 661 a0) : Int32).toInt := congrArg Int32.toInt (show σ21.1 661 a0 = (σ.1 661 a0) from ((kp_i eσ21 (by decide)).trans rfl)); have : (σ21.1 662 a0).toInt = (v20 : Int32).toInt := congrArg Int32.toInt (show σ21.1 662 a0 = v20 from (kp_s eσ21)); omega); have b9 := and255 i25; have t9 : (v25 &&& 255).toInt = tC (fun i => σ.2.2.1 b0 i &&& 255) (σ.1 660 a0).toInt (σ.1 661 a0).toInt (σ.1 662 a0).toInt := tC_at (f := (fun i => σ.2.2.1 b0 i &&& 255)) (y := v24) (by have := (ia1).1; have := (ia1).2; have := (ia2).1; have := (ia2).2; have := (i26).1; have := (i26).2; have := (i5).1; have := (i5).2; have := (hf660).1; have := (hf660).2; have := (i6).1; have := (i6).2; have := (i20).1; have := (i20).2; have := (i18).1; have := (i18).2; have := (i4).1; have := (i4).2; have := (i17).1; have := (i17).2; have := (i9).1; have := (i9).2; have := (i10).1; have := (i10).2; have := (i14).1; have := (i14).2; have := (i24).1; have := (i24).2; have := (i25).1; have := (i25).2; have : (σ21.1 663 a0).toInt = ((σ.1 663 a0) : Int32).toInt := congrArg Int32.toInt (show σ21.1 663 a0 = (σ.1 663 a0) from ((kp_i eσ21 (by decide)).trans rfl)); have : (σ21.1 660 a0).toInt = ((σ.1 660 a0) : Int32).toInt := congrArg Int32.toInt (show σ21.1 660 a0 = (σ.1 660 a0) from ((kp_i eσ21 (by decide)).trans rfl)); have : (σ21.1 661 a0).toInt = ((σ.1 661 a0) : Int32).toInt := congrArg Int32.toInt (show σ21.1 661 a0 = (σ.1 661 a0) from ((kp_i eσ21 (by decide)).trans rfl)); have : (σ21.1 662 a0).toInt = (v20 : Int32).toInt := congrArg Int32.toInt (show σ21.1 662 a0 = v20 from (kp_s eσ21)); omega) (by have := (ia1).1; have := (ia1).2; have := (ia2).1; have := (ia2).2; have := (i26).1; have := (i26).2; have := (i5).1; have := (i5).2; have := (hf660).1; have := (hf660).2; have := (i6).1; have := (i6).2; have := (i20).1; have := (i20).2; have := (i18).1; have := (i18).2; have := (i4).1; have := (i4).2; have := (i17).1; have := (i17).2; have := (i9).1; have := (i9).2; have := (i10).1; have := (i10).2; have := (i14).1; have := (i14).2; have := (i24).1; have := (i24).2; have := (i25).1; have := (i25).2; have : (σ21.1 663 a0).toInt = ((σ.1 663 a0) : Int32).toInt := congrArg Int32.toInt (show σ21.1 663 a0 = (σ.1 663 a0) from ((kp_i eσ21 (by decide)).trans rfl)); have : (σ21.1 660 a0).toInt = ((σ.1 660 a0) : Int32).toInt := congrArg Int32.toInt (show σ21.1 660 a0 = (σ.1 660 a0) from ((kp_i eσ21 (by decide)).trans rfl)); have : (σ21.1 661 a0).toInt = ((σ.1 661 a0) : Int32).toInt := congrArg Int32.toInt (show σ21.1 661 a0 = (σ.1 661 a0) from ((kp_i eσ21 (by decide)).trans rfl)); have : (σ21.1 662 a0).toInt = (v20 : Int32).toInt := congrArg Int32.toInt (show σ21.1 662 a0 = v20 from (kp_s eσ21)); omega) (by have := (ia1).1; have := (ia1).2; have := (ia2).1; have := (ia2).2; have := (i26).1; have := (i26).2; have := (i5).1; have := (i5).2; have := (hf660).1; have := (hf660).2; have := (i6).1; have := (i6).2; have := (i20).1; have := (i20).2; have := (i24).1; have := (i24).2; have := (i18).1; have := (i18).2; have := (i4).1; have := (i4).2; have := (i17).1; have := (i17).2; have := (i9).1; have := (i9).2; have := (i10).1; have := (i10).2; have := (i14).1; have := (i14).2; have := (i25).1; have := (i25).2; have : (σ21.1 663 a0).toInt = ((σ.1 663 a0) : Int32).toInt := congrArg Int32.toInt (show σ21.1 663 a0 = (σ.1 663 a0) from ((kp_i eσ21 (by decide)).trans rfl)); have : (σ21.1 660 a0).toInt = ((σ.1 660 a0) : Int32).toInt := congrArg Int32.toInt (show σ21.1 660 a0 = (σ.1 660 a0) from ((kp_i eσ21 (by decide)).trans rfl)); have : (σ21.1 661 a0).toInt = ((σ.1 661 a0) : Int32).toInt := congrArg Int32.toInt (show σ21.1 661 a0 = (σ.1 661 a0) from ((kp_i eσ21 (by decide)).trans rfl)); have : (σ21.1 662 a0).toInt = (v20 : Int32).toInt := congrArg Int32.toInt (show σ21.1 662 a0 = v20 from (kp_s eσ21)); omega) (by rw [e25, show σ21.2.2.1 b0 = σ.2.2.1 b0 from ((rw_i eσ21).trans rfl)]); exact (by have := (ia1).1; have := (ia1).2; have := (ia2).1; have := (ia2).2; have := (i26).1; have := (i26).2; have := (i5).1; have := (i5).2; have := (hf660).1; have := (hf660).2; have := (i6).1; have := (i6).2; have := (i20).1; have := (i20).2; have := (i18).1; have := (i18).2; have := (i4).1; have := (i4).2; have := (i17).1; have := (i17).2; have := (i9).1; have := (i9).2; have := (i10).1; have := (i10).2; have := (i14).1; have := (i14).2; have := (i24).1; have := (i24).2; have := (i25).1; have := (i25).2; have : (σ21.1 663 a0).toInt = ((σ.1 663 a0) : Int32).toInt := congrArg Int32.toInt (show σ21.1 663 a0 = (σ.1 663 a0) from ((kp_i eσ21 (by decide)).trans rfl)); have : (σ21.1 660 a0).toInt = ((σ.1 660 a0) : Int32).toInt := congrArg Int32.toInt (show σ21.1 660 a0 = (σ.1 660 a0) from ((kp_i eσ21 (by decide)).trans rfl)); have : (σ21.1 661 a0).toInt = ((σ.1 661 a0) : Int32).toInt := congrArg Int32.toInt (show σ21.1 661 a0 = (σ.1 661 a0) from ((kp_i eσ21 (by decide)).trans rfl)); have : (σ21.1 662 a0).toInt = (v20 : Int32).toInt := congrArg Int32.toInt (show σ21.1 662 a0 = v20 from (kp_s eσ21)); omega))⟩
    · --
      have i27 : Iv v12 0 0 := iv_eq1 c13 p12_1 (⟨by decide, by decide⟩ : Iv 0 0 0) (by decide)
      refine lv_aload_n hx hb dX11_oneOf_25 rfl (lv_at hl 0 rfl) ?_
      refine lv_aload_n hx hb dX11_oneOf_26 rfl (lv_at hl 0 rfl) ?_
      refine g_662 cx hw ha0 k_f_X11_120 dX11_oneOf_27 (fun v28 e28 i28 => ?_)
      rw [show v28 = (σ.1 662 a0) from e28.trans rfl]
      refine o_cv hw (oRunV cx hA hw q_X11_fault k_m_X11_138 rfl ha0 (by decide) (As := [.int (σ.1 662 a0)]) (c_X11_fault a0 ha0 (σ.1 662 a0) (iv_w iz662 (by decide))) (by decide) rfl hl.1 rfl (Nat.le_of_ble_eq_true rfl) dX11_oneOf_30 (by decide)) (fun σ29 H locs hp hw => ?_)
      obtain ⟨p30_0, p30_1⟩ := hp
      have fr := oFr_tr fr p30_0 (by decide)
      have i31 : Iv (σ29.1 663 a0) (-1) 200 := o_fb (j := 663) hw ha0 rfl
      have i32 : Iv (σ29.1 663 a0) 0 200 := (by have := (ia1).1; have := (ia1).2; have := (ia2).1; have := (ia2).2; have := (iz662).1; have := (iz662).2; have := (hf660).1; have := (hf660).2; have := (i6).1; have := (i6).2; have := (i31).1; have := (i31).2; have := (i5).1; have := (i5).2; have := (i4).1; have := (i4).2; have := (p8_1).1; have := (p8_1).2; have := (i9).1; have := (i9).2; have := (i10).1; have := (i10).2; have := (i27).1; have := (i27).2; have : (σ29.1 662 a0).toInt = ((σ.1 662 a0) : Int32).toInt := congrArg Int32.toInt (show σ29.1 662 a0 = (σ.1 662 a0) from ((kp_c p30_0 (by decide)).trans rfl)); have : (σ29.1 660 a0).toInt = ((σ.1 660 a0) : Int32).toInt := congrArg Int32.toInt (show σ29.1 660 a0 = (σ.1 660 a0) from ((kp_c p30_0 (by decide)).trans rfl)); have : (σ29.1 661 a0).toInt = ((σ.1 661 a0) : Int32).toInt := congrArg Int32.toInt (show σ29.1 661 a0 = (σ.1 661 a0) from ((kp_c p30_0 (by decide)).trans rfl)); have : (v12 : Int32).toInt = (0 : Int32).toInt := congrArg Int32.toInt c13; have : (0 : Int32).toInt = 0 := (by decide); exact ⟨by omega, by omega⟩)
      refine lv_iconst (v := 0) hx hb dX11_oneOf_33 (by decide) ?_
      rw [← hQ]
      exact o_ri cx rx hw dX11_oneOf_34 ⟨fr, (iv_w (⟨by decide, by decide⟩ : Iv 0 0 0) (by decide)), ⟨by decide, Or.inl (by decide)⟩, (by exact (by have := (ia1).1; have := (ia1).2; have := (ia2).1; have := (ia2).2; have := (iz662).1; have := (iz662).2; have := (hf660).1; have := (hf660).2; have := (i6).1; have := (i6).2; have := (i32).1; have := (i32).2; have := (i5).1; have := (i5).2; have := (i4).1; have := (i4).2; have := (p8_1).1; have := (p8_1).2; have := (i9).1; have := (i9).2; have := (i10).1; have := (i10).2; have := (i27).1; have := (i27).2; have : (σ29.1 662 a0).toInt = ((σ.1 662 a0) : Int32).toInt := congrArg Int32.toInt (show σ29.1 662 a0 = (σ.1 662 a0) from ((kp_c p30_0 (by decide)).trans rfl)); have : (σ29.1 660 a0).toInt = ((σ.1 660 a0) : Int32).toInt := congrArg Int32.toInt (show σ29.1 660 a0 = (σ.1 660 a0) from ((kp_c p30_0 (by decide)).trans rfl)); have : (σ29.1 661 a0).toInt = ((σ.1 661 a0) : Int32).toInt := congrArg Int32.toInt (show σ29.1 661 a0 = (σ.1 661 a0) from ((kp_c p30_0 (by decide)).trans rfl)); have : (v12 : Int32).toInt = (0 : Int32).toInt := congrArg Int32.toInt c13; have : (0 : Int32).toInt = 0 := (by decide); omega)), (by exact (by have := (ia1).1; have := (ia1).2; have := (ia2).1; have := (ia2).2; have := (iz662).1; have := (iz662).2; have := (hf660).1; have := (hf660).2; have := (i6).1; have := (i6).2; have := (i32).1; have := (i32).2; have := (i5).1; have := (i5).2; have := (i4).1; have := (i4).2; have := (p8_1).1; have := (p8_1).2; have := (i9).1; have := (i9).2; have := (i10).1; have := (i10).2; have := (i27).1; have := (i27).2; have : (σ29.1 662 a0).toInt = ((σ.1 662 a0) : Int32).toInt := congrArg Int32.toInt (show σ29.1 662 a0 = (σ.1 662 a0) from ((kp_c p30_0 (by decide)).trans rfl)); have : (σ29.1 660 a0).toInt = ((σ.1 660 a0) : Int32).toInt := congrArg Int32.toInt (show σ29.1 660 a0 = (σ.1 660 a0) from ((kp_c p30_0 (by decide)).trans rfl)); have : (σ29.1 661 a0).toInt = ((σ.1 661 a0) : Int32).toInt := congrArg Int32.toInt (show σ29.1 661 a0 = (σ.1 661 a0) from ((kp_c p30_0 (by decide)).trans rfl)); have : (v12 : Int32).toInt = (0 : Int32).toInt := congrArg Int32.toInt c13; have : (0 : Int32).toInt = 0 := (by decide); omega)), (by unfold O1; have th9 := hr_tC (g := σ.2.2.1 b0) (n := (σ.1 660 a0).toInt) (m := (σ.1 661 a0).toInt) (p := (σ.1 662 a0).toInt) (v := hr_F (σ.2.2.1 b0) (σ.1 662 a0) (σ.1 660 a0) (σ.1 661 a0)) rfl rfl rfl rfl rfl (by have := (ia1).1; have := (ia1).2; have := (ia2).1; have := (ia2).2; have := (iz662).1; have := (iz662).2; have := (hf660).1; have := (hf660).2; have := (i6).1; have := (i6).2; have := (i32).1; have := (i32).2; have := (i5).1; have := (i5).2; have := (i4).1; have := (i4).2; have := (p8_1).1; have := (p8_1).2; have := (i9).1; have := (i9).2; have := (i10).1; have := (i10).2; have := (i27).1; have := (i27).2; have : (σ29.1 662 a0).toInt = ((σ.1 662 a0) : Int32).toInt := congrArg Int32.toInt (show σ29.1 662 a0 = (σ.1 662 a0) from ((kp_c p30_0 (by decide)).trans rfl)); have : (σ29.1 660 a0).toInt = ((σ.1 660 a0) : Int32).toInt := congrArg Int32.toInt (show σ29.1 660 a0 = (σ.1 660 a0) from ((kp_c p30_0 (by decide)).trans rfl)); have : (σ29.1 661 a0).toInt = ((σ.1 661 a0) : Int32).toInt := congrArg Int32.toInt (show σ29.1 661 a0 = (σ.1 661 a0) from ((kp_c p30_0 (by decide)).trans rfl)); have : (v12 : Int32).toInt = (0 : Int32).toInt := congrArg Int32.toInt c13; have : (0 : Int32).toInt = 0 := (by decide); omega); exact (by have := (ia1).1; have := (ia1).2; have := (ia2).1; have := (ia2).2; have := (iz662).1; have := (iz662).2; have := (hf660).1; have := (hf660).2; have := (i6).1; have := (i6).2; have := (i32).1; have := (i32).2; have := (i5).1; have := (i5).2; have := (i4).1; have := (i4).2; have := (p8_1).1; have := (p8_1).2; have := (i9).1; have := (i9).2; have := (i10).1; have := (i10).2; have := (i27).1; have := (i27).2; have : (σ29.1 662 a0).toInt = ((σ.1 662 a0) : Int32).toInt := congrArg Int32.toInt (show σ29.1 662 a0 = (σ.1 662 a0) from ((kp_c p30_0 (by decide)).trans rfl)); have : (σ29.1 660 a0).toInt = ((σ.1 660 a0) : Int32).toInt := congrArg Int32.toInt (show σ29.1 660 a0 = (σ.1 660 a0) from ((kp_c p30_0 (by decide)).trans rfl)); have : (σ29.1 661 a0).toInt = ((σ.1 661 a0) : Int32).toInt := congrArg Int32.toInt (show σ29.1 661 a0 = (σ.1 661 a0) from ((kp_c p30_0 (by decide)).trans rfl)); have : (v12 : Int32).toInt = (0 : Int32).toInt := congrArg Int32.toInt c13; have : (0 : Int32).toInt = 0 := (by decide); omega))⟩
  · --
    have i33 : Iv (σ.1 663 a0) 0 200 := (fun h => (by have := z_ti h; have := (ia1).1; have := (ia1).2; have := (ia2).1; have := (ia2).2; have := (p2_1).1; have := (p2_1).2; have := (iz663).1; have := (iz663).2; have := (iz662).1; have := (iz662).2; have := (hf660).1; have := (hf660).2; exact ⟨by omega, by omega⟩)) c3
    have i34 : Iv v2 0 0 := iv_eq1 c3 p2_1 (⟨by decide, by decide⟩ : Iv 0 0 0) (by decide)
    refine lv_iconst (v := 0) hx hb dX11_oneOf_7 (by decide) ?_
    rw [← hQ]
    exact o_ri cx rx hw dX11_oneOf_8 ⟨fr, (iv_w (⟨by decide, by decide⟩ : Iv 0 0 0) (by decide)), ⟨by decide, Or.inl (by decide)⟩, (by exact (by have := (ia1).1; have := (ia1).2; have := (ia2).1; have := (ia2).2; have := (i33).1; have := (i33).2; have := (iz662).1; have := (iz662).2; have := (hf660).1; have := (hf660).2; have := (i34).1; have := (i34).2; have : (v2 : Int32).toInt = (0 : Int32).toInt := congrArg Int32.toInt c3; have : (0 : Int32).toInt = 0 := (by decide); omega)), (by exact (by have := (ia1).1; have := (ia1).2; have := (ia2).1; have := (ia2).2; have := (i33).1; have := (i33).2; have := (iz662).1; have := (iz662).2; have := (hf660).1; have := (hf660).2; have := (i34).1; have := (i34).2; have : (v2 : Int32).toInt = (0 : Int32).toInt := congrArg Int32.toInt c3; have : (0 : Int32).toInt = 0 := (by decide); omega)), (by unfold O1; have th9 := hr_tC (g := σ.2.2.1 b0) (n := (σ.1 660 a0).toInt) (m := (σ.1 661 a0).toInt) (p := (σ.1 662 a0).toInt) (v := hr_F (σ.2.2.1 b0) (σ.1 662 a0) (σ.1 660 a0) (σ.1 661 a0)) rfl rfl rfl rfl rfl (by have := (ia1).1; have := (ia1).2; have := (ia2).1; have := (ia2).2; have := (i33).1; have := (i33).2; have := (iz662).1; have := (iz662).2; have := (hf660).1; have := (hf660).2; have := (i34).1; have := (i34).2; have : (v2 : Int32).toInt = (0 : Int32).toInt := congrArg Int32.toInt c3; have : (0 : Int32).toInt = 0 := (by decide); omega); exact (by have := (ia1).1; have := (ia1).2; have := (ia2).1; have := (ia2).2; have := (i33).1; have := (i33).2; have := (iz662).1; have := (iz662).2; have := (hf660).1; have := (hf660).2; have := (i34).1; have := (i34).2; have : (v2 : Int32).toInt = (0 : Int32).toInt := congrArg Int32.toInt c3; have : (0 : Int32).toInt = 0 := (by decide); omega))⟩
set_option maxHeartbeats 4000000 in
set_option maxRecDepth 100000 in
theorem c_X11_isGround (a0 : Int32) (a1 : Int32) : oMet l A L τ cy D K yX11_isGround cX11_isGround 2 (some .boolean) 1 22 [.int a0, .int a1] σ (va_Qi (fun r σ1 => σ1 = σ ∧ Iv r 0 1 ∧ (¬ r = 0 → Iv a0 35 57) ∧ ((r.toInt = 1 ∧ ((48 ≤ a0.toInt ∧ a0.toInt ≤ 57) ∨ a0.toInt = 35 ∨ (a0.toInt = 43 ∧ a1.toInt < 6))) ∨ (r.toInt = 0 ∧ ¬ ((48 ≤ a0.toInt ∧ a0.toInt ≤ 57) ∨ a0.toInt = 35 ∨ (a0.toInt = 43 ∧ a1.toInt < 6))))) (oPo A L τ cy D) A) := by
  refine oMk (by decide) (Nat.le_of_ble_eq_true rfl) rfl ?_
  intro p e s m args below meth c ls cx rx hA hw hl
  generalize hQ : MQ below _ args s 0 0 A = Q
  have hx := cx.1.1
  have hb := cx.1.2.1
  have hml := cx.1.2.2.1
  have hown := cx.1.2.2.2.1
  have hts := cx.1.2.2.2.2
  have hl : lv_has ls 2 [(0, .int a0), (1, .int a1)] := hl
  refine lv_iload_n hx hb dX11_isGround_0 rfl (lv_at hl 0 rfl) ?_
  refine lv_bipush (v := 48) hx hb dX11_isGround_1 (by decide) ?_
  refine lv_bipush (v := 57) hx hb dX11_isGround_3 (by decide) ?_
  refine o_ci hw (oRunS cx hA hw q_X11_in k_m_X11_95 (As := [.int a0, .int 48, .int 57]) (c_X11_in a0 48 57) (by decide) rfl hl.1 rfl (Nat.le_of_ble_eq_true rfl) dX11_isGround_5 (by decide)) (fun v2 σ1 H locs hp hw => ?_)
  obtain ⟨p2_0, p2_1, p2_2, p2_3, p2_4⟩ := hp
  rw [p2_0] at hw
  refine lv_if_ne (tgt := 29) hx hb dX11_isGround_8 (by decide) (fun c3 => ?_) (fun c3 => ?_)
  · --
    have i4 : Iv v2 1 1 := iv_ne1 c3 p2_1 (⟨by decide, by decide⟩ : Iv 0 0 0) (by decide)
    have i5 : Iv a0 48 57 := (fun h => iv_rel (p2_2 h) (⟨by decide, by decide⟩ : Iv 48 48 48) (⟨by decide, by decide⟩ : Iv 57 57 57)) c3
    refine lv_iconst (v := 1) hx hb dX11_isGround_29 (by decide) ?_
    refine lv_goto (tgt := 34) hx hb dX11_isGround_30 (by decide) ?_
    rw [← hQ]
    exact o_rz cx rx hw (iv_nz01 (iv_w (⟨by decide, by decide⟩ : Iv 1 1 1) (by decide))) dX11_isGround_34 ⟨rfl, (iv_w (⟨by decide, by decide⟩ : Iv 1 1 1) (by decide)), (fun _ => iv_w i5 (by decide)), (by exact (by have := (i5).1; have := (i5).2; have := (i4).1; have := (i4).2; have : (1 : Int32).toInt = 1 := (by decide); have : (48 : Int32).toInt = 48 := (by decide); have : (57 : Int32).toInt = 57 := (by decide); omega))⟩
  · --
    have i6 : Iv v2 0 0 := iv_eq1 c3 p2_1 (⟨by decide, by decide⟩ : Iv 0 0 0) (by decide)
    refine lv_iload_n hx hb dX11_isGround_11 rfl (lv_at hl 0 rfl) ?_
    refine lv_bipush (v := 35) hx hb dX11_isGround_12 (by decide) ?_
    refine lv_icmp_eq (tgt := 29) hx hb dX11_isGround_14 (by decide) (fun c7 => ?_) (fun c7 => ?_)
    · --
      have i8 : Iv a0 35 35 := iv_eq1 c7 (iv_top a0) (⟨by decide, by decide⟩ : Iv 35 35 35) (by decide)
      refine lv_iconst (v := 1) hx hb dX11_isGround_29 (by decide) ?_
      refine lv_goto (tgt := 34) hx hb dX11_isGround_30 (by decide) ?_
      rw [← hQ]
      exact o_rz cx rx hw (iv_nz01 (iv_w (⟨by decide, by decide⟩ : Iv 1 1 1) (by decide))) dX11_isGround_34 ⟨rfl, (iv_w (⟨by decide, by decide⟩ : Iv 1 1 1) (by decide)), (fun _ => iv_w i8 (by decide)), (by exact (by have := (i8).1; have := (i8).2; have := (i6).1; have := (i6).2; have : (v2 : Int32).toInt = (0 : Int32).toInt := congrArg Int32.toInt c3; have : (a0 : Int32).toInt = (35 : Int32).toInt := congrArg Int32.toInt c7; have : (0 : Int32).toInt = 0 := (by decide); have : (1 : Int32).toInt = 1 := (by decide); have : (35 : Int32).toInt = 35 := (by decide); have : (48 : Int32).toInt = 48 := (by decide); have : (57 : Int32).toInt = 57 := (by decide); omega))⟩
    · --
      refine lv_iload_n hx hb dX11_isGround_17 rfl (lv_at hl 0 rfl) ?_
      refine lv_bipush (v := 43) hx hb dX11_isGround_18 (by decide) ?_
      refine lv_icmp_ne (tgt := 33) hx hb dX11_isGround_20 (by decide) (fun c9 => ?_) (fun c9 => ?_)
      · --
        refine lv_iconst (v := 0) hx hb dX11_isGround_33 (by decide) ?_
        rw [← hQ]
        exact o_rz cx rx hw (iv_nz01 (iv_w (⟨by decide, by decide⟩ : Iv 0 0 0) (by decide))) dX11_isGround_34 ⟨rfl, (iv_w (⟨by decide, by decide⟩ : Iv 0 0 0) (by decide)), (fun h => absurd rfl h), (by exact (by have := (i6).1; have := (i6).2; have : (v2 : Int32).toInt = (0 : Int32).toInt := congrArg Int32.toInt c3; have : (a0 : Int32).toInt ≠ (35 : Int32).toInt := fun q => c7 (Int32.toInt_inj.mp q); have : (a0 : Int32).toInt ≠ (43 : Int32).toInt := fun q => c9 (Int32.toInt_inj.mp q); have : (0 : Int32).toInt = 0 := (by decide); have : (35 : Int32).toInt = 35 := (by decide); have : (43 : Int32).toInt = 43 := (by decide); have : (48 : Int32).toInt = 48 := (by decide); have : (57 : Int32).toInt = 57 := (by decide); omega))⟩
      · --
        have i10 : Iv a0 43 43 := iv_eq1 c9 (iv_top a0) (⟨by decide, by decide⟩ : Iv 43 43 43) (by decide)
        refine lv_iload_n hx hb dX11_isGround_23 rfl (lv_at hl 1 rfl) ?_
        refine lv_bipush (v := 6) hx hb dX11_isGround_24 (by decide) ?_
        refine lv_icmp_ge (tgt := 33) hx hb dX11_isGround_26 (by decide) (fun c11 => ?_) (fun c11 => ?_)
        · --
          have i12 : Iv a1 6 2147483647 := iv_le2 c11 (⟨by decide, by decide⟩ : Iv 6 6 6) (iv_top a1) (by decide)
          refine lv_iconst (v := 0) hx hb dX11_isGround_33 (by decide) ?_
          rw [← hQ]
          exact o_rz cx rx hw (iv_nz01 (iv_w (⟨by decide, by decide⟩ : Iv 0 0 0) (by decide))) dX11_isGround_34 ⟨rfl, (iv_w (⟨by decide, by decide⟩ : Iv 0 0 0) (by decide)), (fun h => absurd rfl h), (by exact (by have := (i10).1; have := (i10).2; have := (i12).1; have := (i12).2; have := (i6).1; have := (i6).2; have : (v2 : Int32).toInt = (0 : Int32).toInt := congrArg Int32.toInt c3; have : (a0 : Int32).toInt ≠ (35 : Int32).toInt := fun q => c7 (Int32.toInt_inj.mp q); have : (a0 : Int32).toInt = (43 : Int32).toInt := congrArg Int32.toInt c9; have : (6 : Int32).toInt ≤ (a1 : Int32).toInt := iv_le.mp c11; have : (0 : Int32).toInt = 0 := (by decide); have : (35 : Int32).toInt = 35 := (by decide); have : (43 : Int32).toInt = 43 := (by decide); have : (48 : Int32).toInt = 48 := (by decide); have : (57 : Int32).toInt = 57 := (by decide); have : (6 : Int32).toInt = 6 := (by decide); omega))⟩
        · --
          have i13 : Iv a1 (-2147483648) 5 := iv_lt1 (iv_nle c11) (iv_top a1) (⟨by decide, by decide⟩ : Iv 6 6 6) (by decide)
          refine lv_iconst (v := 1) hx hb dX11_isGround_29 (by decide) ?_
          refine lv_goto (tgt := 34) hx hb dX11_isGround_30 (by decide) ?_
          rw [← hQ]
          exact o_rz cx rx hw (iv_nz01 (iv_w (⟨by decide, by decide⟩ : Iv 1 1 1) (by decide))) dX11_isGround_34 ⟨rfl, (iv_w (⟨by decide, by decide⟩ : Iv 1 1 1) (by decide)), (fun _ => iv_w i10 (by decide)), (by exact (by have := (i10).1; have := (i10).2; have := (i13).1; have := (i13).2; have := (i6).1; have := (i6).2; have : (v2 : Int32).toInt = (0 : Int32).toInt := congrArg Int32.toInt c3; have : (a0 : Int32).toInt ≠ (35 : Int32).toInt := fun q => c7 (Int32.toInt_inj.mp q); have : (a0 : Int32).toInt = (43 : Int32).toInt := congrArg Int32.toInt c9; have : (a1 : Int32).toInt < (6 : Int32).toInt := iv_lt.mp (iv_nle c11); have : (0 : Int32).toInt = 0 := (by decide); have : (1 : Int32).toInt = 1 := (by decide); have : (35 : Int32).toInt = 35 := (by decide); have : (43 : Int32).toInt = 43 := (by decide); have : (48 : Int32).toInt = 48 := (by decide); have : (57 : Int32).toInt = 57 := (by decide); have : (6 : Int32).toInt = 6 := (by decide); omega))⟩
abbrev fs_X11_take : List Nat := [641, 642, 645, 647, 649, 653, 672]
abbrev ts_X11_take : List Nat := [48, 49, 50, 60, 63]
set_option maxHeartbeats 4000000 in
set_option maxRecDepth 100000 in
theorem c_X11_take (a0 : Nat) (ha0 : oA L τ a0 10) (a1 : Int32) (ia1 : Iv a1 1 8) (a2 : Int32) (ia2 : Iv a2 1 8) (hk9 : ∀ b, σ.2.2.2.2 664 a0 = some b → gt (σ.2.2.1 b) a1.toInt a2.toInt 64 ≤ 6) : oMet l A L τ cy D K yX11_take cX11_take 5 none 2 43 [.ref a0, .int a1, .int a2] σ (va_Qv (fun σ1 => oFr τ fs_X11_take ts_X11_take σ σ1 ∧ Iv (σ1.1 642 a0) 1 8) (oPo A L τ cy D) A) := by
  refine oMk (by decide) (Nat.le_of_ble_eq_true rfl) rfl ?_
  intro p e s m args below meth c ls cx rx hA hw hl
  generalize hQ : MQ below _ args s 0 0 A = Q
  have hx := cx.1.1
  have hb := cx.1.2.1
  have hml := cx.1.2.2.1
  have hown := cx.1.2.2.2.1
  have hts := cx.1.2.2.2.2
  have hl : lv_has ls 5 [(0, .ref a0), (1, .int a1), (2, .int a2)] := hl
  have fr : oFr τ fs_X11_take ts_X11_take σ σ := oFr_rf
  obtain ⟨b664, hF664, hb664⟩ := hw.2.2.2.2.2 664 a0 64 (by rw [ha0.2]; rfl) ha0.1
  refine lv_aload_n hx hb dX11_take_0 rfl (lv_at hl 0 rfl) ?_
  refine lv_iload_n hx hb dX11_take_1 rfl (lv_at hl 1 rfl) ?_
  refine p_641 cx hw ha0 (iv_w ia1 (by decide)) k_f_X11_99 dX11_take_2 (fun σ1 H locs eσ1 hw => ?_)
  have fr := oFr_i fr eσ1 (by decide)
  refine lv_aload_n hx hb dX11_take_5 rfl (lv_at hl 0 rfl) ?_
  refine lv_iload_n hx hb dX11_take_6 rfl (lv_at hl 2 rfl) ?_
  refine p_642 cx hw ha0 (iv_w ia2 (by decide)) k_f_X11_102 dX11_take_7 (fun σ2 H locs eσ2 hw => ?_)
  have fr := oFr_i fr eσ2 (by decide)
  refine lv_aload_n hx hb dX11_take_10 rfl (lv_at hl 0 rfl) ?_
  refine lv_iconst (v := 0) hx hb dX11_take_11 (by decide) ?_
  refine p_645 cx hw ha0 (iv_w (⟨by decide, by decide⟩ : Iv 0 0 0) (by decide)) k_f_X11_154 dX11_take_12 (fun σ3 H locs eσ3 hw => ?_)
  have fr := oFr_i fr eσ3 (by decide)
  refine lv_iconst (v := 0) hx hb dX11_take_15 (by decide) ?_
  refine lv_istore_n (lv' := [(3, .int 0), (0, .ref a0), (1, .int a1), (2, .int a2)]) hx hb dX11_take_16 rfl hl (by decide) rfl (fun ls hl => ?_)
  have frE_17 := fr
  have J_17 : ∀ n17 : Nat, ∀ (j17_3 : Int32) (ij17_3 : Iv j17_3 0 64), ∀ (σ_17 : oSt) (H : Heap) (locs : List Loc), oI A L τ cy D s.heap σ_17 H locs → oFr τ fs_X11_take ts_X11_take σ σ_17 → Iv (σ_17.1 642 a0) 1 8 → Iv (σ_17.1 645 a0) 0 6 → (64 - j17_3.toInt).toNat < n17 → ((σ_17.1 645 a0).toInt = (gt (σ.2.2.1 b664) a1.toInt a2.toInt (j17_3 : Int32).toNatClampNeg : Int)) → ((σ_17.1 641 a0).toInt = a1.toInt) → ((σ_17.1 642 a0).toInt = a2.toInt) → (σ_17.2.2.1 b664 = σ.2.2.1 b664) → ∀ (ls : Array Slot), lv_has ls 5 [(0, .ref a0), (1, .int a1), (2, .int a2), (3, .int j17_3)] → W p l e ({ frames := 2, cells := 0, slots := 0, locals := 43 } : Room) s m args below meth c H locs 0 0 Q (F0 m 17 ls []) := by
    intro n17
    induction n17 with
    | zero => intro j17_3 ij17_3 σ_17 H locs hw fr f17_642_a0 f17_645_a0  hn_17 hg h1 h2 h4  ls hl; exact absurd hn_17 (Nat.not_lt_zero _)
    | succ n17 ih_17 =>
      intro j17_3 ij17_3 σ_17 H locs hw fr f17_642_a0 f17_645_a0  hn_17 hg h1 h2 h4  ls hl
      have fr_17 := fr
      refine lv_iload_n hx hb dX11_take_17 rfl (lv_at hl 3 rfl) ?_
      refine lv_bipush (v := 64) hx hb dX11_take_18 (by decide) ?_
      refine lv_icmp_ge (tgt := 178) hx hb dX11_take_20 (by decide) (fun c4 => ?_) (fun c4 => ?_)
      · --
        have i5 : Iv j17_3 64 64 := iv_le2 c4 (⟨by decide, by decide⟩ : Iv 64 64 64) ij17_3 (by decide)
        refine lv_aload_n hx hb dX11_take_178 rfl (lv_at hl 0 rfl) ?_
        refine lv_iconst (v := 0) hx hb dX11_take_179 (by decide) ?_
        refine p_647 cx hw ha0 (iv_w (⟨by decide, by decide⟩ : Iv 0 0 0) (by decide)) k_f_X11_105 dX11_take_180 (fun σ6 H locs eσ6 hw => ?_)
        have fr := oFr_i fr eσ6 (by decide)
        refine lv_aload_n hx hb dX11_take_183 rfl (lv_at hl 0 rfl) ?_
        refine lv_iconst (v := 0) hx hb dX11_take_184 (by decide) ?_
        refine p_649 cx hw ha0 k_f_X11_161 dX11_take_185 (fun σ7 H locs eσ7 hw => ?_)
        have fr := oFr_i fr eσ7 (by decide)
        refine lv_aload_n hx hb dX11_take_188 rfl (lv_at hl 0 rfl) ?_
        refine g_640 cx hw ha0 k_f_X11_9 dX11_take_189 (fun v8 e8 h8 => ?_)
        refine lv_sipush (v := 332) hx hb dX11_take_192 (by decide) ?_
        refine lv_iconst (v := 0) hx hb dX11_take_195 (by decide) ?_
        refine o_iast cx hw h8 (by decide) rfl (iv_in (⟨by decide, by decide⟩ : Iv 332 332 332) (by decide)) (fun _ _ => iv_w (⟨by decide, by decide⟩ : Iv 0 0 0) (by decide)) dX11_take_196 (fun σ9 H locs eσ9 hw => ?_)
        have fr := oFr_p fr eσ9 h8 (by decide)
        refine lv_aload_n hx hb dX11_take_197 rfl (lv_at hl 0 rfl) ?_
        refine g_640 cx hw ha0 k_f_X11_9 dX11_take_198 (fun v10 e10 h10 => ?_)
        rw [show v10 = v8 from Option.some.inj (e10.symm.trans (((kr_p eσ9).trans e8)))]
        refine lv_sipush (v := 333) hx hb dX11_take_201 (by decide) ?_
        refine lv_iconst (v := 0) hx hb dX11_take_204 (by decide) ?_
        refine o_iast cx hw h8 (by decide) rfl (iv_in (⟨by decide, by decide⟩ : Iv 333 333 333) (by decide)) (fun _ _ => iv_w (⟨by decide, by decide⟩ : Iv 0 0 0) (by decide)) dX11_take_205 (fun σ11 H locs eσ11 hw => ?_)
        have fr := oFr_p fr eσ11 h8 (by decide)
        refine lv_aload_n hx hb dX11_take_206 rfl (lv_at hl 0 rfl) ?_
        refine lv_iconst (v := 0) hx hb dX11_take_207 (by decide) ?_
        refine p_653 cx hw ha0 (iv_w (⟨by decide, by decide⟩ : Iv 0 0 0) (by decide)) k_f_X11_164 dX11_take_208 (fun σ12 H locs eσ12 hw => ?_)
        have fr := oFr_i fr eσ12 (by decide)
        refine lv_aload_n hx hb dX11_take_211 rfl (lv_at hl 0 rfl) ?_
        refine lv_iconst (v := 0) hx hb dX11_take_212 (by decide) ?_
        refine p_672 cx hw ha0 (iv_w (⟨by decide, by decide⟩ : Iv 0 0 0) (by decide)) k_f_X11_168 dX11_take_213 (fun σ13 H locs eσ13 hw => ?_)
        have fr := oFr_i fr eσ13 (by decide)
        refine lv_iconst (v := 0) hx hb dX11_take_216 (by decide) ?_
        refine lv_istore_n (lv' := [(3, .int 0), (0, .ref a0), (1, .int a1), (2, .int a2)]) hx hb dX11_take_217 rfl hl (by decide) rfl (fun ls hl => ?_)
        have frE_218 := fr
        have J_218 : ∀ n218 : Nat, ∀ (j218_3 : Int32) (ij218_3 : Iv j218_3 0 2), ∀ (σ_218 : oSt) (H : Heap) (locs : List Loc), oI A L τ cy D s.heap σ_218 H locs → oFr τ fs_X11_take ts_X11_take σ σ_218 → Iv (σ_218.1 642 a0) 1 8 → Iv (σ_218.1 645 a0) 0 6 → Iv (σ_218.1 647 a0) 0 0 → Iv (σ_218.1 672 a0) 0 0 → (2 - j218_3.toInt).toNat < n218 → ∀ (ls : Array Slot), lv_has ls 5 [(0, .ref a0), (1, .int a1), (2, .int a2), (3, .int j218_3)] → W p l e ({ frames := 2, cells := 0, slots := 0, locals := 43 } : Room) s m args below meth c H locs 0 0 Q (F0 m 218 ls []) := by
          intro n218
          induction n218 with
          | zero => intro j218_3 ij218_3 σ_218 H locs hw fr f218_642_a0 f218_645_a0 f218_647_a0 f218_672_a0  hn_218   ls hl; exact absurd hn_218 (Nat.not_lt_zero _)
          | succ n218 ih_218 =>
            intro j218_3 ij218_3 σ_218 H locs hw fr f218_642_a0 f218_645_a0 f218_647_a0 f218_672_a0  hn_218   ls hl
            have fr_218 := fr
            refine lv_iload_n hx hb dX11_take_218 rfl (lv_at hl 3 rfl) ?_
            refine lv_iconst (v := 2) hx hb dX11_take_219 (by decide) ?_
            refine lv_icmp_ge (tgt := 236) hx hb dX11_take_220 (by decide) (fun c14 => ?_) (fun c14 => ?_)
            · --
              have i15 : Iv j218_3 2 2 := iv_le2 c14 (⟨by decide, by decide⟩ : Iv 2 2 2) ij218_3 (by decide)
              rw [← hQ]
              exact o_rv cx rx hw dX11_take_236 ⟨fr, (kn_iv (rfl) (iv_w f218_642_a0 (by decide)))⟩
            · --
              have i16 : Iv j218_3 0 1 := iv_lt1 (iv_nle c14) ij218_3 (⟨by decide, by decide⟩ : Iv 2 2 2) (by decide)
              refine lv_aload_n hx hb dX11_take_223 rfl (lv_at hl 0 rfl) ?_
              refine g_683 cx hw ha0 k_f_X11_82 dX11_take_224 (fun v17 e17 h17 => ?_)
              refine lv_iload_n hx hb dX11_take_227 rfl (lv_at hl 3 rfl) ?_
              refine lv_iconst (v := 0) hx hb dX11_take_228 (by decide) ?_
              refine o_zast cx hw h17 (by decide) rfl (iv_in i16 (by decide)) trivial dX11_take_229 (fun σ18 H locs eσ18 hw => ?_)
              have fr := oFr_p fr eσ18 h17 (by decide)
              obtain ⟨v19, e19⟩ : ∃ y : Int32, y = j218_3 + 1 := ⟨_, rfl⟩
              have i19 : Iv v19 1 2 := iv_add e19 i16 (⟨by decide, by decide⟩ : Iv 1 1 1) (by decide)
              have x19 : v19.toInt = j218_3.toInt + 1 := ex_add e19 i16 (⟨by decide, by decide⟩ : Iv 1 1 1) (by decide)
              refine lv_iinc (v := v19) (lv' := [(3, .int v19), (0, .ref a0), (1, .int a1), (2, .int a2)]) hx hb dX11_take_230 hl (k := 3) rfl (by rw [e19]; rfl) (by decide) rfl (fun ls hl => ?_)
              refine lv_goto (tgt := 218) hx hb dX11_take_233 (by decide) ?_
              exact ih_218 v19 (iv_w i19 (by decide)) σ18 _ _ hw fr (kn_iv (((kp_p eσ18).trans rfl)) (iv_w f218_642_a0 (by decide))) (kn_iv (((kp_p eσ18).trans rfl)) (iv_w f218_645_a0 (by decide))) (kn_iv (((kp_p eσ18).trans rfl)) (iv_w f218_647_a0 (by decide))) (kn_iv (((kp_p eσ18).trans rfl)) (iv_w f218_672_a0 (by decide))) (ms_up x19 (by decide) (iv_w (a' := 0) (b' := 2) i19 (by decide)).2 hn_218) _ (lv_sub hl [1, 2, 3, 0] rfl)
        exact J_218 _ 0 (iv_w (⟨by decide, by decide⟩ : Iv 0 0 0) (by decide)) σ13 _ _ hw fr (kn_iv (((kp_i eσ13 (by decide)).trans ((kp_i eσ12 (by decide)).trans ((kp_p eσ11).trans ((kp_p eσ9).trans ((kp_i eσ7 (by decide)).trans ((kp_i eσ6 (by decide)).trans rfl))))))) (iv_w f17_642_a0 (by decide))) (kn_iv (((kp_i eσ13 (by decide)).trans ((kp_i eσ12 (by decide)).trans ((kp_p eσ11).trans ((kp_p eσ9).trans ((kp_i eσ7 (by decide)).trans ((kp_i eσ6 (by decide)).trans rfl))))))) (iv_w f17_645_a0 (by decide))) (kn_iv (((kp_i eσ13 (by decide)).trans ((kp_i eσ12 (by decide)).trans ((kp_p eσ11).trans ((kp_p eσ9).trans ((kp_i eσ7 (by decide)).trans (kp_s eσ6))))))) (iv_w (⟨by decide, by decide⟩ : Iv 0 0 0) (by decide))) (kn_iv ((kp_s eσ13)) (iv_w (⟨by decide, by decide⟩ : Iv 0 0 0) (by decide))) (Nat.lt_succ_self _) _ (lv_sub hl [1, 2, 3, 0] rfl)
      · --
        have i20 : Iv j17_3 0 63 := iv_lt1 (iv_nle c4) ij17_3 (⟨by decide, by decide⟩ : Iv 64 64 64) (by decide)
        refine lv_aload_n hx hb dX11_take_23 rfl (lv_at hl 0 rfl) ?_
        refine lv_iload_n hx hb dX11_take_24 rfl (lv_at hl 3 rfl) ?_
        have i21 : Iv (σ_17.1 641 a0) 0 8 := o_fb (j := 641) hw ha0 rfl
        refine o_ci hw (oRunV cx hA hw q_X11_isCell k_m_X11_157 rfl ha0 (by decide) (As := [.int j17_3]) (c_X11_isCell a0 ha0 j17_3) (by decide) rfl hl.1 rfl (Nat.le_of_ble_eq_true rfl) dX11_take_25 (by decide)) (fun v23 σ22 H locs hp hw => ?_)
        obtain ⟨p23_0, p23_1, p23_2, p23_3⟩ := hp
        rw [p23_0] at hw
        refine lv_istore (lv' := [(4, .int v23), (0, .ref a0), (1, .int a1), (2, .int a2), (3, .int j17_3)]) hx hb dX11_take_28 hl (by decide) rfl (fun ls hl => ?_)
        refine lv_aload_n hx hb dX11_take_30 rfl (lv_at hl 1 rfl) ?_
        refine g_643 cx hw ha0 k_f_X11_13 dX11_take_31 (fun v24 e24 h24 => ?_)
        refine lv_iload_n hx hb dX11_take_34 rfl (lv_at hl 4 rfl) ?_
        refine lv_iload hx hb dX11_take_35 (lv_at hl 0 rfl) ?_
        refine lv_if_eq (tgt := 49) hx hb dX11_take_37 (by decide) (fun c25 => ?_) (fun c25 => ?_)
        · --
          have i26 : Iv v23 0 0 := iv_eq1 c25 p23_1 (⟨by decide, by decide⟩ : Iv 0 0 0) (by decide)
          refine lv_iconst (v := 1) hx hb dX11_take_49 (by decide) ?_
          refine o_iast cx hw h24 (by decide) rfl (iv_in i20 (by decide)) trivial dX11_take_50 (fun σ27 H locs eσ27 hw => ?_)
          have fr := oFr_p fr eσ27 h24 (by decide)
          refine lv_aload_n hx hb dX11_take_51 rfl (lv_at hl 1 rfl) ?_
          refine g_640 cx hw ha0 k_f_X11_9 dX11_take_52 (fun v28 e28 h28 => ?_)
          refine lv_iconst (v := 0) hx hb dX11_take_55 (by decide) ?_
          refine lv_iload_n hx hb dX11_take_56 rfl (lv_at hl 4 rfl) ?_
          refine lv_iadd hx hb dX11_take_57 ?_
          refine lv_topi (fun v29 e29 => ?_)
          have i29 : Iv v29 0 63 := iv_add e29 (⟨by decide, by decide⟩ : Iv 0 0 0) i20 (by decide)
          have x29 : v29.toInt = j17_3.toInt + 0 := (ex_add e29 (⟨by decide, by decide⟩ : Iv 0 0 0) i20 (by decide)).trans (Int.add_comm _ _)
          refine lv_iload hx hb dX11_take_58 (lv_at hl 0 rfl) ?_
          refine lv_if_eq (tgt := 72) hx hb dX11_take_60 (by decide) (fun c30 => ?_) (fun c30 => ?_)
          · --
            refine lv_iconst (v := 0) hx hb dX11_take_72 (by decide) ?_
            refine o_iast cx hw h28 (by decide) rfl (iv_in i29 (by decide)) (fun _ _ => iv_w (⟨by decide, by decide⟩ : Iv 0 0 0) (by decide)) dX11_take_73 (fun σ31 H locs eσ31 hw => ?_)
            have fr := oFr_p fr eσ31 h28 (by decide)
            refine lv_aload_n hx hb dX11_take_74 rfl (lv_at hl 1 rfl) ?_
            refine g_640 cx hw ha0 k_f_X11_9 dX11_take_75 (fun v32 e32 h32 => ?_)
            rw [show v32 = v28 from Option.some.inj (e32.symm.trans (((kr_p eσ31).trans e28)))]
            refine lv_bipush (v := 64) hx hb dX11_take_78 (by decide) ?_
            refine lv_iload_n hx hb dX11_take_80 rfl (lv_at hl 4 rfl) ?_
            refine lv_iadd hx hb dX11_take_81 ?_
            refine lv_topi (fun v33 e33 => ?_)
            have i33 : Iv v33 64 127 := iv_add e33 (⟨by decide, by decide⟩ : Iv 64 64 64) i20 (by decide)
            have x33 : v33.toInt = j17_3.toInt + 64 := (ex_add e33 (⟨by decide, by decide⟩ : Iv 64 64 64) i20 (by decide)).trans (Int.add_comm _ _)
            refine lv_iconst (v := 0) hx hb dX11_take_82 (by decide) ?_
            refine o_iast cx hw h28 (by decide) rfl (iv_in i33 (by decide)) (fun _ _ => iv_w (⟨by decide, by decide⟩ : Iv 0 0 0) (by decide)) dX11_take_83 (fun σ34 H locs eσ34 hw => ?_)
            have fr := oFr_p fr eσ34 h28 (by decide)
            refine lv_aload_n hx hb dX11_take_84 rfl (lv_at hl 1 rfl) ?_
            refine g_640 cx hw ha0 k_f_X11_9 dX11_take_85 (fun v35 e35 h35 => ?_)
            rw [show v35 = v28 from Option.some.inj (e35.symm.trans (((kr_p eσ34).trans ((kr_p eσ31).trans e28))))]
            refine lv_sipush (v := 128) hx hb dX11_take_88 (by decide) ?_
            refine lv_iload_n hx hb dX11_take_91 rfl (lv_at hl 4 rfl) ?_
            refine lv_iadd hx hb dX11_take_92 ?_
            refine lv_topi (fun v36 e36 => ?_)
            have i36 : Iv v36 128 191 := iv_add e36 (⟨by decide, by decide⟩ : Iv 128 128 128) i20 (by decide)
            have x36 : v36.toInt = j17_3.toInt + 128 := (ex_add e36 (⟨by decide, by decide⟩ : Iv 128 128 128) i20 (by decide)).trans (Int.add_comm _ _)
            refine lv_iconst (v := 0) hx hb dX11_take_93 (by decide) ?_
            refine o_iast cx hw h28 (by decide) rfl (iv_in i36 (by decide)) (fun _ _ => iv_w (⟨by decide, by decide⟩ : Iv 0 0 0) (by decide)) dX11_take_94 (fun σ37 H locs eσ37 hw => ?_)
            have fr := oFr_p fr eσ37 h28 (by decide)
            refine lv_aload_n hx hb dX11_take_95 rfl (lv_at hl 1 rfl) ?_
            refine g_640 cx hw ha0 k_f_X11_9 dX11_take_96 (fun v38 e38 h38 => ?_)
            rw [show v38 = v28 from Option.some.inj (e38.symm.trans (((kr_p eσ37).trans ((kr_p eσ34).trans ((kr_p eσ31).trans e28)))))]
            refine lv_sipush (v := 192) hx hb dX11_take_99 (by decide) ?_
            refine lv_iload_n hx hb dX11_take_102 rfl (lv_at hl 4 rfl) ?_
            refine lv_iadd hx hb dX11_take_103 ?_
            refine lv_topi (fun v39 e39 => ?_)
            have i39 : Iv v39 192 255 := iv_add e39 (⟨by decide, by decide⟩ : Iv 192 192 192) i20 (by decide)
            have x39 : v39.toInt = j17_3.toInt + 192 := (ex_add e39 (⟨by decide, by decide⟩ : Iv 192 192 192) i20 (by decide)).trans (Int.add_comm _ _)
            refine lv_iconst (v := (-1)) hx hb dX11_take_104 (by decide) ?_
            refine o_iast cx hw h28 (by decide) rfl (iv_in i39 (by decide)) (rb_lo i39 (by decide)) dX11_take_105 (fun σ40 H locs eσ40 hw => ?_)
            have fr := oFr_p fr eσ40 h28 (by decide)
            refine lv_aload_n hx hb dX11_take_106 rfl (lv_at hl 1 rfl) ?_
            refine g_640 cx hw ha0 k_f_X11_9 dX11_take_107 (fun v41 e41 h41 => ?_)
            rw [show v41 = v28 from Option.some.inj (e41.symm.trans (((kr_p eσ40).trans ((kr_p eσ37).trans ((kr_p eσ34).trans ((kr_p eσ31).trans e28))))))]
            refine lv_sipush (v := 256) hx hb dX11_take_110 (by decide) ?_
            refine lv_iload_n hx hb dX11_take_113 rfl (lv_at hl 4 rfl) ?_
            refine lv_iadd hx hb dX11_take_114 ?_
            refine lv_topi (fun v42 e42 => ?_)
            have i42 : Iv v42 256 319 := iv_add e42 (⟨by decide, by decide⟩ : Iv 256 256 256) i20 (by decide)
            have x42 : v42.toInt = j17_3.toInt + 256 := (ex_add e42 (⟨by decide, by decide⟩ : Iv 256 256 256) i20 (by decide)).trans (Int.add_comm _ _)
            refine lv_iconst (v := (-1)) hx hb dX11_take_115 (by decide) ?_
            refine o_iast cx hw h28 (by decide) rfl (iv_in i42 (by decide)) (rb_lo i42 (by decide)) dX11_take_116 (fun σ43 H locs eσ43 hw => ?_)
            have fr := oFr_p fr eσ43 h28 (by decide)
            refine lv_aload_n hx hb dX11_take_117 rfl (lv_at hl 1 rfl) ?_
            refine g_644 cx hw ha0 k_f_X11_16 dX11_take_118 (fun v44 e44 h44 => ?_)
            refine lv_iload_n hx hb dX11_take_121 rfl (lv_at hl 4 rfl) ?_
            refine lv_iconst (v := (-1)) hx hb dX11_take_122 (by decide) ?_
            refine o_iast cx hw h44 (by decide) rfl (iv_in i20 (by decide)) trivial dX11_take_123 (fun σ45 H locs eσ45 hw => ?_)
            have fr := oFr_p fr eσ45 h44 (by decide)
            refine lv_iload hx hb dX11_take_124 (lv_at hl 0 rfl) ?_
            refine lv_if_eq (tgt := 172) hx hb dX11_take_126 (by decide) (fun c46 => ?_) (fun c46 => ?_)
            · --
              obtain ⟨v47, e47⟩ : ∃ y : Int32, y = j17_3 + 1 := ⟨_, rfl⟩
              have i47 : Iv v47 1 64 := iv_add e47 i20 (⟨by decide, by decide⟩ : Iv 1 1 1) (by decide)
              have x47 : v47.toInt = j17_3.toInt + 1 := ex_add e47 i20 (⟨by decide, by decide⟩ : Iv 1 1 1) (by decide)
              refine lv_iinc (v := v47) (lv' := [(3, .int v47), (4, .int v23), (0, .ref a0), (1, .int a1), (2, .int a2)]) hx hb dX11_take_172 hl (k := 4) rfl (by rw [e47]; rfl) (by decide) rfl (fun ls hl => ?_)
              refine lv_goto (tgt := 17) hx hb dX11_take_175 (by decide) ?_
              exact ih_17 v47 (iv_w i47 (by decide)) σ45 _ _ hw fr (kn_iv (((kp_p eσ45).trans ((kp_p eσ43).trans ((kp_p eσ40).trans ((kp_p eσ37).trans ((kp_p eσ34).trans ((kp_p eσ31).trans ((kp_p eσ27).trans rfl)))))))) (iv_w f17_642_a0 (by decide))) (kn_iv (((kp_p eσ45).trans ((kp_p eσ43).trans ((kp_p eσ40).trans ((kp_p eσ37).trans ((kp_p eσ34).trans ((kp_p eσ31).trans ((kp_p eσ27).trans rfl)))))))) (iv_w f17_645_a0 (by decide))) (ms_up x47 (by decide) (iv_w (a' := 0) (b' := 64) i47 (by decide)).2 hn_17) (by have e9 := p23_3 (iv_w i20 (by decide)); exact gt_step hg i20 x47 (Or.inr ⟨fun z => (by have := z.1; have := z.2.1; have := (ia1).1; have := (ia1).2; have := (ia2).1; have := (ia2).2; have := (i26).1; have := (i26).2; have := (i47).1; have := (i47).2; have := (f17_642_a0).1; have := (f17_642_a0).2; have := (f17_645_a0).1; have := (f17_645_a0).2; have := (i21).1; have := (i21).2; have := (i20).1; have := (i20).2; have := (i29).1; have := (i29).2; have := (i33).1; have := (i33).2; have := (i36).1; have := (i36).2; have := (i39).1; have := (i39).2; have := (i42).1; have := (i42).2; have : (σ45.1 642 a0).toInt = ((σ_17.1 642 a0) : Int32).toInt := congrArg Int32.toInt (show σ45.1 642 a0 = (σ_17.1 642 a0) from ((kp_p eσ45).trans ((kp_p eσ43).trans ((kp_p eσ40).trans ((kp_p eσ37).trans ((kp_p eσ34).trans ((kp_p eσ31).trans ((kp_p eσ27).trans rfl)))))))); have : (σ45.1 645 a0).toInt = ((σ_17.1 645 a0) : Int32).toInt := congrArg Int32.toInt (show σ45.1 645 a0 = (σ_17.1 645 a0) from ((kp_p eσ45).trans ((kp_p eσ43).trans ((kp_p eσ40).trans ((kp_p eσ37).trans ((kp_p eσ34).trans ((kp_p eσ31).trans ((kp_p eσ27).trans rfl)))))))); have : (σ45.1 641 a0).toInt = ((σ_17.1 641 a0) : Int32).toInt := congrArg Int32.toInt (show σ45.1 641 a0 = (σ_17.1 641 a0) from ((kp_p eσ45).trans ((kp_p eσ43).trans ((kp_p eσ40).trans ((kp_p eσ37).trans ((kp_p eσ34).trans ((kp_p eσ31).trans ((kp_p eσ27).trans rfl)))))))); have : (j17_3 : Int32).toInt < (64 : Int32).toInt := iv_lt.mp (iv_nle c4); have : (v23 : Int32).toInt = (0 : Int32).toInt := congrArg Int32.toInt c25; have : (v23 : Int32).toInt = (0 : Int32).toInt := congrArg Int32.toInt c30; have : (v23 : Int32).toInt = (0 : Int32).toInt := congrArg Int32.toInt c46; have : (0 : Int32).toInt = 0 := (by decide); have : (64 : Int32).toInt = 64 := (by decide); omega), (by have := (ia1).1; have := (ia1).2; have := (ia2).1; have := (ia2).2; have := (i26).1; have := (i26).2; have := (i47).1; have := (i47).2; have := (f17_642_a0).1; have := (f17_642_a0).2; have := (f17_645_a0).1; have := (f17_645_a0).2; have := (i21).1; have := (i21).2; have := (i20).1; have := (i20).2; have := (i29).1; have := (i29).2; have := (i33).1; have := (i33).2; have := (i36).1; have := (i36).2; have := (i39).1; have := (i39).2; have := (i42).1; have := (i42).2; have : (σ45.1 642 a0).toInt = ((σ_17.1 642 a0) : Int32).toInt := congrArg Int32.toInt (show σ45.1 642 a0 = (σ_17.1 642 a0) from ((kp_p eσ45).trans ((kp_p eσ43).trans ((kp_p eσ40).trans ((kp_p eσ37).trans ((kp_p eσ34).trans ((kp_p eσ31).trans ((kp_p eσ27).trans rfl)))))))); have : (σ45.1 645 a0).toInt = ((σ_17.1 645 a0) : Int32).toInt := congrArg Int32.toInt (show σ45.1 645 a0 = (σ_17.1 645 a0) from ((kp_p eσ45).trans ((kp_p eσ43).trans ((kp_p eσ40).trans ((kp_p eσ37).trans ((kp_p eσ34).trans ((kp_p eσ31).trans ((kp_p eσ27).trans rfl)))))))); have : (σ45.1 641 a0).toInt = ((σ_17.1 641 a0) : Int32).toInt := congrArg Int32.toInt (show σ45.1 641 a0 = (σ_17.1 641 a0) from ((kp_p eσ45).trans ((kp_p eσ43).trans ((kp_p eσ40).trans ((kp_p eσ37).trans ((kp_p eσ34).trans ((kp_p eσ31).trans ((kp_p eσ27).trans rfl)))))))); have : (j17_3 : Int32).toInt < (64 : Int32).toInt := iv_lt.mp (iv_nle c4); have : (v23 : Int32).toInt = (0 : Int32).toInt := congrArg Int32.toInt c25; have : (v23 : Int32).toInt = (0 : Int32).toInt := congrArg Int32.toInt c30; have : (v23 : Int32).toInt = (0 : Int32).toInt := congrArg Int32.toInt c46; have : (0 : Int32).toInt = 0 := (by decide); have : (64 : Int32).toInt = 64 := (by decide); omega)⟩)) (by have := (ia1).1; have := (ia1).2; have := (ia2).1; have := (ia2).2; have := (i26).1; have := (i26).2; have := (i47).1; have := (i47).2; have := (f17_642_a0).1; have := (f17_642_a0).2; have := (f17_645_a0).1; have := (f17_645_a0).2; have := (i21).1; have := (i21).2; have := (i20).1; have := (i20).2; have := (i29).1; have := (i29).2; have := (i33).1; have := (i33).2; have := (i36).1; have := (i36).2; have := (i39).1; have := (i39).2; have := (i42).1; have := (i42).2; have : (σ45.1 642 a0).toInt = ((σ_17.1 642 a0) : Int32).toInt := congrArg Int32.toInt (show σ45.1 642 a0 = (σ_17.1 642 a0) from ((kp_p eσ45).trans ((kp_p eσ43).trans ((kp_p eσ40).trans ((kp_p eσ37).trans ((kp_p eσ34).trans ((kp_p eσ31).trans ((kp_p eσ27).trans rfl)))))))); have : (σ45.1 645 a0).toInt = ((σ_17.1 645 a0) : Int32).toInt := congrArg Int32.toInt (show σ45.1 645 a0 = (σ_17.1 645 a0) from ((kp_p eσ45).trans ((kp_p eσ43).trans ((kp_p eσ40).trans ((kp_p eσ37).trans ((kp_p eσ34).trans ((kp_p eσ31).trans ((kp_p eσ27).trans rfl)))))))); have : (σ45.1 641 a0).toInt = ((σ_17.1 641 a0) : Int32).toInt := congrArg Int32.toInt (show σ45.1 641 a0 = (σ_17.1 641 a0) from ((kp_p eσ45).trans ((kp_p eσ43).trans ((kp_p eσ40).trans ((kp_p eσ37).trans ((kp_p eσ34).trans ((kp_p eσ31).trans ((kp_p eσ27).trans rfl)))))))); have : (j17_3 : Int32).toInt < (64 : Int32).toInt := iv_lt.mp (iv_nle c4); have : (v23 : Int32).toInt = (0 : Int32).toInt := congrArg Int32.toInt c25; have : (v23 : Int32).toInt = (0 : Int32).toInt := congrArg Int32.toInt c30; have : (v23 : Int32).toInt = (0 : Int32).toInt := congrArg Int32.toInt c46; have : (0 : Int32).toInt = 0 := (by decide); have : (64 : Int32).toInt = 64 := (by decide); omega) (by have := (ia1).1; have := (ia1).2; have := (ia2).1; have := (ia2).2; have := (i26).1; have := (i26).2; have := (i47).1; have := (i47).2; have := (f17_642_a0).1; have := (f17_642_a0).2; have := (f17_645_a0).1; have := (f17_645_a0).2; have := (i21).1; have := (i21).2; have := (i20).1; have := (i20).2; have := (i29).1; have := (i29).2; have := (i33).1; have := (i33).2; have := (i36).1; have := (i36).2; have := (i39).1; have := (i39).2; have := (i42).1; have := (i42).2; have : (σ45.1 642 a0).toInt = ((σ_17.1 642 a0) : Int32).toInt := congrArg Int32.toInt (show σ45.1 642 a0 = (σ_17.1 642 a0) from ((kp_p eσ45).trans ((kp_p eσ43).trans ((kp_p eσ40).trans ((kp_p eσ37).trans ((kp_p eσ34).trans ((kp_p eσ31).trans ((kp_p eσ27).trans rfl)))))))); have : (σ45.1 645 a0).toInt = ((σ_17.1 645 a0) : Int32).toInt := congrArg Int32.toInt (show σ45.1 645 a0 = (σ_17.1 645 a0) from ((kp_p eσ45).trans ((kp_p eσ43).trans ((kp_p eσ40).trans ((kp_p eσ37).trans ((kp_p eσ34).trans ((kp_p eσ31).trans ((kp_p eσ27).trans rfl)))))))); have : (σ45.1 641 a0).toInt = ((σ_17.1 641 a0) : Int32).toInt := congrArg Int32.toInt (show σ45.1 641 a0 = (σ_17.1 641 a0) from ((kp_p eσ45).trans ((kp_p eσ43).trans ((kp_p eσ40).trans ((kp_p eσ37).trans ((kp_p eσ34).trans ((kp_p eσ31).trans ((kp_p eσ27).trans rfl)))))))); have : (j17_3 : Int32).toInt < (64 : Int32).toInt := iv_lt.mp (iv_nle c4); have : (v23 : Int32).toInt = (0 : Int32).toInt := congrArg Int32.toInt c25; have : (v23 : Int32).toInt = (0 : Int32).toInt := congrArg Int32.toInt c30; have : (v23 : Int32).toInt = (0 : Int32).toInt := congrArg Int32.toInt c46; have : (0 : Int32).toInt = 0 := (by decide); have : (64 : Int32).toInt = 64 := (by decide); omega) ((((rw_n eσ45 (rw_ne hb664 h44 (by decide))).trans ((rw_n eσ43 (rw_ne hb664 h28 (by decide))).trans ((rw_n eσ40 (rw_ne hb664 h28 (by decide))).trans ((rw_n eσ37 (rw_ne hb664 h28 (by decide))).trans ((rw_n eσ34 (rw_ne hb664 h28 (by decide))).trans ((rw_n eσ31 (rw_ne hb664 h28 (by decide))).trans ((rw_n eσ27 (rw_ne hb664 h24 (by decide))).trans rfl)))))))).trans h4) _ (lv_sub hl [2, 3, 4, 0] rfl)
            · --
              exact iv_no (iv_ne1 c46 i26 (⟨by decide, by decide⟩ : Iv 0 0 0) (by decide)) (by decide)
          · --
            exact iv_no (iv_ne1 c30 i26 (⟨by decide, by decide⟩ : Iv 0 0 0) (by decide)) (by decide)
        · --
          have i48 : Iv v23 1 1 := iv_ne1 c25 p23_1 (⟨by decide, by decide⟩ : Iv 0 0 0) (by decide)
          have i49 : Iv j17_3 0 63 := p23_2 c25
          refine lv_aload_n hx hb dX11_take_40 rfl (lv_at hl 1 rfl) ?_
          refine g_664 cx hw ha0 k_f_X11_40 dX11_take_41 (fun v50 e50 h50 => ?_)
          rw [show v50 = b664 from Option.some.inj (e50.symm.trans (((kr_c fr_17 (by decide)).trans hF664)))]
          refine lv_iload_n hx hb dX11_take_44 rfl (lv_at hl 4 rfl) ?_
          refine o_iald cx hw hb664 (by decide) rfl (iv_in i49 (by decide)) dX11_take_45 (fun v51 e51 b51 => ?_)
          refine lv_goto (tgt := 50) hx hb dX11_take_46 (by decide) ?_
          refine o_iast cx hw h24 (by decide) rfl (iv_in i49 (by decide)) trivial dX11_take_50 (fun σ52 H locs eσ52 hw => ?_)
          have fr := oFr_p fr eσ52 h24 (by decide)
          refine lv_aload_n hx hb dX11_take_51 rfl (lv_at hl 1 rfl) ?_
          refine g_640 cx hw ha0 k_f_X11_9 dX11_take_52 (fun v53 e53 h53 => ?_)
          refine lv_iconst (v := 0) hx hb dX11_take_55 (by decide) ?_
          refine lv_iload_n hx hb dX11_take_56 rfl (lv_at hl 4 rfl) ?_
          refine lv_iadd hx hb dX11_take_57 ?_
          refine lv_topi (fun v54 e54 => ?_)
          have i54 : Iv v54 0 63 := iv_add e54 (⟨by decide, by decide⟩ : Iv 0 0 0) i49 (by decide)
          have x54 : v54.toInt = j17_3.toInt + 0 := (ex_add e54 (⟨by decide, by decide⟩ : Iv 0 0 0) i49 (by decide)).trans (Int.add_comm _ _)
          refine lv_iload hx hb dX11_take_58 (lv_at hl 0 rfl) ?_
          refine lv_if_eq (tgt := 72) hx hb dX11_take_60 (by decide) (fun c55 => ?_) (fun c55 => ?_)
          · --
            exact iv_no (iv_eq1 (lo := 1) (hi := 0) c55 i48 (⟨by decide, by decide⟩ : Iv 0 0 0) (by decide)) (by decide)
          · --
            have i56 : Iv j17_3 0 63 := p23_2 c55
            refine lv_aload_n hx hb dX11_take_63 rfl (lv_at hl 1 rfl) ?_
            refine g_665 cx hw ha0 k_f_X11_43 dX11_take_64 (fun v57 e57 h57 => ?_)
            refine lv_iload_n hx hb dX11_take_67 rfl (lv_at hl 4 rfl) ?_
            refine o_iald cx hw h57 (by decide) rfl (iv_in i56 (by decide)) dX11_take_68 (fun v58 e58 b58 => ?_)
            refine lv_goto (tgt := 73) hx hb dX11_take_69 (by decide) ?_
            refine o_iast cx hw h53 (by decide) rfl (iv_in i54 (by decide)) (rb_lo i54 (by decide)) dX11_take_73 (fun σ59 H locs eσ59 hw => ?_)
            have fr := oFr_p fr eσ59 h53 (by decide)
            refine lv_aload_n hx hb dX11_take_74 rfl (lv_at hl 1 rfl) ?_
            refine g_640 cx hw ha0 k_f_X11_9 dX11_take_75 (fun v60 e60 h60 => ?_)
            rw [show v60 = v53 from Option.some.inj (e60.symm.trans (((kr_p eσ59).trans e53)))]
            refine lv_bipush (v := 64) hx hb dX11_take_78 (by decide) ?_
            refine lv_iload_n hx hb dX11_take_80 rfl (lv_at hl 4 rfl) ?_
            refine lv_iadd hx hb dX11_take_81 ?_
            refine lv_topi (fun v61 e61 => ?_)
            have i61 : Iv v61 64 127 := iv_add e61 (⟨by decide, by decide⟩ : Iv 64 64 64) i56 (by decide)
            have x61 : v61.toInt = j17_3.toInt + 64 := (ex_add e61 (⟨by decide, by decide⟩ : Iv 64 64 64) i56 (by decide)).trans (Int.add_comm _ _)
            refine lv_iconst (v := 0) hx hb dX11_take_82 (by decide) ?_
            refine o_iast cx hw h53 (by decide) rfl (iv_in i61 (by decide)) (fun _ _ => iv_w (⟨by decide, by decide⟩ : Iv 0 0 0) (by decide)) dX11_take_83 (fun σ62 H locs eσ62 hw => ?_)
            have fr := oFr_p fr eσ62 h53 (by decide)
            refine lv_aload_n hx hb dX11_take_84 rfl (lv_at hl 1 rfl) ?_
            refine g_640 cx hw ha0 k_f_X11_9 dX11_take_85 (fun v63 e63 h63 => ?_)
            rw [show v63 = v53 from Option.some.inj (e63.symm.trans (((kr_p eσ62).trans ((kr_p eσ59).trans e53))))]
            refine lv_sipush (v := 128) hx hb dX11_take_88 (by decide) ?_
            refine lv_iload_n hx hb dX11_take_91 rfl (lv_at hl 4 rfl) ?_
            refine lv_iadd hx hb dX11_take_92 ?_
            refine lv_topi (fun v64 e64 => ?_)
            have i64 : Iv v64 128 191 := iv_add e64 (⟨by decide, by decide⟩ : Iv 128 128 128) i56 (by decide)
            have x64 : v64.toInt = j17_3.toInt + 128 := (ex_add e64 (⟨by decide, by decide⟩ : Iv 128 128 128) i56 (by decide)).trans (Int.add_comm _ _)
            refine lv_iconst (v := 0) hx hb dX11_take_93 (by decide) ?_
            refine o_iast cx hw h53 (by decide) rfl (iv_in i64 (by decide)) (fun _ _ => iv_w (⟨by decide, by decide⟩ : Iv 0 0 0) (by decide)) dX11_take_94 (fun σ65 H locs eσ65 hw => ?_)
            have fr := oFr_p fr eσ65 h53 (by decide)
            refine lv_aload_n hx hb dX11_take_95 rfl (lv_at hl 1 rfl) ?_
            refine g_640 cx hw ha0 k_f_X11_9 dX11_take_96 (fun v66 e66 h66 => ?_)
            rw [show v66 = v53 from Option.some.inj (e66.symm.trans (((kr_p eσ65).trans ((kr_p eσ62).trans ((kr_p eσ59).trans e53)))))]
            refine lv_sipush (v := 192) hx hb dX11_take_99 (by decide) ?_
            refine lv_iload_n hx hb dX11_take_102 rfl (lv_at hl 4 rfl) ?_
            refine lv_iadd hx hb dX11_take_103 ?_
            refine lv_topi (fun v67 e67 => ?_)
            have i67 : Iv v67 192 255 := iv_add e67 (⟨by decide, by decide⟩ : Iv 192 192 192) i56 (by decide)
            have x67 : v67.toInt = j17_3.toInt + 192 := (ex_add e67 (⟨by decide, by decide⟩ : Iv 192 192 192) i56 (by decide)).trans (Int.add_comm _ _)
            refine lv_iconst (v := (-1)) hx hb dX11_take_104 (by decide) ?_
            refine o_iast cx hw h53 (by decide) rfl (iv_in i67 (by decide)) (rb_lo i67 (by decide)) dX11_take_105 (fun σ68 H locs eσ68 hw => ?_)
            have fr := oFr_p fr eσ68 h53 (by decide)
            refine lv_aload_n hx hb dX11_take_106 rfl (lv_at hl 1 rfl) ?_
            refine g_640 cx hw ha0 k_f_X11_9 dX11_take_107 (fun v69 e69 h69 => ?_)
            rw [show v69 = v53 from Option.some.inj (e69.symm.trans (((kr_p eσ68).trans ((kr_p eσ65).trans ((kr_p eσ62).trans ((kr_p eσ59).trans e53))))))]
            refine lv_sipush (v := 256) hx hb dX11_take_110 (by decide) ?_
            refine lv_iload_n hx hb dX11_take_113 rfl (lv_at hl 4 rfl) ?_
            refine lv_iadd hx hb dX11_take_114 ?_
            refine lv_topi (fun v70 e70 => ?_)
            have i70 : Iv v70 256 319 := iv_add e70 (⟨by decide, by decide⟩ : Iv 256 256 256) i56 (by decide)
            have x70 : v70.toInt = j17_3.toInt + 256 := (ex_add e70 (⟨by decide, by decide⟩ : Iv 256 256 256) i56 (by decide)).trans (Int.add_comm _ _)
            refine lv_iconst (v := (-1)) hx hb dX11_take_115 (by decide) ?_
            refine o_iast cx hw h53 (by decide) rfl (iv_in i70 (by decide)) (rb_lo i70 (by decide)) dX11_take_116 (fun σ71 H locs eσ71 hw => ?_)
            have fr := oFr_p fr eσ71 h53 (by decide)
            refine lv_aload_n hx hb dX11_take_117 rfl (lv_at hl 1 rfl) ?_
            refine g_644 cx hw ha0 k_f_X11_16 dX11_take_118 (fun v72 e72 h72 => ?_)
            refine lv_iload_n hx hb dX11_take_121 rfl (lv_at hl 4 rfl) ?_
            refine lv_iconst (v := (-1)) hx hb dX11_take_122 (by decide) ?_
            refine o_iast cx hw h72 (by decide) rfl (iv_in i56 (by decide)) trivial dX11_take_123 (fun σ73 H locs eσ73 hw => ?_)
            have fr := oFr_p fr eσ73 h72 (by decide)
            refine lv_iload hx hb dX11_take_124 (lv_at hl 0 rfl) ?_
            refine lv_if_eq (tgt := 172) hx hb dX11_take_126 (by decide) (fun c74 => ?_) (fun c74 => ?_)
            · --
              exact iv_no (iv_eq1 (lo := 1) (hi := 0) c74 i48 (⟨by decide, by decide⟩ : Iv 0 0 0) (by decide)) (by decide)
            · --
              have i75 : Iv j17_3 0 63 := p23_2 c74
              refine lv_aload_n hx hb dX11_take_129 rfl (lv_at hl 1 rfl) ?_
              refine g_643 cx hw ha0 k_f_X11_13 dX11_take_130 (fun v76 e76 h76 => ?_)
              rw [show v76 = v24 from Option.some.inj (e76.symm.trans (((kr_p eσ73).trans ((kr_p eσ71).trans ((kr_p eσ68).trans ((kr_p eσ65).trans ((kr_p eσ62).trans ((kr_p eσ59).trans ((kr_p eσ52).trans e24)))))))))]
              refine lv_iload_n hx hb dX11_take_133 rfl (lv_at hl 4 rfl) ?_
              refine o_iald cx hw h24 (by decide) rfl (iv_in i75 (by decide)) dX11_take_134 (fun v77 e77 b77 => ?_)
              rw [show v77 = v51 from e77.trans ((congrFun (((rw_n eσ73 (rw_ne h24 h72 (by decide))).trans ((rw_n eσ71 (rw_ne h24 h53 (by decide))).trans ((rw_n eσ68 (rw_ne h24 h53 (by decide))).trans ((rw_n eσ65 (rw_ne h24 h53 (by decide))).trans ((rw_n eσ62 (rw_ne h24 h53 (by decide))).trans ((rw_n eσ59 (rw_ne h24 h53 (by decide))).trans rfl))))))) _).trans (put_at eσ52))]
              refine lv_iconst (v := 2) hx hb dX11_take_135 (by decide) ?_
              refine lv_icmp_eq (tgt := 142) hx hb dX11_take_136 (by decide) (fun c78 => ?_) (fun c78 => ?_)
              · --
                have i79 : Iv v51 2 2 := iv_eq1 c78 (iv_top v51) (⟨by decide, by decide⟩ : Iv 2 2 2) (by decide)
                refine lv_aload_n hx hb dX11_take_142 rfl (lv_at hl 1 rfl) ?_
                refine g_644 cx hw ha0 k_f_X11_16 dX11_take_143 (fun v80 e80 h80 => ?_)
                rw [show v80 = v72 from Option.some.inj (e80.symm.trans (((kr_p eσ73).trans e72)))]
                refine lv_iload_n hx hb dX11_take_146 rfl (lv_at hl 4 rfl) ?_
                refine lv_aload_n hx hb dX11_take_147 rfl (lv_at hl 1 rfl) ?_
                refine g_645 cx hw ha0 k_f_X11_154 dX11_take_148 (fun v81 e81 i81 => ?_)
                rw [show v81 = (σ_17.1 645 a0) from e81.trans ((kp_p eσ73).trans ((kp_p eσ71).trans ((kp_p eσ68).trans ((kp_p eσ65).trans ((kp_p eσ62).trans ((kp_p eσ59).trans ((kp_p eσ52).trans rfl)))))))]
                have i82 : Iv (σ_17.1 645 a0) 0 5 := (by have e9 := p23_3 (iv_w i75 (by decide)); exact gt_room hg i75 (hk9 b664 hF664) (by have := (ia1).1; have := (ia1).2; have := (ia2).1; have := (ia2).2; have := (i75).1; have := (i75).2; have := (i48).1; have := (i48).2; have := (f17_645_a0).1; have := (f17_645_a0).2; have := (f17_642_a0).1; have := (f17_642_a0).2; have := (i21).1; have := (i21).2; have := (i54).1; have := (i54).2; have := (i61).1; have := (i61).2; have := (i64).1; have := (i64).2; have := (i67).1; have := (i67).2; have := (i70).1; have := (i70).2; have := (i79).1; have := (i79).2; have : (σ73.1 642 a0).toInt = ((σ_17.1 642 a0) : Int32).toInt := congrArg Int32.toInt (show σ73.1 642 a0 = (σ_17.1 642 a0) from ((kp_p eσ73).trans ((kp_p eσ71).trans ((kp_p eσ68).trans ((kp_p eσ65).trans ((kp_p eσ62).trans ((kp_p eσ59).trans ((kp_p eσ52).trans rfl)))))))); have : (σ73.1 645 a0).toInt = ((σ_17.1 645 a0) : Int32).toInt := congrArg Int32.toInt (show σ73.1 645 a0 = (σ_17.1 645 a0) from ((kp_p eσ73).trans ((kp_p eσ71).trans ((kp_p eσ68).trans ((kp_p eσ65).trans ((kp_p eσ62).trans ((kp_p eσ59).trans ((kp_p eσ52).trans rfl)))))))); have : (σ73.1 641 a0).toInt = ((σ_17.1 641 a0) : Int32).toInt := congrArg Int32.toInt (show σ73.1 641 a0 = (σ_17.1 641 a0) from ((kp_p eσ73).trans ((kp_p eσ71).trans ((kp_p eσ68).trans ((kp_p eσ65).trans ((kp_p eσ62).trans ((kp_p eσ59).trans ((kp_p eσ52).trans rfl)))))))); have : (j17_3 : Int32).toInt < (64 : Int32).toInt := iv_lt.mp (iv_nle c4); have : (v51 : Int32).toInt = (2 : Int32).toInt := congrArg Int32.toInt c78; have : (2 : Int32).toInt = 2 := (by decide); have : (64 : Int32).toInt = 64 := (by decide); omega) (by have := (ia1).1; have := (ia1).2; have := (ia2).1; have := (ia2).2; have := (i75).1; have := (i75).2; have := (i48).1; have := (i48).2; have := (f17_645_a0).1; have := (f17_645_a0).2; have := (f17_642_a0).1; have := (f17_642_a0).2; have := (i21).1; have := (i21).2; have := (i54).1; have := (i54).2; have := (i61).1; have := (i61).2; have := (i64).1; have := (i64).2; have := (i67).1; have := (i67).2; have := (i70).1; have := (i70).2; have := (i79).1; have := (i79).2; have : (σ73.1 642 a0).toInt = ((σ_17.1 642 a0) : Int32).toInt := congrArg Int32.toInt (show σ73.1 642 a0 = (σ_17.1 642 a0) from ((kp_p eσ73).trans ((kp_p eσ71).trans ((kp_p eσ68).trans ((kp_p eσ65).trans ((kp_p eσ62).trans ((kp_p eσ59).trans ((kp_p eσ52).trans rfl)))))))); have : (σ73.1 645 a0).toInt = ((σ_17.1 645 a0) : Int32).toInt := congrArg Int32.toInt (show σ73.1 645 a0 = (σ_17.1 645 a0) from ((kp_p eσ73).trans ((kp_p eσ71).trans ((kp_p eσ68).trans ((kp_p eσ65).trans ((kp_p eσ62).trans ((kp_p eσ59).trans ((kp_p eσ52).trans rfl)))))))); have : (σ73.1 641 a0).toInt = ((σ_17.1 641 a0) : Int32).toInt := congrArg Int32.toInt (show σ73.1 641 a0 = (σ_17.1 641 a0) from ((kp_p eσ73).trans ((kp_p eσ71).trans ((kp_p eσ68).trans ((kp_p eσ65).trans ((kp_p eσ62).trans ((kp_p eσ59).trans ((kp_p eσ52).trans rfl)))))))); have : (j17_3 : Int32).toInt < (64 : Int32).toInt := iv_lt.mp (iv_nle c4); have : (v51 : Int32).toInt = (2 : Int32).toInt := congrArg Int32.toInt c78; have : (2 : Int32).toInt = 2 := (by decide); have : (64 : Int32).toInt = 64 := (by decide); omega) ((((congrFun ((rfl).trans h4) _).symm.trans e51.symm) : (σ.2.2.1 b664 (j17_3 : Int32).toNatClampNeg) = v51).trans c78))
                refine o_iast cx hw h72 (by decide) rfl (iv_in i75 (by decide)) trivial dX11_take_151 (fun σ83 H locs eσ83 hw => ?_)
                have fr := oFr_p fr eσ83 h72 (by decide)
                refine lv_aload_n hx hb dX11_take_152 rfl (lv_at hl 1 rfl) ?_
                refine g_646 cx hw ha0 k_f_X11_19 dX11_take_153 (fun v84 e84 h84 => ?_)
                refine lv_aload_n hx hb dX11_take_156 rfl (lv_at hl 1 rfl) ?_
                refine g_645 cx hw ha0 k_f_X11_154 dX11_take_157 (fun v85 e85 i85 => ?_)
                rw [show v85 = (σ_17.1 645 a0) from e85.trans ((kp_p eσ83).trans ((kp_p eσ73).trans ((kp_p eσ71).trans ((kp_p eσ68).trans ((kp_p eσ65).trans ((kp_p eσ62).trans ((kp_p eσ59).trans ((kp_p eσ52).trans rfl))))))))]
                refine lv_iload_n hx hb dX11_take_160 rfl (lv_at hl 4 rfl) ?_
                refine o_iast cx hw h84 (by decide) rfl (iv_in i82 (by decide)) trivial dX11_take_161 (fun σ86 H locs eσ86 hw => ?_)
                have fr := oFr_p fr eσ86 h84 (by decide)
                refine lv_aload_n hx hb dX11_take_162 rfl (lv_at hl 1 rfl) ?_
                refine lv_dup hx hb dX11_take_163 rfl ?_
                refine g_645 cx hw ha0 k_f_X11_154 dX11_take_164 (fun v87 e87 i87 => ?_)
                rw [show v87 = (σ_17.1 645 a0) from e87.trans ((kp_p eσ86).trans ((kp_p eσ83).trans ((kp_p eσ73).trans ((kp_p eσ71).trans ((kp_p eσ68).trans ((kp_p eσ65).trans ((kp_p eσ62).trans ((kp_p eσ59).trans ((kp_p eσ52).trans rfl)))))))))]
                refine lv_iconst (v := 1) hx hb dX11_take_167 (by decide) ?_
                refine lv_iadd hx hb dX11_take_168 ?_
                refine lv_topi (fun v88 e88 => ?_)
                have i88 : Iv v88 1 6 := iv_add e88 i82 (⟨by decide, by decide⟩ : Iv 1 1 1) (by decide)
                have x88 : v88.toInt = (σ_17.1 645 a0).toInt + 1 := ex_add e88 i82 (⟨by decide, by decide⟩ : Iv 1 1 1) (by decide)
                refine p_645 cx hw ha0 (iv_w i88 (by decide)) k_f_X11_154 dX11_take_169 (fun σ89 H locs eσ89 hw => ?_)
                have fr := oFr_i fr eσ89 (by decide)
                obtain ⟨v90, e90⟩ : ∃ y : Int32, y = j17_3 + 1 := ⟨_, rfl⟩
                have i90 : Iv v90 1 64 := iv_add e90 i75 (⟨by decide, by decide⟩ : Iv 1 1 1) (by decide)
                have x90 : v90.toInt = j17_3.toInt + 1 := ex_add e90 i75 (⟨by decide, by decide⟩ : Iv 1 1 1) (by decide)
                refine lv_iinc (v := v90) (lv' := [(3, .int v90), (4, .int v23), (0, .ref a0), (1, .int a1), (2, .int a2)]) hx hb dX11_take_172 hl (k := 4) rfl (by rw [e90]; rfl) (by decide) rfl (fun ls hl => ?_)
                refine lv_goto (tgt := 17) hx hb dX11_take_175 (by decide) ?_
                exact ih_17 v90 (iv_w i90 (by decide)) σ89 _ _ hw fr (kn_iv (((kp_i eσ89 (by decide)).trans ((kp_p eσ86).trans ((kp_p eσ83).trans ((kp_p eσ73).trans ((kp_p eσ71).trans ((kp_p eσ68).trans ((kp_p eσ65).trans ((kp_p eσ62).trans ((kp_p eσ59).trans ((kp_p eσ52).trans rfl))))))))))) (iv_w f17_642_a0 (by decide))) (kn_iv ((kp_s eσ89)) (iv_w i88 (by decide))) (ms_up x90 (by decide) (iv_w (a' := 0) (b' := 64) i90 (by decide)).2 hn_17) (by have e9 := p23_3 (iv_w i75 (by decide)); have e8 : (σ.2.2.1 b664 (j17_3 : Int32).toNatClampNeg) = v51 := ((congrFun ((rfl).trans h4) _).symm.trans e51.symm); exact gt_step hg i75 x90 (Or.inl ⟨(by have := (ia1).1; have := (ia1).2; have := (ia2).1; have := (ia2).2; have := (i48).1; have := (i48).2; have := (i90).1; have := (i90).2; have := (f17_642_a0).1; have := (f17_642_a0).2; have := (i21).1; have := (i21).2; have := (i88).1; have := (i88).2; have := (i75).1; have := (i75).2; have := (i54).1; have := (i54).2; have := (i61).1; have := (i61).2; have := (i64).1; have := (i64).2; have := (i67).1; have := (i67).2; have := (i70).1; have := (i70).2; have := (i79).1; have := (i79).2; have := (i82).1; have := (i82).2; have : (σ89.1 642 a0).toInt = ((σ_17.1 642 a0) : Int32).toInt := congrArg Int32.toInt (show σ89.1 642 a0 = (σ_17.1 642 a0) from ((kp_i eσ89 (by decide)).trans ((kp_p eσ86).trans ((kp_p eσ83).trans ((kp_p eσ73).trans ((kp_p eσ71).trans ((kp_p eσ68).trans ((kp_p eσ65).trans ((kp_p eσ62).trans ((kp_p eσ59).trans ((kp_p eσ52).trans rfl))))))))))); have : (σ89.1 641 a0).toInt = ((σ_17.1 641 a0) : Int32).toInt := congrArg Int32.toInt (show σ89.1 641 a0 = (σ_17.1 641 a0) from ((kp_i eσ89 (by decide)).trans ((kp_p eσ86).trans ((kp_p eσ83).trans ((kp_p eσ73).trans ((kp_p eσ71).trans ((kp_p eσ68).trans ((kp_p eσ65).trans ((kp_p eσ62).trans ((kp_p eσ59).trans ((kp_p eσ52).trans rfl))))))))))); have : (σ89.1 645 a0).toInt = (v88 : Int32).toInt := congrArg Int32.toInt (show σ89.1 645 a0 = v88 from (kp_s eσ89)); have : (j17_3 : Int32).toInt < (64 : Int32).toInt := iv_lt.mp (iv_nle c4); have : (v51 : Int32).toInt = (2 : Int32).toInt := congrArg Int32.toInt c78; have : (2 : Int32).toInt = 2 := (by decide); have : (64 : Int32).toInt = 64 := (by decide); omega), (by have := (ia1).1; have := (ia1).2; have := (ia2).1; have := (ia2).2; have := (i48).1; have := (i48).2; have := (i90).1; have := (i90).2; have := (f17_642_a0).1; have := (f17_642_a0).2; have := (i21).1; have := (i21).2; have := (i88).1; have := (i88).2; have := (i75).1; have := (i75).2; have := (i54).1; have := (i54).2; have := (i61).1; have := (i61).2; have := (i64).1; have := (i64).2; have := (i67).1; have := (i67).2; have := (i70).1; have := (i70).2; have := (i79).1; have := (i79).2; have := (i82).1; have := (i82).2; have : (σ89.1 642 a0).toInt = ((σ_17.1 642 a0) : Int32).toInt := congrArg Int32.toInt (show σ89.1 642 a0 = (σ_17.1 642 a0) from ((kp_i eσ89 (by decide)).trans ((kp_p eσ86).trans ((kp_p eσ83).trans ((kp_p eσ73).trans ((kp_p eσ71).trans ((kp_p eσ68).trans ((kp_p eσ65).trans ((kp_p eσ62).trans ((kp_p eσ59).trans ((kp_p eσ52).trans rfl))))))))))); have : (σ89.1 641 a0).toInt = ((σ_17.1 641 a0) : Int32).toInt := congrArg Int32.toInt (show σ89.1 641 a0 = (σ_17.1 641 a0) from ((kp_i eσ89 (by decide)).trans ((kp_p eσ86).trans ((kp_p eσ83).trans ((kp_p eσ73).trans ((kp_p eσ71).trans ((kp_p eσ68).trans ((kp_p eσ65).trans ((kp_p eσ62).trans ((kp_p eσ59).trans ((kp_p eσ52).trans rfl))))))))))); have : (σ89.1 645 a0).toInt = (v88 : Int32).toInt := congrArg Int32.toInt (show σ89.1 645 a0 = v88 from (kp_s eσ89)); have : (j17_3 : Int32).toInt < (64 : Int32).toInt := iv_lt.mp (iv_nle c4); have : (v51 : Int32).toInt = (2 : Int32).toInt := congrArg Int32.toInt c78; have : (2 : Int32).toInt = 2 := (by decide); have : (64 : Int32).toInt = 64 := (by decide); omega), e8.trans c78, (by have := (ia1).1; have := (ia1).2; have := (ia2).1; have := (ia2).2; have := (i48).1; have := (i48).2; have := (i90).1; have := (i90).2; have := (f17_642_a0).1; have := (f17_642_a0).2; have := (i21).1; have := (i21).2; have := (i88).1; have := (i88).2; have := (i75).1; have := (i75).2; have := (i54).1; have := (i54).2; have := (i61).1; have := (i61).2; have := (i64).1; have := (i64).2; have := (i67).1; have := (i67).2; have := (i70).1; have := (i70).2; have := (i79).1; have := (i79).2; have := (i82).1; have := (i82).2; have : (σ89.1 642 a0).toInt = ((σ_17.1 642 a0) : Int32).toInt := congrArg Int32.toInt (show σ89.1 642 a0 = (σ_17.1 642 a0) from ((kp_i eσ89 (by decide)).trans ((kp_p eσ86).trans ((kp_p eσ83).trans ((kp_p eσ73).trans ((kp_p eσ71).trans ((kp_p eσ68).trans ((kp_p eσ65).trans ((kp_p eσ62).trans ((kp_p eσ59).trans ((kp_p eσ52).trans rfl))))))))))); have : (σ89.1 641 a0).toInt = ((σ_17.1 641 a0) : Int32).toInt := congrArg Int32.toInt (show σ89.1 641 a0 = (σ_17.1 641 a0) from ((kp_i eσ89 (by decide)).trans ((kp_p eσ86).trans ((kp_p eσ83).trans ((kp_p eσ73).trans ((kp_p eσ71).trans ((kp_p eσ68).trans ((kp_p eσ65).trans ((kp_p eσ62).trans ((kp_p eσ59).trans ((kp_p eσ52).trans rfl))))))))))); have : (σ89.1 645 a0).toInt = (v88 : Int32).toInt := congrArg Int32.toInt (show σ89.1 645 a0 = v88 from (kp_s eσ89)); have : (j17_3 : Int32).toInt < (64 : Int32).toInt := iv_lt.mp (iv_nle c4); have : (v51 : Int32).toInt = (2 : Int32).toInt := congrArg Int32.toInt c78; have : (2 : Int32).toInt = 2 := (by decide); have : (64 : Int32).toInt = 64 := (by decide); omega)⟩)) (by have := (ia1).1; have := (ia1).2; have := (ia2).1; have := (ia2).2; have := (i48).1; have := (i48).2; have := (i90).1; have := (i90).2; have := (f17_642_a0).1; have := (f17_642_a0).2; have := (i21).1; have := (i21).2; have := (i88).1; have := (i88).2; have := (i75).1; have := (i75).2; have := (i54).1; have := (i54).2; have := (i61).1; have := (i61).2; have := (i64).1; have := (i64).2; have := (i67).1; have := (i67).2; have := (i70).1; have := (i70).2; have := (i79).1; have := (i79).2; have := (i82).1; have := (i82).2; have : (σ89.1 642 a0).toInt = ((σ_17.1 642 a0) : Int32).toInt := congrArg Int32.toInt (show σ89.1 642 a0 = (σ_17.1 642 a0) from ((kp_i eσ89 (by decide)).trans ((kp_p eσ86).trans ((kp_p eσ83).trans ((kp_p eσ73).trans ((kp_p eσ71).trans ((kp_p eσ68).trans ((kp_p eσ65).trans ((kp_p eσ62).trans ((kp_p eσ59).trans ((kp_p eσ52).trans rfl))))))))))); have : (σ89.1 641 a0).toInt = ((σ_17.1 641 a0) : Int32).toInt := congrArg Int32.toInt (show σ89.1 641 a0 = (σ_17.1 641 a0) from ((kp_i eσ89 (by decide)).trans ((kp_p eσ86).trans ((kp_p eσ83).trans ((kp_p eσ73).trans ((kp_p eσ71).trans ((kp_p eσ68).trans ((kp_p eσ65).trans ((kp_p eσ62).trans ((kp_p eσ59).trans ((kp_p eσ52).trans rfl))))))))))); have : (σ89.1 645 a0).toInt = (v88 : Int32).toInt := congrArg Int32.toInt (show σ89.1 645 a0 = v88 from (kp_s eσ89)); have : (j17_3 : Int32).toInt < (64 : Int32).toInt := iv_lt.mp (iv_nle c4); have : (v51 : Int32).toInt = (2 : Int32).toInt := congrArg Int32.toInt c78; have : (2 : Int32).toInt = 2 := (by decide); have : (64 : Int32).toInt = 64 := (by decide); omega) (by have := (ia1).1; have := (ia1).2; have := (ia2).1; have := (ia2).2; have := (i48).1; have := (i48).2; have := (i90).1; have := (i90).2; have := (f17_642_a0).1; have := (f17_642_a0).2; have := (i21).1; have := (i21).2; have := (i88).1; have := (i88).2; have := (i75).1; have := (i75).2; have := (i54).1; have := (i54).2; have := (i61).1; have := (i61).2; have := (i64).1; have := (i64).2; have := (i67).1; have := (i67).2; have := (i70).1; have := (i70).2; have := (i79).1; have := (i79).2; have := (i82).1; have := (i82).2; have : (σ89.1 642 a0).toInt = ((σ_17.1 642 a0) : Int32).toInt := congrArg Int32.toInt (show σ89.1 642 a0 = (σ_17.1 642 a0) from ((kp_i eσ89 (by decide)).trans ((kp_p eσ86).trans ((kp_p eσ83).trans ((kp_p eσ73).trans ((kp_p eσ71).trans ((kp_p eσ68).trans ((kp_p eσ65).trans ((kp_p eσ62).trans ((kp_p eσ59).trans ((kp_p eσ52).trans rfl))))))))))); have : (σ89.1 641 a0).toInt = ((σ_17.1 641 a0) : Int32).toInt := congrArg Int32.toInt (show σ89.1 641 a0 = (σ_17.1 641 a0) from ((kp_i eσ89 (by decide)).trans ((kp_p eσ86).trans ((kp_p eσ83).trans ((kp_p eσ73).trans ((kp_p eσ71).trans ((kp_p eσ68).trans ((kp_p eσ65).trans ((kp_p eσ62).trans ((kp_p eσ59).trans ((kp_p eσ52).trans rfl))))))))))); have : (σ89.1 645 a0).toInt = (v88 : Int32).toInt := congrArg Int32.toInt (show σ89.1 645 a0 = v88 from (kp_s eσ89)); have : (j17_3 : Int32).toInt < (64 : Int32).toInt := iv_lt.mp (iv_nle c4); have : (v51 : Int32).toInt = (2 : Int32).toInt := congrArg Int32.toInt c78; have : (2 : Int32).toInt = 2 := (by decide); have : (64 : Int32).toInt = 64 := (by decide); omega) ((((rw_i eσ89).trans ((rw_n eσ86 (rw_ne hb664 h84 (by decide))).trans ((rw_n eσ83 (rw_ne hb664 h72 (by decide))).trans ((rw_n eσ73 (rw_ne hb664 h72 (by decide))).trans ((rw_n eσ71 (rw_ne hb664 h53 (by decide))).trans ((rw_n eσ68 (rw_ne hb664 h53 (by decide))).trans ((rw_n eσ65 (rw_ne hb664 h53 (by decide))).trans ((rw_n eσ62 (rw_ne hb664 h53 (by decide))).trans ((rw_n eσ59 (rw_ne hb664 h53 (by decide))).trans ((rw_n eσ52 (rw_ne hb664 h24 (by decide))).trans rfl))))))))))).trans h4) _ (lv_sub hl [2, 3, 4, 0] rfl)
              · --
                refine lv_goto (tgt := 172) hx hb dX11_take_139 (by decide) ?_
                obtain ⟨v91, e91⟩ : ∃ y : Int32, y = j17_3 + 1 := ⟨_, rfl⟩
                have i91 : Iv v91 1 64 := iv_add e91 i75 (⟨by decide, by decide⟩ : Iv 1 1 1) (by decide)
                have x91 : v91.toInt = j17_3.toInt + 1 := ex_add e91 i75 (⟨by decide, by decide⟩ : Iv 1 1 1) (by decide)
                refine lv_iinc (v := v91) (lv' := [(3, .int v91), (4, .int v23), (0, .ref a0), (1, .int a1), (2, .int a2)]) hx hb dX11_take_172 hl (k := 4) rfl (by rw [e91]; rfl) (by decide) rfl (fun ls hl => ?_)
                refine lv_goto (tgt := 17) hx hb dX11_take_175 (by decide) ?_
                exact ih_17 v91 (iv_w i91 (by decide)) σ73 _ _ hw fr (kn_iv (((kp_p eσ73).trans ((kp_p eσ71).trans ((kp_p eσ68).trans ((kp_p eσ65).trans ((kp_p eσ62).trans ((kp_p eσ59).trans ((kp_p eσ52).trans rfl)))))))) (iv_w f17_642_a0 (by decide))) (kn_iv (((kp_p eσ73).trans ((kp_p eσ71).trans ((kp_p eσ68).trans ((kp_p eσ65).trans ((kp_p eσ62).trans ((kp_p eσ59).trans ((kp_p eσ52).trans rfl)))))))) (iv_w f17_645_a0 (by decide))) (ms_up x91 (by decide) (iv_w (a' := 0) (b' := 64) i91 (by decide)).2 hn_17) (by have e9 := p23_3 (iv_w i75 (by decide)); have e8 : (σ.2.2.1 b664 (j17_3 : Int32).toNatClampNeg) = v51 := ((congrFun ((rfl).trans h4) _).symm.trans e51.symm); exact gt_step hg i75 x91 (Or.inr ⟨fun z => (by have := z.1; have := z.2.1; have z3 := congrArg Int32.toInt (e8.symm.trans z.2.2); have : (2 : Int32).toInt = 2 := (by decide); have := (ia1).1; have := (ia1).2; have := (ia2).1; have := (ia2).2; have := (i48).1; have := (i48).2; have := (i91).1; have := (i91).2; have := (f17_642_a0).1; have := (f17_642_a0).2; have := (f17_645_a0).1; have := (f17_645_a0).2; have := (i21).1; have := (i21).2; have := (i75).1; have := (i75).2; have := (i54).1; have := (i54).2; have := (i61).1; have := (i61).2; have := (i64).1; have := (i64).2; have := (i67).1; have := (i67).2; have := (i70).1; have := (i70).2; have : (σ73.1 642 a0).toInt = ((σ_17.1 642 a0) : Int32).toInt := congrArg Int32.toInt (show σ73.1 642 a0 = (σ_17.1 642 a0) from ((kp_p eσ73).trans ((kp_p eσ71).trans ((kp_p eσ68).trans ((kp_p eσ65).trans ((kp_p eσ62).trans ((kp_p eσ59).trans ((kp_p eσ52).trans rfl)))))))); have : (σ73.1 645 a0).toInt = ((σ_17.1 645 a0) : Int32).toInt := congrArg Int32.toInt (show σ73.1 645 a0 = (σ_17.1 645 a0) from ((kp_p eσ73).trans ((kp_p eσ71).trans ((kp_p eσ68).trans ((kp_p eσ65).trans ((kp_p eσ62).trans ((kp_p eσ59).trans ((kp_p eσ52).trans rfl)))))))); have : (σ73.1 641 a0).toInt = ((σ_17.1 641 a0) : Int32).toInt := congrArg Int32.toInt (show σ73.1 641 a0 = (σ_17.1 641 a0) from ((kp_p eσ73).trans ((kp_p eσ71).trans ((kp_p eσ68).trans ((kp_p eσ65).trans ((kp_p eσ62).trans ((kp_p eσ59).trans ((kp_p eσ52).trans rfl)))))))); have : (j17_3 : Int32).toInt < (64 : Int32).toInt := iv_lt.mp (iv_nle c4); have : (v51 : Int32).toInt ≠ (2 : Int32).toInt := fun q => c78 (Int32.toInt_inj.mp q); have : (2 : Int32).toInt = 2 := (by decide); have : (64 : Int32).toInt = 64 := (by decide); omega), (by have := (ia1).1; have := (ia1).2; have := (ia2).1; have := (ia2).2; have := (i48).1; have := (i48).2; have := (i91).1; have := (i91).2; have := (f17_642_a0).1; have := (f17_642_a0).2; have := (f17_645_a0).1; have := (f17_645_a0).2; have := (i21).1; have := (i21).2; have := (i75).1; have := (i75).2; have := (i54).1; have := (i54).2; have := (i61).1; have := (i61).2; have := (i64).1; have := (i64).2; have := (i67).1; have := (i67).2; have := (i70).1; have := (i70).2; have : (σ73.1 642 a0).toInt = ((σ_17.1 642 a0) : Int32).toInt := congrArg Int32.toInt (show σ73.1 642 a0 = (σ_17.1 642 a0) from ((kp_p eσ73).trans ((kp_p eσ71).trans ((kp_p eσ68).trans ((kp_p eσ65).trans ((kp_p eσ62).trans ((kp_p eσ59).trans ((kp_p eσ52).trans rfl)))))))); have : (σ73.1 645 a0).toInt = ((σ_17.1 645 a0) : Int32).toInt := congrArg Int32.toInt (show σ73.1 645 a0 = (σ_17.1 645 a0) from ((kp_p eσ73).trans ((kp_p eσ71).trans ((kp_p eσ68).trans ((kp_p eσ65).trans ((kp_p eσ62).trans ((kp_p eσ59).trans ((kp_p eσ52).trans rfl)))))))); have : (σ73.1 641 a0).toInt = ((σ_17.1 641 a0) : Int32).toInt := congrArg Int32.toInt (show σ73.1 641 a0 = (σ_17.1 641 a0) from ((kp_p eσ73).trans ((kp_p eσ71).trans ((kp_p eσ68).trans ((kp_p eσ65).trans ((kp_p eσ62).trans ((kp_p eσ59).trans ((kp_p eσ52).trans rfl)))))))); have : (j17_3 : Int32).toInt < (64 : Int32).toInt := iv_lt.mp (iv_nle c4); have : (v51 : Int32).toInt ≠ (2 : Int32).toInt := fun q => c78 (Int32.toInt_inj.mp q); have : (2 : Int32).toInt = 2 := (by decide); have : (64 : Int32).toInt = 64 := (by decide); omega)⟩)) (by have := (ia1).1; have := (ia1).2; have := (ia2).1; have := (ia2).2; have := (i48).1; have := (i48).2; have := (i91).1; have := (i91).2; have := (f17_642_a0).1; have := (f17_642_a0).2; have := (f17_645_a0).1; have := (f17_645_a0).2; have := (i21).1; have := (i21).2; have := (i75).1; have := (i75).2; have := (i54).1; have := (i54).2; have := (i61).1; have := (i61).2; have := (i64).1; have := (i64).2; have := (i67).1; have := (i67).2; have := (i70).1; have := (i70).2; have : (σ73.1 642 a0).toInt = ((σ_17.1 642 a0) : Int32).toInt := congrArg Int32.toInt (show σ73.1 642 a0 = (σ_17.1 642 a0) from ((kp_p eσ73).trans ((kp_p eσ71).trans ((kp_p eσ68).trans ((kp_p eσ65).trans ((kp_p eσ62).trans ((kp_p eσ59).trans ((kp_p eσ52).trans rfl)))))))); have : (σ73.1 645 a0).toInt = ((σ_17.1 645 a0) : Int32).toInt := congrArg Int32.toInt (show σ73.1 645 a0 = (σ_17.1 645 a0) from ((kp_p eσ73).trans ((kp_p eσ71).trans ((kp_p eσ68).trans ((kp_p eσ65).trans ((kp_p eσ62).trans ((kp_p eσ59).trans ((kp_p eσ52).trans rfl)))))))); have : (σ73.1 641 a0).toInt = ((σ_17.1 641 a0) : Int32).toInt := congrArg Int32.toInt (show σ73.1 641 a0 = (σ_17.1 641 a0) from ((kp_p eσ73).trans ((kp_p eσ71).trans ((kp_p eσ68).trans ((kp_p eσ65).trans ((kp_p eσ62).trans ((kp_p eσ59).trans ((kp_p eσ52).trans rfl)))))))); have : (j17_3 : Int32).toInt < (64 : Int32).toInt := iv_lt.mp (iv_nle c4); have : (v51 : Int32).toInt ≠ (2 : Int32).toInt := fun q => c78 (Int32.toInt_inj.mp q); have : (2 : Int32).toInt = 2 := (by decide); have : (64 : Int32).toInt = 64 := (by decide); omega) (by have := (ia1).1; have := (ia1).2; have := (ia2).1; have := (ia2).2; have := (i48).1; have := (i48).2; have := (i91).1; have := (i91).2; have := (f17_642_a0).1; have := (f17_642_a0).2; have := (f17_645_a0).1; have := (f17_645_a0).2; have := (i21).1; have := (i21).2; have := (i75).1; have := (i75).2; have := (i54).1; have := (i54).2; have := (i61).1; have := (i61).2; have := (i64).1; have := (i64).2; have := (i67).1; have := (i67).2; have := (i70).1; have := (i70).2; have : (σ73.1 642 a0).toInt = ((σ_17.1 642 a0) : Int32).toInt := congrArg Int32.toInt (show σ73.1 642 a0 = (σ_17.1 642 a0) from ((kp_p eσ73).trans ((kp_p eσ71).trans ((kp_p eσ68).trans ((kp_p eσ65).trans ((kp_p eσ62).trans ((kp_p eσ59).trans ((kp_p eσ52).trans rfl)))))))); have : (σ73.1 645 a0).toInt = ((σ_17.1 645 a0) : Int32).toInt := congrArg Int32.toInt (show σ73.1 645 a0 = (σ_17.1 645 a0) from ((kp_p eσ73).trans ((kp_p eσ71).trans ((kp_p eσ68).trans ((kp_p eσ65).trans ((kp_p eσ62).trans ((kp_p eσ59).trans ((kp_p eσ52).trans rfl)))))))); have : (σ73.1 641 a0).toInt = ((σ_17.1 641 a0) : Int32).toInt := congrArg Int32.toInt (show σ73.1 641 a0 = (σ_17.1 641 a0) from ((kp_p eσ73).trans ((kp_p eσ71).trans ((kp_p eσ68).trans ((kp_p eσ65).trans ((kp_p eσ62).trans ((kp_p eσ59).trans ((kp_p eσ52).trans rfl)))))))); have : (j17_3 : Int32).toInt < (64 : Int32).toInt := iv_lt.mp (iv_nle c4); have : (v51 : Int32).toInt ≠ (2 : Int32).toInt := fun q => c78 (Int32.toInt_inj.mp q); have : (2 : Int32).toInt = 2 := (by decide); have : (64 : Int32).toInt = 64 := (by decide); omega) ((((rw_n eσ73 (rw_ne hb664 h72 (by decide))).trans ((rw_n eσ71 (rw_ne hb664 h53 (by decide))).trans ((rw_n eσ68 (rw_ne hb664 h53 (by decide))).trans ((rw_n eσ65 (rw_ne hb664 h53 (by decide))).trans ((rw_n eσ62 (rw_ne hb664 h53 (by decide))).trans ((rw_n eσ59 (rw_ne hb664 h53 (by decide))).trans ((rw_n eσ52 (rw_ne hb664 h24 (by decide))).trans rfl)))))))).trans h4) _ (lv_sub hl [2, 3, 4, 0] rfl)
  exact J_17 _ 0 (iv_w (⟨by decide, by decide⟩ : Iv 0 0 0) (by decide)) σ3 _ _ hw fr (kn_iv (((kp_i eσ3 (by decide)).trans (kp_s eσ2))) (iv_w ia2 (by decide))) (kn_iv ((kp_s eσ3)) (iv_w (⟨by decide, by decide⟩ : Iv 0 0 0) (by decide))) (Nat.lt_succ_self _) (by have z : (0 : Int32).toNatClampNeg = 0 := (by decide); rw [z, gt]; exact (by have := (ia1).1; have := (ia1).2; have := (ia2).1; have := (ia2).2; have : (σ3.1 641 a0).toInt = (a1 : Int32).toInt := congrArg Int32.toInt (show σ3.1 641 a0 = a1 from ((kp_i eσ3 (by decide)).trans ((kp_i eσ2 (by decide)).trans (kp_s eσ1)))); have : (σ3.1 642 a0).toInt = (a2 : Int32).toInt := congrArg Int32.toInt (show σ3.1 642 a0 = a2 from ((kp_i eσ3 (by decide)).trans (kp_s eσ2))); have : (σ3.1 645 a0).toInt = (0 : Int32).toInt := congrArg Int32.toInt (show σ3.1 645 a0 = 0 from (kp_s eσ3)); have : (0 : Int32).toInt = 0 := (by decide); omega)) (by have := (ia1).1; have := (ia1).2; have := (ia2).1; have := (ia2).2; have : (σ3.1 641 a0).toInt = (a1 : Int32).toInt := congrArg Int32.toInt (show σ3.1 641 a0 = a1 from ((kp_i eσ3 (by decide)).trans ((kp_i eσ2 (by decide)).trans (kp_s eσ1)))); have : (σ3.1 642 a0).toInt = (a2 : Int32).toInt := congrArg Int32.toInt (show σ3.1 642 a0 = a2 from ((kp_i eσ3 (by decide)).trans (kp_s eσ2))); have : (σ3.1 645 a0).toInt = (0 : Int32).toInt := congrArg Int32.toInt (show σ3.1 645 a0 = 0 from (kp_s eσ3)); have : (0 : Int32).toInt = 0 := (by decide); omega) (by have := (ia1).1; have := (ia1).2; have := (ia2).1; have := (ia2).2; have : (σ3.1 641 a0).toInt = (a1 : Int32).toInt := congrArg Int32.toInt (show σ3.1 641 a0 = a1 from ((kp_i eσ3 (by decide)).trans ((kp_i eσ2 (by decide)).trans (kp_s eσ1)))); have : (σ3.1 642 a0).toInt = (a2 : Int32).toInt := congrArg Int32.toInt (show σ3.1 642 a0 = a2 from ((kp_i eσ3 (by decide)).trans (kp_s eσ2))); have : (σ3.1 645 a0).toInt = (0 : Int32).toInt := congrArg Int32.toInt (show σ3.1 645 a0 = 0 from (kp_s eσ3)); have : (0 : Int32).toInt = 0 := (by decide); omega) ((rw_i eσ3).trans ((rw_i eσ2).trans ((rw_i eσ1).trans rfl))) _ (lv_sub hl [1, 2, 3, 0] rfl)
abbrev fs_X11_readHerd : List Nat := [662, 663]
abbrev ts_X11_readHerd : List Nat := [53]
set_option maxHeartbeats 4000000 in
set_option maxRecDepth 100000 in
theorem c_X11_readHerd (a0 : Nat) (ha0 : oA L τ a0 10) (a1 : Int32) (ia1 : Iv a1 0 15) (b0 : Nat) (hF0 : σ.2.2.2.2 659 a0 = some b0) (hb0 : oA L τ b0 51) (hf660 : Iv (σ.1 660 a0) 0 80) : oMet l A L τ cy D K yX11_readHerd cX11_readHerd 5 none 3 63 [.ref a0, .int a1] σ (va_Qv (fun σ1 => oFr τ fs_X11_readHerd ts_X11_readHerd σ σ1 ∧ ((σ.1 662 a0).toInt ≤ (σ1.1 662 a0).toInt) ∧ ((σ.1 662 a0).toInt ≤ (σ.1 661 a0).toInt → (σ1.1 662 a0).toInt ≤ (σ.1 661 a0).toInt)) (oPo A L τ cy D) A) := by
  refine oMk (by decide) (Nat.le_of_ble_eq_true rfl) rfl ?_
  intro p e s m args below meth c ls cx rx hA hw hl
  generalize hQ : MQ below _ args s 0 0 A = Q
  have hx := cx.1.1
  have hb := cx.1.2.1
  have hml := cx.1.2.2.1
  have hown := cx.1.2.2.2.1
  have hts := cx.1.2.2.2.2
  have hl : lv_has ls 5 [(0, .ref a0), (1, .int a1)] := hl
  have fr : oFr τ fs_X11_readHerd ts_X11_readHerd σ σ := oFr_rf
  refine lv_aload_n hx hb dX11_readHerd_0 rfl (lv_at hl 0 rfl) ?_
  refine lv_bipush (v := 97) hx hb dX11_readHerd_1 (by decide) ?_
  refine lv_aload_n hx hb dX11_readHerd_3 rfl (lv_at hl 0 rfl) ?_
  refine g_641 cx hw ha0 k_f_X11_99 dX11_readHerd_4 (fun v1 e1 i1 => ?_)
  have z1 : v1.toInt = (σ.1 641 a0).toInt := congrArg Int32.toInt e1
  have i2 : Iv (σ.1 662 a0) 0 200 := o_fb (j := 662) hw ha0 rfl
  have i3 : Iv (σ.1 663 a0) (-1) 200 := o_fb (j := 663) hw ha0 rfl
  have i4 : Iv (σ.1 661 a0) 0 80 := o_fb (j := 661) hw ha0 rfl
  refine o_ci hw (oRunV cx hA hw q_X11_oneOf k_m_X11_171 rfl ha0 (by decide) (As := [.int 97, .int v1]) (c_X11_oneOfT a0 ha0 97 (iv_w (⟨by decide, by decide⟩ : Iv 97 97 97) (by decide)) v1 (iv_w i1 (by decide)) b0 (hF0) hb0 (kn_iv (rfl) (iv_w hf660 (by decide)))) (by decide) rfl hl.1 rfl (Nat.le_of_ble_eq_true rfl) dX11_readHerd_7 (by decide)) (fun v6 σ5 H locs hp hw => ?_)
  obtain ⟨p6_0, p6_1, p6_2, p6_3, p6_4, p6_5⟩ := hp
  have fr := oFr_tr fr p6_0 (by decide)
  have i7 : Iv (σ5.1 662 a0) 0 200 := o_fb (j := 662) hw ha0 rfl
  have i8 : Iv (σ5.1 663 a0) (-1) 200 := o_fb (j := 663) hw ha0 rfl
  have i9 : Iv v6 0 7 := iv_lt0 p6_2 i1 (by decide)
  refine lv_istore_n (lv' := [(2, .int v6), (0, .ref a0), (1, .int a1)]) hx hb dX11_readHerd_10 rfl hl (by decide) rfl (fun ls hl => ?_)
  refine lv_aload_n hx hb dX11_readHerd_11 rfl (lv_at hl 1 rfl) ?_
  refine lv_bipush (v := 49) hx hb dX11_readHerd_12 (by decide) ?_
  refine lv_aload_n hx hb dX11_readHerd_14 rfl (lv_at hl 1 rfl) ?_
  refine g_642 cx hw ha0 k_f_X11_102 dX11_readHerd_15 (fun v10 e10 i10 => ?_)
  have z10 : v10.toInt = (σ5.1 642 a0).toInt := congrArg Int32.toInt e10
  have z11 : (σ5.1 660 a0).toInt = ((σ.1 660 a0) : Int32).toInt := congrArg Int32.toInt (show σ5.1 660 a0 = (σ.1 660 a0) from ((kp_c p6_0 (by decide)).trans rfl))
  have z12 : (σ5.1 661 a0).toInt = ((σ.1 661 a0) : Int32).toInt := congrArg Int32.toInt (show σ5.1 661 a0 = (σ.1 661 a0) from ((kp_c p6_0 (by decide)).trans rfl))
  refine o_ci hw (oRunV cx hA hw q_X11_oneOf k_m_X11_171 rfl ha0 (by decide) (As := [.int 49, .int v10]) (c_X11_oneOfT a0 ha0 49 (iv_w (⟨by decide, by decide⟩ : Iv 49 49 49) (by decide)) v10 (iv_w i10 (by decide)) b0 (((kr_c p6_0 (by decide)).trans hF0)) hb0 (kn_iv (((kp_c p6_0 (by decide)).trans rfl)) (iv_w hf660 (by decide)))) (by decide) rfl hl.1 rfl (Nat.le_of_ble_eq_true rfl) dX11_readHerd_18 (by decide)) (fun v14 σ13 H locs hp hw => ?_)
  obtain ⟨p14_0, p14_1, p14_2, p14_3, p14_4, p14_5⟩ := hp
  have fr := oFr_tr fr p14_0 (by decide)
  have i15 : Iv (σ13.1 662 a0) 0 200 := o_fb (j := 662) hw ha0 rfl
  have i16 : Iv (σ13.1 663 a0) (-1) 200 := o_fb (j := 663) hw ha0 rfl
  have i17 : Iv v14 0 7 := iv_lt0 p14_2 i10 (by decide)
  refine lv_istore_n (lv' := [(3, .int v14), (2, .int v6), (0, .ref a0), (1, .int a1)]) hx hb dX11_readHerd_21 rfl hl (by decide) rfl (fun ls hl => ?_)
  refine lv_bipush (v := 8) hx hb dX11_readHerd_22 (by decide) ?_
  refine lv_iload_n hx hb dX11_readHerd_24 rfl (lv_at hl 0 rfl) ?_
  refine lv_imul hx hb dX11_readHerd_25 ?_
  refine lv_topi (fun v18 e18 => ?_)
  have i18 : Iv v18 0 56 := iv_mul e18 (⟨by decide, by decide⟩ : Iv 8 8 8) i17 (by decide)
  refine lv_iload_n hx hb dX11_readHerd_26 rfl (lv_at hl 1 rfl) ?_
  refine lv_iadd hx hb dX11_readHerd_27 ?_
  refine lv_topi (fun v19 e19 => ?_)
  have i19 : Iv v19 0 63 := iv_add e19 i18 i9 (by decide)
  have x19 : v19.toInt = v18.toInt + v6.toInt := ex_add e19 i18 i9 (by decide)
  refine lv_istore (lv' := [(4, .int v19), (3, .int v14), (2, .int v6), (0, .ref a0), (1, .int a1)]) hx hb dX11_readHerd_28 hl (by decide) rfl (fun ls hl => ?_)
  refine lv_aload_n hx hb dX11_readHerd_30 rfl (lv_at hl 3 rfl) ?_
  refine o_ci hw (oRunV cx hA hw q_X11_fine k_m_X11_126 rfl ha0 (by decide) (As := []) (c_X11_fine a0 ha0) (by decide) rfl hl.1 rfl (Nat.le_of_ble_eq_true rfl) dX11_readHerd_31 (by decide)) (fun v21 σ20 H locs hp hw => ?_)
  obtain ⟨p21_0, p21_1, p21_2⟩ := hp
  rw [p21_0] at hw
  have frE_57 := fr
  have J_57 : ∀ (σ_57 : oSt) (H : Heap) (locs : List Loc), oI A L τ cy D s.heap σ_57 H locs → oFr τ fs_X11_readHerd ts_X11_readHerd σ σ_57 → Iv (σ_57.1 662 a0) 0 200 → Iv (σ_57.1 663 a0) (-1) 200 → ((σ.1 662 a0).toInt ≤ (σ_57.1 662 a0).toInt) → ((σ.1 662 a0).toInt ≤ (σ.1 661 a0).toInt → (σ_57.1 662 a0).toInt ≤ (σ.1 661 a0).toInt) → ∀ (ls : Array Slot), lv_has ls 5 [(0, .ref a0), (1, .int a1), (2, .int v6), (3, .int v14), (4, .int v19)] → W p l e ({ frames := 3, cells := 0, slots := 0, locals := 63 } : Room) s m args below meth c H locs 0 0 Q (F0 m 57 ls []) := by
    intro  σ_57 H locs hw fr f57_662_a0 f57_663_a0   mo_57 to_57  ls hl
    have fr_57 := fr
    refine lv_aload_n hx hb dX11_readHerd_57 rfl (lv_at hl 0 rfl) ?_
    refine g_666 cx hw ha0 k_f_X11_46 dX11_readHerd_58 (fun v22 e22 h22 => ?_)
    refine lv_iload_n hx hb dX11_readHerd_61 rfl (lv_at hl 1 rfl) ?_
    refine lv_iload hx hb dX11_readHerd_62 (lv_at hl 4 rfl) ?_
    refine o_iast cx hw h22 (by decide) rfl (iv_in ia1 (by decide)) (fun _ => iv_w i19 (by decide)) dX11_readHerd_64 (fun σ23 H locs eσ23 hw => ?_)
    have fr := oFr_p fr eσ23 h22 (by decide)
    refine lv_aload_n hx hb dX11_readHerd_65 rfl (lv_at hl 0 rfl) ?_
    refine g_666 cx hw ha0 k_f_X11_46 dX11_readHerd_66 (fun v24 e24 h24 => ?_)
    rw [show v24 = v22 from Option.some.inj (e24.symm.trans (((kr_p eσ23).trans e22)))]
    refine lv_iload_n hx hb dX11_readHerd_69 rfl (lv_at hl 1 rfl) ?_
    refine lv_iconst (v := 1) hx hb dX11_readHerd_70 (by decide) ?_
    refine lv_iadd hx hb dX11_readHerd_71 ?_
    refine lv_topi (fun v25 e25 => ?_)
    have i25 : Iv v25 1 16 := iv_add e25 ia1 (⟨by decide, by decide⟩ : Iv 1 1 1) (by decide)
    have x25 : v25.toInt = a1.toInt + 1 := ex_add e25 ia1 (⟨by decide, by decide⟩ : Iv 1 1 1) (by decide)
    refine lv_aload_n hx hb dX11_readHerd_72 rfl (lv_at hl 0 rfl) ?_
    refine lv_bipush (v := 48) hx hb dX11_readHerd_73 (by decide) ?_
    refine lv_bipush (v := 10) hx hb dX11_readHerd_75 (by decide) ?_
    have z26 : (σ23.1 662 a0).toInt = ((σ_57.1 662 a0) : Int32).toInt := congrArg Int32.toInt (show σ23.1 662 a0 = (σ_57.1 662 a0) from ((kp_p eσ23).trans rfl))
    have z27 : (σ23.1 660 a0).toInt = ((σ.1 660 a0) : Int32).toInt := congrArg Int32.toInt (show σ23.1 660 a0 = (σ.1 660 a0) from ((kp_p eσ23).trans (kp_c fr_57 (by decide))))
    have z28 : (σ23.1 663 a0).toInt = ((σ_57.1 663 a0) : Int32).toInt := congrArg Int32.toInt (show σ23.1 663 a0 = (σ_57.1 663 a0) from ((kp_p eσ23).trans rfl))
    have z29 : (σ23.1 661 a0).toInt = ((σ.1 661 a0) : Int32).toInt := congrArg Int32.toInt (show σ23.1 661 a0 = (σ.1 661 a0) from ((kp_p eσ23).trans ((kp_c fr_57 (by decide)).trans ((kp_c frE_57 (by decide)).symm.trans (((kp_c p14_0 (by decide)).trans ((kp_c p6_0 (by decide)).trans rfl)))))))
    refine o_ci hw (oRunV cx hA hw q_X11_oneOf k_m_X11_171 rfl ha0 (by decide) (As := [.int 48, .int 10]) (c_X11_oneOfT a0 ha0 48 (iv_w (⟨by decide, by decide⟩ : Iv 48 48 48) (by decide)) 10 (iv_w (⟨by decide, by decide⟩ : Iv 10 10 10) (by decide)) b0 (((kr_p eσ23).trans ((kr_c fr_57 (by decide)).trans ((kr_c frE_57 (by decide)).symm.trans (((kr_c p14_0 (by decide)).trans ((kr_c p6_0 (by decide)).trans hF0))))))) hb0 (kn_iv (((kp_p eσ23).trans (kp_c fr_57 (by decide)))) (iv_w hf660 (by decide)))) (by decide) rfl hl.1 rfl (Nat.le_of_ble_eq_true rfl) dX11_readHerd_77 (by decide)) (fun v31 σ30 H locs hp hw => ?_)
    obtain ⟨p31_0, p31_1, p31_2, p31_3, p31_4, p31_5⟩ := hp
    have fr := oFr_tr fr p31_0 (by decide)
    have i32 : Iv (σ30.1 662 a0) 0 200 := o_fb (j := 662) hw ha0 rfl
    have i33 : Iv (σ30.1 663 a0) (-1) 200 := o_fb (j := 663) hw ha0 rfl
    have i34 : Iv v31 0 9 := iv_lt0 p31_2 (⟨by decide, by decide⟩ : Iv 10 10 10) (by decide)
    refine o_iast cx hw h22 (by decide) rfl (iv_in i25 (by decide)) (fun _ => iv_w i34 (by decide)) dX11_readHerd_80 (fun σ35 H locs eσ35 hw => ?_)
    have fr := oFr_p fr eσ35 h22 (by decide)
    refine lv_aload_n hx hb dX11_readHerd_81 rfl (lv_at hl 0 rfl) ?_
    refine g_666 cx hw ha0 k_f_X11_46 dX11_readHerd_82 (fun v36 e36 h36 => ?_)
    rw [show v36 = v22 from Option.some.inj (e36.symm.trans (((kr_p eσ35).trans ((kr_c p31_0 (by decide)).trans ((kr_p eσ23).trans e22)))))]
    refine lv_iload_n hx hb dX11_readHerd_85 rfl (lv_at hl 1 rfl) ?_
    refine lv_iconst (v := 2) hx hb dX11_readHerd_86 (by decide) ?_
    refine lv_iadd hx hb dX11_readHerd_87 ?_
    refine lv_topi (fun v37 e37 => ?_)
    have i37 : Iv v37 2 17 := iv_add e37 ia1 (⟨by decide, by decide⟩ : Iv 2 2 2) (by decide)
    have x37 : v37.toInt = a1.toInt + 2 := ex_add e37 ia1 (⟨by decide, by decide⟩ : Iv 2 2 2) (by decide)
    refine lv_aload_n hx hb dX11_readHerd_88 rfl (lv_at hl 0 rfl) ?_
    refine lv_bipush (v := 42) hx hb dX11_readHerd_89 (by decide) ?_
    have z38 : (σ35.1 662 a0).toInt = ((σ30.1 662 a0) : Int32).toInt := congrArg Int32.toInt (show σ35.1 662 a0 = (σ30.1 662 a0) from ((kp_p eσ35).trans rfl))
    have z39 : (σ35.1 660 a0).toInt = ((σ.1 660 a0) : Int32).toInt := congrArg Int32.toInt (show σ35.1 660 a0 = (σ.1 660 a0) from ((kp_p eσ35).trans ((kp_c p31_0 (by decide)).trans ((kp_p eσ23).trans (kp_c fr_57 (by decide))))))
    have z40 : (σ35.1 661 a0).toInt = ((σ.1 661 a0) : Int32).toInt := congrArg Int32.toInt (show σ35.1 661 a0 = (σ.1 661 a0) from ((kp_p eσ35).trans ((kp_c p31_0 (by decide)).trans ((kp_p eσ23).trans ((kp_c fr_57 (by decide)).trans ((kp_c frE_57 (by decide)).symm.trans (((kp_c p14_0 (by decide)).trans ((kp_c p6_0 (by decide)).trans rfl)))))))))
    refine o_ci hw (oRunV cx hA hw q_X11_passes k_m_X11_134 rfl ha0 (by decide) (As := [.int 42]) (c_X11_passesT a0 ha0 42 (iv_w (⟨by decide, by decide⟩ : Iv 42 42 42) (by decide)) b0 (((kr_p eσ35).trans ((kr_c p31_0 (by decide)).trans ((kr_p eσ23).trans ((kr_c fr_57 (by decide)).trans ((kr_c frE_57 (by decide)).symm.trans (((kr_c p14_0 (by decide)).trans ((kr_c p6_0 (by decide)).trans hF0))))))))) hb0 (kn_iv (((kp_p eσ35).trans ((kp_c p31_0 (by decide)).trans ((kp_p eσ23).trans (kp_c fr_57 (by decide)))))) (iv_w hf660 (by decide)))) (by decide) rfl hl.1 rfl (Nat.le_of_ble_eq_true rfl) dX11_readHerd_91 (by decide)) (fun v42 σ41 H locs hp hw => ?_)
    obtain ⟨p42_0, p42_1, p42_2, p42_3, p42_4, p42_5⟩ := hp
    have fr := oFr_tr fr p42_0 (by decide)
    have i43 : Iv (σ41.1 662 a0) 0 200 := o_fb (j := 662) hw ha0 rfl
    refine lv_if_eq (tgt := 101) hx hb dX11_readHerd_94 (by decide) (fun c44 => ?_) (fun c44 => ?_)
    · --
      have i45 : Iv v42 0 0 := iv_eq1 c44 p42_1 (⟨by decide, by decide⟩ : Iv 0 0 0) (by decide)
      refine lv_iconst (v := 0) hx hb dX11_readHerd_101 (by decide) ?_
      refine o_iast cx hw h22 (by decide) rfl (iv_in i37 (by decide)) (fun _ => iv_w (⟨by decide, by decide⟩ : Iv 0 0 0) (by decide)) dX11_readHerd_102 (fun σ46 H locs eσ46 hw => ?_)
      have fr := oFr_p fr eσ46 h22 (by decide)
      rw [← hQ]
      exact o_rv cx rx hw dX11_readHerd_103 ⟨fr, (by exact (by have := (ia1).1; have := (ia1).2; have := (i9).1; have := (i9).2; have := (i17).1; have := (i17).2; have := (i19).1; have := (i19).2; have := (hf660).1; have := (hf660).2; have := (i1).1; have := (i1).2; have := (i4).1; have := (i4).2; have := (i10).1; have := (i10).2; have := (i33).1; have := (i33).2; have := (i43).1; have := (i43).2; have := (i2).1; have := (i2).2; have := (i3).1; have := (i3).2; have := (i7).1; have := (i7).2; have := (i8).1; have := (i8).2; have := (i15).1; have := (i15).2; have := (i16).1; have := (i16).2; have := (i18).1; have := (i18).2; have := (p21_1).1; have := (p21_1).2; have := (i25).1; have := (i25).2; have := (i32).1; have := (i32).2; have := (i34).1; have := (i34).2; have := (i37).1; have := (i37).2; have := (i45).1; have := (i45).2; have : (σ46.1 660 a0).toInt = ((σ.1 660 a0) : Int32).toInt := congrArg Int32.toInt (show σ46.1 660 a0 = (σ.1 660 a0) from ((kp_p eσ46).trans ((kp_c p42_0 (by decide)).trans ((kp_p eσ35).trans ((kp_c p31_0 (by decide)).trans ((kp_p eσ23).trans (kp_c fr_57 (by decide)))))))); have : (σ46.1 641 a0).toInt = (v1 : Int32).toInt := congrArg Int32.toInt (show σ46.1 641 a0 = v1 from ((kp_p eσ46).trans ((kp_c p42_0 (by decide)).trans ((kp_p eσ35).trans ((kp_c p31_0 (by decide)).trans ((kp_p eσ23).trans ((kp_c fr_57 (by decide)).trans ((kp_c frE_57 (by decide)).symm.trans (((kp_c p14_0 (by decide)).trans ((kp_c p6_0 (by decide)).trans e1.symm))))))))))); have : (σ46.1 661 a0).toInt = ((σ.1 661 a0) : Int32).toInt := congrArg Int32.toInt (show σ46.1 661 a0 = (σ.1 661 a0) from ((kp_p eσ46).trans ((kp_c p42_0 (by decide)).trans ((kp_p eσ35).trans ((kp_c p31_0 (by decide)).trans ((kp_p eσ23).trans ((kp_c fr_57 (by decide)).trans ((kp_c frE_57 (by decide)).symm.trans (((kp_c p14_0 (by decide)).trans ((kp_c p6_0 (by decide)).trans rfl))))))))))); have : (σ46.1 642 a0).toInt = (v10 : Int32).toInt := congrArg Int32.toInt (show σ46.1 642 a0 = v10 from ((kp_p eσ46).trans ((kp_c p42_0 (by decide)).trans ((kp_p eσ35).trans ((kp_c p31_0 (by decide)).trans ((kp_p eσ23).trans ((kp_c fr_57 (by decide)).trans ((kp_c frE_57 (by decide)).symm.trans (((kp_c p14_0 (by decide)).trans e10.symm)))))))))); have : (σ46.1 663 a0).toInt = ((σ30.1 663 a0) : Int32).toInt := congrArg Int32.toInt (show σ46.1 663 a0 = (σ30.1 663 a0) from ((kp_p eσ46).trans ((kp_c p42_0 (by decide)).trans ((kp_p eσ35).trans rfl)))); have : (σ46.1 662 a0).toInt = ((σ41.1 662 a0) : Int32).toInt := congrArg Int32.toInt (show σ46.1 662 a0 = (σ41.1 662 a0) from ((kp_p eσ46).trans rfl)); have : (v42 : Int32).toInt = (0 : Int32).toInt := congrArg Int32.toInt c44; have : (0 : Int32).toInt = 0 := (by decide); have : (10 : Int32).toInt = 10 := (by decide); have : (42 : Int32).toInt = 42 := (by decide); have : (48 : Int32).toInt = 48 := (by decide); have : (49 : Int32).toInt = 49 := (by decide); have : (97 : Int32).toInt = 97 := (by decide); omega)), (by exact (by have := (ia1).1; have := (ia1).2; have := (i9).1; have := (i9).2; have := (i17).1; have := (i17).2; have := (i19).1; have := (i19).2; have := (hf660).1; have := (hf660).2; have := (i1).1; have := (i1).2; have := (i4).1; have := (i4).2; have := (i10).1; have := (i10).2; have := (i33).1; have := (i33).2; have := (i43).1; have := (i43).2; have := (i2).1; have := (i2).2; have := (i3).1; have := (i3).2; have := (i7).1; have := (i7).2; have := (i8).1; have := (i8).2; have := (i15).1; have := (i15).2; have := (i16).1; have := (i16).2; have := (i18).1; have := (i18).2; have := (p21_1).1; have := (p21_1).2; have := (i25).1; have := (i25).2; have := (i32).1; have := (i32).2; have := (i34).1; have := (i34).2; have := (i37).1; have := (i37).2; have := (i45).1; have := (i45).2; have : (σ46.1 660 a0).toInt = ((σ.1 660 a0) : Int32).toInt := congrArg Int32.toInt (show σ46.1 660 a0 = (σ.1 660 a0) from ((kp_p eσ46).trans ((kp_c p42_0 (by decide)).trans ((kp_p eσ35).trans ((kp_c p31_0 (by decide)).trans ((kp_p eσ23).trans (kp_c fr_57 (by decide)))))))); have : (σ46.1 641 a0).toInt = (v1 : Int32).toInt := congrArg Int32.toInt (show σ46.1 641 a0 = v1 from ((kp_p eσ46).trans ((kp_c p42_0 (by decide)).trans ((kp_p eσ35).trans ((kp_c p31_0 (by decide)).trans ((kp_p eσ23).trans ((kp_c fr_57 (by decide)).trans ((kp_c frE_57 (by decide)).symm.trans (((kp_c p14_0 (by decide)).trans ((kp_c p6_0 (by decide)).trans e1.symm))))))))))); have : (σ46.1 661 a0).toInt = ((σ.1 661 a0) : Int32).toInt := congrArg Int32.toInt (show σ46.1 661 a0 = (σ.1 661 a0) from ((kp_p eσ46).trans ((kp_c p42_0 (by decide)).trans ((kp_p eσ35).trans ((kp_c p31_0 (by decide)).trans ((kp_p eσ23).trans ((kp_c fr_57 (by decide)).trans ((kp_c frE_57 (by decide)).symm.trans (((kp_c p14_0 (by decide)).trans ((kp_c p6_0 (by decide)).trans rfl))))))))))); have : (σ46.1 642 a0).toInt = (v10 : Int32).toInt := congrArg Int32.toInt (show σ46.1 642 a0 = v10 from ((kp_p eσ46).trans ((kp_c p42_0 (by decide)).trans ((kp_p eσ35).trans ((kp_c p31_0 (by decide)).trans ((kp_p eσ23).trans ((kp_c fr_57 (by decide)).trans ((kp_c frE_57 (by decide)).symm.trans (((kp_c p14_0 (by decide)).trans e10.symm)))))))))); have : (σ46.1 663 a0).toInt = ((σ30.1 663 a0) : Int32).toInt := congrArg Int32.toInt (show σ46.1 663 a0 = (σ30.1 663 a0) from ((kp_p eσ46).trans ((kp_c p42_0 (by decide)).trans ((kp_p eσ35).trans rfl)))); have : (σ46.1 662 a0).toInt = ((σ41.1 662 a0) : Int32).toInt := congrArg Int32.toInt (show σ46.1 662 a0 = (σ41.1 662 a0) from ((kp_p eσ46).trans rfl)); have : (v42 : Int32).toInt = (0 : Int32).toInt := congrArg Int32.toInt c44; have : (0 : Int32).toInt = 0 := (by decide); have : (10 : Int32).toInt = 10 := (by decide); have : (42 : Int32).toInt = 42 := (by decide); have : (48 : Int32).toInt = 48 := (by decide); have : (49 : Int32).toInt = 49 := (by decide); have : (97 : Int32).toInt = 97 := (by decide); omega))⟩
    · --
      have i47 : Iv v42 1 1 := iv_ne1 c44 p42_1 (⟨by decide, by decide⟩ : Iv 0 0 0) (by decide)
      have i48 : Iv (σ41.1 662 a0) 1 80 := (fun h => kn_iv2 (rfl) (p42_2 h)) c44
      refine lv_iconst (v := 1) hx hb dX11_readHerd_97 (by decide) ?_
      refine lv_goto (tgt := 102) hx hb dX11_readHerd_98 (by decide) ?_
      refine o_iast cx hw h22 (by decide) rfl (iv_in i37 (by decide)) (fun _ => iv_w (⟨by decide, by decide⟩ : Iv 1 1 1) (by decide)) dX11_readHerd_102 (fun σ49 H locs eσ49 hw => ?_)
      have fr := oFr_p fr eσ49 h22 (by decide)
      rw [← hQ]
      exact o_rv cx rx hw dX11_readHerd_103 ⟨fr, (by exact (by have := (ia1).1; have := (ia1).2; have := (i9).1; have := (i9).2; have := (i17).1; have := (i17).2; have := (i19).1; have := (i19).2; have := (hf660).1; have := (hf660).2; have := (i1).1; have := (i1).2; have := (i4).1; have := (i4).2; have := (i10).1; have := (i10).2; have := (i33).1; have := (i33).2; have := (i48).1; have := (i48).2; have := (i2).1; have := (i2).2; have := (i3).1; have := (i3).2; have := (i7).1; have := (i7).2; have := (i8).1; have := (i8).2; have := (i15).1; have := (i15).2; have := (i16).1; have := (i16).2; have := (i18).1; have := (i18).2; have := (p21_1).1; have := (p21_1).2; have := (i25).1; have := (i25).2; have := (i32).1; have := (i32).2; have := (i34).1; have := (i34).2; have := (i37).1; have := (i37).2; have := (i47).1; have := (i47).2; have : (σ49.1 660 a0).toInt = ((σ.1 660 a0) : Int32).toInt := congrArg Int32.toInt (show σ49.1 660 a0 = (σ.1 660 a0) from ((kp_p eσ49).trans ((kp_c p42_0 (by decide)).trans ((kp_p eσ35).trans ((kp_c p31_0 (by decide)).trans ((kp_p eσ23).trans (kp_c fr_57 (by decide)))))))); have : (σ49.1 641 a0).toInt = (v1 : Int32).toInt := congrArg Int32.toInt (show σ49.1 641 a0 = v1 from ((kp_p eσ49).trans ((kp_c p42_0 (by decide)).trans ((kp_p eσ35).trans ((kp_c p31_0 (by decide)).trans ((kp_p eσ23).trans ((kp_c fr_57 (by decide)).trans ((kp_c frE_57 (by decide)).symm.trans (((kp_c p14_0 (by decide)).trans ((kp_c p6_0 (by decide)).trans e1.symm))))))))))); have : (σ49.1 661 a0).toInt = ((σ.1 661 a0) : Int32).toInt := congrArg Int32.toInt (show σ49.1 661 a0 = (σ.1 661 a0) from ((kp_p eσ49).trans ((kp_c p42_0 (by decide)).trans ((kp_p eσ35).trans ((kp_c p31_0 (by decide)).trans ((kp_p eσ23).trans ((kp_c fr_57 (by decide)).trans ((kp_c frE_57 (by decide)).symm.trans (((kp_c p14_0 (by decide)).trans ((kp_c p6_0 (by decide)).trans rfl))))))))))); have : (σ49.1 642 a0).toInt = (v10 : Int32).toInt := congrArg Int32.toInt (show σ49.1 642 a0 = v10 from ((kp_p eσ49).trans ((kp_c p42_0 (by decide)).trans ((kp_p eσ35).trans ((kp_c p31_0 (by decide)).trans ((kp_p eσ23).trans ((kp_c fr_57 (by decide)).trans ((kp_c frE_57 (by decide)).symm.trans (((kp_c p14_0 (by decide)).trans e10.symm)))))))))); have : (σ49.1 663 a0).toInt = ((σ30.1 663 a0) : Int32).toInt := congrArg Int32.toInt (show σ49.1 663 a0 = (σ30.1 663 a0) from ((kp_p eσ49).trans ((kp_c p42_0 (by decide)).trans ((kp_p eσ35).trans rfl)))); have : (σ49.1 662 a0).toInt = ((σ41.1 662 a0) : Int32).toInt := congrArg Int32.toInt (show σ49.1 662 a0 = (σ41.1 662 a0) from ((kp_p eσ49).trans rfl)); have : (10 : Int32).toInt = 10 := (by decide); have : (42 : Int32).toInt = 42 := (by decide); have : (48 : Int32).toInt = 48 := (by decide); have : (49 : Int32).toInt = 49 := (by decide); have : (97 : Int32).toInt = 97 := (by decide); omega)), (by exact (by have := (ia1).1; have := (ia1).2; have := (i9).1; have := (i9).2; have := (i17).1; have := (i17).2; have := (i19).1; have := (i19).2; have := (hf660).1; have := (hf660).2; have := (i1).1; have := (i1).2; have := (i4).1; have := (i4).2; have := (i10).1; have := (i10).2; have := (i33).1; have := (i33).2; have := (i48).1; have := (i48).2; have := (i2).1; have := (i2).2; have := (i3).1; have := (i3).2; have := (i7).1; have := (i7).2; have := (i8).1; have := (i8).2; have := (i15).1; have := (i15).2; have := (i16).1; have := (i16).2; have := (i18).1; have := (i18).2; have := (p21_1).1; have := (p21_1).2; have := (i25).1; have := (i25).2; have := (i32).1; have := (i32).2; have := (i34).1; have := (i34).2; have := (i37).1; have := (i37).2; have := (i47).1; have := (i47).2; have : (σ49.1 660 a0).toInt = ((σ.1 660 a0) : Int32).toInt := congrArg Int32.toInt (show σ49.1 660 a0 = (σ.1 660 a0) from ((kp_p eσ49).trans ((kp_c p42_0 (by decide)).trans ((kp_p eσ35).trans ((kp_c p31_0 (by decide)).trans ((kp_p eσ23).trans (kp_c fr_57 (by decide)))))))); have : (σ49.1 641 a0).toInt = (v1 : Int32).toInt := congrArg Int32.toInt (show σ49.1 641 a0 = v1 from ((kp_p eσ49).trans ((kp_c p42_0 (by decide)).trans ((kp_p eσ35).trans ((kp_c p31_0 (by decide)).trans ((kp_p eσ23).trans ((kp_c fr_57 (by decide)).trans ((kp_c frE_57 (by decide)).symm.trans (((kp_c p14_0 (by decide)).trans ((kp_c p6_0 (by decide)).trans e1.symm))))))))))); have : (σ49.1 661 a0).toInt = ((σ.1 661 a0) : Int32).toInt := congrArg Int32.toInt (show σ49.1 661 a0 = (σ.1 661 a0) from ((kp_p eσ49).trans ((kp_c p42_0 (by decide)).trans ((kp_p eσ35).trans ((kp_c p31_0 (by decide)).trans ((kp_p eσ23).trans ((kp_c fr_57 (by decide)).trans ((kp_c frE_57 (by decide)).symm.trans (((kp_c p14_0 (by decide)).trans ((kp_c p6_0 (by decide)).trans rfl))))))))))); have : (σ49.1 642 a0).toInt = (v10 : Int32).toInt := congrArg Int32.toInt (show σ49.1 642 a0 = v10 from ((kp_p eσ49).trans ((kp_c p42_0 (by decide)).trans ((kp_p eσ35).trans ((kp_c p31_0 (by decide)).trans ((kp_p eσ23).trans ((kp_c fr_57 (by decide)).trans ((kp_c frE_57 (by decide)).symm.trans (((kp_c p14_0 (by decide)).trans e10.symm)))))))))); have : (σ49.1 663 a0).toInt = ((σ30.1 663 a0) : Int32).toInt := congrArg Int32.toInt (show σ49.1 663 a0 = (σ30.1 663 a0) from ((kp_p eσ49).trans ((kp_c p42_0 (by decide)).trans ((kp_p eσ35).trans rfl)))); have : (σ49.1 662 a0).toInt = ((σ41.1 662 a0) : Int32).toInt := congrArg Int32.toInt (show σ49.1 662 a0 = (σ41.1 662 a0) from ((kp_p eσ49).trans rfl)); have : (10 : Int32).toInt = 10 := (by decide); have : (42 : Int32).toInt = 42 := (by decide); have : (48 : Int32).toInt = 48 := (by decide); have : (49 : Int32).toInt = 49 := (by decide); have : (97 : Int32).toInt = 97 := (by decide); omega))⟩
  refine lv_if_eq (tgt := 57) hx hb dX11_readHerd_34 (by decide) (fun c50 => ?_) (fun c50 => ?_)
  · --
    have i51 : Iv (σ13.1 663 a0) 0 200 := (fun h => (by have := z_ti h; have := (ia1).1; have := (ia1).2; have := (i9).1; have := (i9).2; have := (i17).1; have := (i17).2; have := (i19).1; have := (i19).2; have := (p21_1).1; have := (p21_1).2; have := (hf660).1; have := (hf660).2; have := (i1).1; have := (i1).2; have := (i4).1; have := (i4).2; have := (i10).1; have := (i10).2; have := (i15).1; have := (i15).2; have := (i16).1; have := (i16).2; have := (i2).1; have := (i2).2; have := (i3).1; have := (i3).2; have := (i7).1; have := (i7).2; have := (i8).1; have := (i8).2; have := (i18).1; have := (i18).2; have : (σ13.1 660 a0).toInt = ((σ.1 660 a0) : Int32).toInt := congrArg Int32.toInt (show σ13.1 660 a0 = (σ.1 660 a0) from ((kp_c p14_0 (by decide)).trans ((kp_c p6_0 (by decide)).trans rfl))); have : (σ13.1 641 a0).toInt = (v1 : Int32).toInt := congrArg Int32.toInt (show σ13.1 641 a0 = v1 from ((kp_c p14_0 (by decide)).trans ((kp_c p6_0 (by decide)).trans e1.symm))); have : (σ13.1 661 a0).toInt = ((σ.1 661 a0) : Int32).toInt := congrArg Int32.toInt (show σ13.1 661 a0 = (σ.1 661 a0) from ((kp_c p14_0 (by decide)).trans ((kp_c p6_0 (by decide)).trans rfl))); have : (σ13.1 642 a0).toInt = (v10 : Int32).toInt := congrArg Int32.toInt (show σ13.1 642 a0 = v10 from ((kp_c p14_0 (by decide)).trans e10.symm)); have : (49 : Int32).toInt = 49 := (by decide); have : (97 : Int32).toInt = 97 := (by decide); exact ⟨by omega, by omega⟩)) c50
    have i52 : Iv v21 0 0 := iv_eq1 c50 p21_1 (⟨by decide, by decide⟩ : Iv 0 0 0) (by decide)
    exact J_57 σ13 _ _ hw fr (kn_iv (rfl) (iv_w i15 (by decide))) (kn_iv (rfl) (iv_w i51 (by decide))) (by have := (ia1).1; have := (ia1).2; have := (i9).1; have := (i9).2; have := (i17).1; have := (i17).2; have := (i19).1; have := (i19).2; have := (hf660).1; have := (hf660).2; have := (i1).1; have := (i1).2; have := (i4).1; have := (i4).2; have := (i10).1; have := (i10).2; have := (i15).1; have := (i15).2; have := (i51).1; have := (i51).2; have := (i2).1; have := (i2).2; have := (i3).1; have := (i3).2; have := (i7).1; have := (i7).2; have := (i8).1; have := (i8).2; have := (i18).1; have := (i18).2; have := (i52).1; have := (i52).2; have : (σ13.1 660 a0).toInt = ((σ.1 660 a0) : Int32).toInt := congrArg Int32.toInt (show σ13.1 660 a0 = (σ.1 660 a0) from ((kp_c p14_0 (by decide)).trans ((kp_c p6_0 (by decide)).trans rfl))); have : (σ13.1 641 a0).toInt = (v1 : Int32).toInt := congrArg Int32.toInt (show σ13.1 641 a0 = v1 from ((kp_c p14_0 (by decide)).trans ((kp_c p6_0 (by decide)).trans e1.symm))); have : (σ13.1 661 a0).toInt = ((σ.1 661 a0) : Int32).toInt := congrArg Int32.toInt (show σ13.1 661 a0 = (σ.1 661 a0) from ((kp_c p14_0 (by decide)).trans ((kp_c p6_0 (by decide)).trans rfl))); have : (σ13.1 642 a0).toInt = (v10 : Int32).toInt := congrArg Int32.toInt (show σ13.1 642 a0 = v10 from ((kp_c p14_0 (by decide)).trans e10.symm)); have : (v21 : Int32).toInt = (0 : Int32).toInt := congrArg Int32.toInt c50; have : (0 : Int32).toInt = 0 := (by decide); have : (49 : Int32).toInt = 49 := (by decide); have : (97 : Int32).toInt = 97 := (by decide); omega) (by have := (ia1).1; have := (ia1).2; have := (i9).1; have := (i9).2; have := (i17).1; have := (i17).2; have := (i19).1; have := (i19).2; have := (hf660).1; have := (hf660).2; have := (i1).1; have := (i1).2; have := (i4).1; have := (i4).2; have := (i10).1; have := (i10).2; have := (i15).1; have := (i15).2; have := (i51).1; have := (i51).2; have := (i2).1; have := (i2).2; have := (i3).1; have := (i3).2; have := (i7).1; have := (i7).2; have := (i8).1; have := (i8).2; have := (i18).1; have := (i18).2; have := (i52).1; have := (i52).2; have : (σ13.1 660 a0).toInt = ((σ.1 660 a0) : Int32).toInt := congrArg Int32.toInt (show σ13.1 660 a0 = (σ.1 660 a0) from ((kp_c p14_0 (by decide)).trans ((kp_c p6_0 (by decide)).trans rfl))); have : (σ13.1 641 a0).toInt = (v1 : Int32).toInt := congrArg Int32.toInt (show σ13.1 641 a0 = v1 from ((kp_c p14_0 (by decide)).trans ((kp_c p6_0 (by decide)).trans e1.symm))); have : (σ13.1 661 a0).toInt = ((σ.1 661 a0) : Int32).toInt := congrArg Int32.toInt (show σ13.1 661 a0 = (σ.1 661 a0) from ((kp_c p14_0 (by decide)).trans ((kp_c p6_0 (by decide)).trans rfl))); have : (σ13.1 642 a0).toInt = (v10 : Int32).toInt := congrArg Int32.toInt (show σ13.1 642 a0 = v10 from ((kp_c p14_0 (by decide)).trans e10.symm)); have : (v21 : Int32).toInt = (0 : Int32).toInt := congrArg Int32.toInt c50; have : (0 : Int32).toInt = 0 := (by decide); have : (49 : Int32).toInt = 49 := (by decide); have : (97 : Int32).toInt = 97 := (by decide); omega) _ (lv_sub hl [3, 4, 2, 1, 0] rfl)
  · --
    have i53 : Iv v21 1 1 := iv_ne1 c50 p21_1 (⟨by decide, by decide⟩ : Iv 0 0 0) (by decide)
    have i54 : Iv (σ13.1 663 a0) (-1) (-1) := (fun h => (by have := nz_ti h; have := (ia1).1; have := (ia1).2; have := (i9).1; have := (i9).2; have := (i17).1; have := (i17).2; have := (i19).1; have := (i19).2; have := (p21_1).1; have := (p21_1).2; have := (hf660).1; have := (hf660).2; have := (i1).1; have := (i1).2; have := (i4).1; have := (i4).2; have := (i10).1; have := (i10).2; have := (i15).1; have := (i15).2; have := (i16).1; have := (i16).2; have := (i2).1; have := (i2).2; have := (i3).1; have := (i3).2; have := (i7).1; have := (i7).2; have := (i8).1; have := (i8).2; have := (i18).1; have := (i18).2; have : (σ13.1 660 a0).toInt = ((σ.1 660 a0) : Int32).toInt := congrArg Int32.toInt (show σ13.1 660 a0 = (σ.1 660 a0) from ((kp_c p14_0 (by decide)).trans ((kp_c p6_0 (by decide)).trans rfl))); have : (σ13.1 641 a0).toInt = (v1 : Int32).toInt := congrArg Int32.toInt (show σ13.1 641 a0 = v1 from ((kp_c p14_0 (by decide)).trans ((kp_c p6_0 (by decide)).trans e1.symm))); have : (σ13.1 661 a0).toInt = ((σ.1 661 a0) : Int32).toInt := congrArg Int32.toInt (show σ13.1 661 a0 = (σ.1 661 a0) from ((kp_c p14_0 (by decide)).trans ((kp_c p6_0 (by decide)).trans rfl))); have : (σ13.1 642 a0).toInt = (v10 : Int32).toInt := congrArg Int32.toInt (show σ13.1 642 a0 = v10 from ((kp_c p14_0 (by decide)).trans e10.symm)); have : (49 : Int32).toInt = 49 := (by decide); have : (97 : Int32).toInt = 97 := (by decide); exact ⟨by omega, by omega⟩)) c50
    refine lv_aload_n hx hb dX11_readHerd_37 rfl (lv_at hl 3 rfl) ?_
    refine g_643 cx hw ha0 k_f_X11_13 dX11_readHerd_38 (fun v55 e55 h55 => ?_)
    refine lv_iload hx hb dX11_readHerd_41 (lv_at hl 0 rfl) ?_
    refine o_iald cx hw h55 (by decide) rfl (iv_in i19 (by decide)) dX11_readHerd_43 (fun v56 e56 b56 => ?_)
    refine lv_if_eq (tgt := 57) hx hb dX11_readHerd_44 (by decide) (fun c57 => ?_) (fun c57 => ?_)
    · --
      have i58 : Iv v56 0 0 := iv_eq1 c57 (iv_top v56) (⟨by decide, by decide⟩ : Iv 0 0 0) (by decide)
      exact J_57 σ13 _ _ hw fr (kn_iv (rfl) (iv_w i15 (by decide))) (kn_iv (rfl) (iv_w i54 (by decide))) (by have := (ia1).1; have := (ia1).2; have := (i9).1; have := (i9).2; have := (i17).1; have := (i17).2; have := (i19).1; have := (i19).2; have := (hf660).1; have := (hf660).2; have := (i1).1; have := (i1).2; have := (i4).1; have := (i4).2; have := (i10).1; have := (i10).2; have := (i15).1; have := (i15).2; have := (i54).1; have := (i54).2; have := (i2).1; have := (i2).2; have := (i3).1; have := (i3).2; have := (i7).1; have := (i7).2; have := (i8).1; have := (i8).2; have := (i18).1; have := (i18).2; have := (i53).1; have := (i53).2; have := (i58).1; have := (i58).2; have : (σ13.1 660 a0).toInt = ((σ.1 660 a0) : Int32).toInt := congrArg Int32.toInt (show σ13.1 660 a0 = (σ.1 660 a0) from ((kp_c p14_0 (by decide)).trans ((kp_c p6_0 (by decide)).trans rfl))); have : (σ13.1 641 a0).toInt = (v1 : Int32).toInt := congrArg Int32.toInt (show σ13.1 641 a0 = v1 from ((kp_c p14_0 (by decide)).trans ((kp_c p6_0 (by decide)).trans e1.symm))); have : (σ13.1 661 a0).toInt = ((σ.1 661 a0) : Int32).toInt := congrArg Int32.toInt (show σ13.1 661 a0 = (σ.1 661 a0) from ((kp_c p14_0 (by decide)).trans ((kp_c p6_0 (by decide)).trans rfl))); have : (σ13.1 642 a0).toInt = (v10 : Int32).toInt := congrArg Int32.toInt (show σ13.1 642 a0 = v10 from ((kp_c p14_0 (by decide)).trans e10.symm)); have : (v56 : Int32).toInt = (0 : Int32).toInt := congrArg Int32.toInt c57; have : (0 : Int32).toInt = 0 := (by decide); have : (49 : Int32).toInt = 49 := (by decide); have : (97 : Int32).toInt = 97 := (by decide); omega) (by have := (ia1).1; have := (ia1).2; have := (i9).1; have := (i9).2; have := (i17).1; have := (i17).2; have := (i19).1; have := (i19).2; have := (hf660).1; have := (hf660).2; have := (i1).1; have := (i1).2; have := (i4).1; have := (i4).2; have := (i10).1; have := (i10).2; have := (i15).1; have := (i15).2; have := (i54).1; have := (i54).2; have := (i2).1; have := (i2).2; have := (i3).1; have := (i3).2; have := (i7).1; have := (i7).2; have := (i8).1; have := (i8).2; have := (i18).1; have := (i18).2; have := (i53).1; have := (i53).2; have := (i58).1; have := (i58).2; have : (σ13.1 660 a0).toInt = ((σ.1 660 a0) : Int32).toInt := congrArg Int32.toInt (show σ13.1 660 a0 = (σ.1 660 a0) from ((kp_c p14_0 (by decide)).trans ((kp_c p6_0 (by decide)).trans rfl))); have : (σ13.1 641 a0).toInt = (v1 : Int32).toInt := congrArg Int32.toInt (show σ13.1 641 a0 = v1 from ((kp_c p14_0 (by decide)).trans ((kp_c p6_0 (by decide)).trans e1.symm))); have : (σ13.1 661 a0).toInt = ((σ.1 661 a0) : Int32).toInt := congrArg Int32.toInt (show σ13.1 661 a0 = (σ.1 661 a0) from ((kp_c p14_0 (by decide)).trans ((kp_c p6_0 (by decide)).trans rfl))); have : (σ13.1 642 a0).toInt = (v10 : Int32).toInt := congrArg Int32.toInt (show σ13.1 642 a0 = v10 from ((kp_c p14_0 (by decide)).trans e10.symm)); have : (v56 : Int32).toInt = (0 : Int32).toInt := congrArg Int32.toInt c57; have : (0 : Int32).toInt = 0 := (by decide); have : (49 : Int32).toInt = 49 := (by decide); have : (97 : Int32).toInt = 97 := (by decide); omega) _ (lv_sub hl [3, 4, 2, 1, 0] rfl)
    · --
      refine lv_aload_n hx hb dX11_readHerd_47 rfl (lv_at hl 3 rfl) ?_
      refine lv_aload_n hx hb dX11_readHerd_48 rfl (lv_at hl 3 rfl) ?_
      refine g_662 cx hw ha0 k_f_X11_120 dX11_readHerd_49 (fun v59 e59 i59 => ?_)
      rw [show v59 = (σ13.1 662 a0) from e59.trans rfl]
      refine lv_iconst (v := 1) hx hb dX11_readHerd_52 (by decide) ?_
      refine lv_isub hx hb dX11_readHerd_53 ?_
      refine lv_topi (fun v60 e60 => ?_)
      have i60 : Iv v60 (-1) 199 := iv_sub e60 i15 (⟨by decide, by decide⟩ : Iv 1 1 1) (by decide)
      have x60 : v60.toInt = (σ13.1 662 a0).toInt + (-1) := ex_sub e60 i15 (⟨by decide, by decide⟩ : Iv 1 1 1) (by decide)
      refine o_cv hw (oRunV cx hA hw q_X11_fault k_m_X11_138 rfl ha0 (by decide) (As := [.int v60]) (c_X11_fault a0 ha0 v60 (iv_w i60 (by decide))) (by decide) rfl hl.1 rfl (Nat.le_of_ble_eq_true rfl) dX11_readHerd_54 (by decide)) (fun σ61 H locs hp hw => ?_)
      obtain ⟨p62_0, p62_1⟩ := hp
      have fr := oFr_tr fr p62_0 (by decide)
      have i63 : Iv (σ61.1 663 a0) (-1) 200 := o_fb (j := 663) hw ha0 rfl
      exact J_57 σ61 _ _ hw fr (kn_iv (((kp_c p62_0 (by decide)).trans rfl)) (iv_w i15 (by decide))) (kn_iv (rfl) (iv_w i63 (by decide))) (by have := (ia1).1; have := (ia1).2; have := (i9).1; have := (i9).2; have := (i17).1; have := (i17).2; have := (i19).1; have := (i19).2; have := (hf660).1; have := (hf660).2; have := (i1).1; have := (i1).2; have := (i4).1; have := (i4).2; have := (i10).1; have := (i10).2; have := (i15).1; have := (i15).2; have := (i63).1; have := (i63).2; have := (i2).1; have := (i2).2; have := (i3).1; have := (i3).2; have := (i7).1; have := (i7).2; have := (i8).1; have := (i8).2; have := (i54).1; have := (i54).2; have := (i18).1; have := (i18).2; have := (i53).1; have := (i53).2; have := (i60).1; have := (i60).2; have : (σ61.1 660 a0).toInt = ((σ.1 660 a0) : Int32).toInt := congrArg Int32.toInt (show σ61.1 660 a0 = (σ.1 660 a0) from ((kp_c p62_0 (by decide)).trans ((kp_c p14_0 (by decide)).trans ((kp_c p6_0 (by decide)).trans rfl)))); have : (σ61.1 641 a0).toInt = (v1 : Int32).toInt := congrArg Int32.toInt (show σ61.1 641 a0 = v1 from ((kp_c p62_0 (by decide)).trans ((kp_c p14_0 (by decide)).trans ((kp_c p6_0 (by decide)).trans e1.symm)))); have : (σ61.1 661 a0).toInt = ((σ.1 661 a0) : Int32).toInt := congrArg Int32.toInt (show σ61.1 661 a0 = (σ.1 661 a0) from ((kp_c p62_0 (by decide)).trans ((kp_c p14_0 (by decide)).trans ((kp_c p6_0 (by decide)).trans rfl)))); have : (σ61.1 642 a0).toInt = (v10 : Int32).toInt := congrArg Int32.toInt (show σ61.1 642 a0 = v10 from ((kp_c p62_0 (by decide)).trans ((kp_c p14_0 (by decide)).trans e10.symm))); have : (σ61.1 662 a0).toInt = ((σ13.1 662 a0) : Int32).toInt := congrArg Int32.toInt (show σ61.1 662 a0 = (σ13.1 662 a0) from ((kp_c p62_0 (by decide)).trans rfl)); have : (v56 : Int32).toInt ≠ (0 : Int32).toInt := fun q => c57 (Int32.toInt_inj.mp q); have : (0 : Int32).toInt = 0 := (by decide); have : (49 : Int32).toInt = 49 := (by decide); have : (97 : Int32).toInt = 97 := (by decide); omega) (by have := (ia1).1; have := (ia1).2; have := (i9).1; have := (i9).2; have := (i17).1; have := (i17).2; have := (i19).1; have := (i19).2; have := (hf660).1; have := (hf660).2; have := (i1).1; have := (i1).2; have := (i4).1; have := (i4).2; have := (i10).1; have := (i10).2; have := (i15).1; have := (i15).2; have := (i63).1; have := (i63).2; have := (i2).1; have := (i2).2; have := (i3).1; have := (i3).2; have := (i7).1; have := (i7).2; have := (i8).1; have := (i8).2; have := (i54).1; have := (i54).2; have := (i18).1; have := (i18).2; have := (i53).1; have := (i53).2; have := (i60).1; have := (i60).2; have : (σ61.1 660 a0).toInt = ((σ.1 660 a0) : Int32).toInt := congrArg Int32.toInt (show σ61.1 660 a0 = (σ.1 660 a0) from ((kp_c p62_0 (by decide)).trans ((kp_c p14_0 (by decide)).trans ((kp_c p6_0 (by decide)).trans rfl)))); have : (σ61.1 641 a0).toInt = (v1 : Int32).toInt := congrArg Int32.toInt (show σ61.1 641 a0 = v1 from ((kp_c p62_0 (by decide)).trans ((kp_c p14_0 (by decide)).trans ((kp_c p6_0 (by decide)).trans e1.symm)))); have : (σ61.1 661 a0).toInt = ((σ.1 661 a0) : Int32).toInt := congrArg Int32.toInt (show σ61.1 661 a0 = (σ.1 661 a0) from ((kp_c p62_0 (by decide)).trans ((kp_c p14_0 (by decide)).trans ((kp_c p6_0 (by decide)).trans rfl)))); have : (σ61.1 642 a0).toInt = (v10 : Int32).toInt := congrArg Int32.toInt (show σ61.1 642 a0 = v10 from ((kp_c p62_0 (by decide)).trans ((kp_c p14_0 (by decide)).trans e10.symm))); have : (σ61.1 662 a0).toInt = ((σ13.1 662 a0) : Int32).toInt := congrArg Int32.toInt (show σ61.1 662 a0 = (σ13.1 662 a0) from ((kp_c p62_0 (by decide)).trans rfl)); have : (v56 : Int32).toInt ≠ (0 : Int32).toInt := fun q => c57 (Int32.toInt_inj.mp q); have : (0 : Int32).toInt = 0 := (by decide); have : (49 : Int32).toInt = 49 := (by decide); have : (97 : Int32).toInt = 97 := (by decide); omega) _ (lv_sub hl [3, 4, 2, 1, 0] rfl)
abbrev fs_X11_tread : List Nat := []
abbrev ts_X11_tread : List Nat := [48]
set_option maxHeartbeats 4000000 in
set_option maxRecDepth 100000 in
theorem c_X11_tread (a0 : Nat) (ha0 : oA L τ a0 48) (a1 : Int32) (ia1 : Iv a1 0 5) : oMet l A L τ cy D K yX11_tread cX11_tread 2 none 0 0 [.ref a0, .int a1] σ (va_Qv (fun σ1 => oFr τ fs_X11_tread ts_X11_tread σ σ1) (oPo A L τ cy D) A) := by
  refine oMk (by decide) (Nat.le_of_ble_eq_true rfl) rfl ?_
  intro p e s m args below meth c ls cx rx hA hw hl
  generalize hQ : MQ below _ args s 0 0 A = Q
  have hx := cx.1.1
  have hb := cx.1.2.1
  have hml := cx.1.2.2.1
  have hown := cx.1.2.2.2.1
  have hts := cx.1.2.2.2.2
  have hl : lv_has ls 2 [(0, .ref a0), (1, .int a1)] := hl
  have fr : oFr τ fs_X11_tread ts_X11_tread σ σ := oFr_rf
  refine lv_aload_n hx hb dX11_tread_0 rfl (lv_at hl 0 rfl) ?_
  refine lv_sipush (v := 192) hx hb dX11_tread_1 (by decide) ?_
  refine lv_aload_n hx hb dX11_tread_4 rfl (lv_at hl 0 rfl) ?_
  refine lv_sipush (v := 320) hx hb dX11_tread_5 (by decide) ?_
  refine lv_iload_n hx hb dX11_tread_8 rfl (lv_at hl 1 rfl) ?_
  refine lv_iadd hx hb dX11_tread_9 ?_
  refine lv_topi (fun v1 e1 => ?_)
  have i1 : Iv v1 320 325 := iv_add e1 (⟨by decide, by decide⟩ : Iv 320 320 320) ia1 (by decide)
  have x1 : v1.toInt = a1.toInt + 320 := (ex_add e1 (⟨by decide, by decide⟩ : Iv 320 320 320) ia1 (by decide)).trans (Int.add_comm _ _)
  refine o_iald cx hw ha0 (by decide) rfl (iv_in i1 (by decide)) dX11_tread_10 (fun v2 e2 b2 => ?_)
  have i2 : Iv v2 0 63 := rb_now b2 i1 (by decide)
  refine lv_iadd hx hb dX11_tread_11 ?_
  refine lv_topi (fun v3 e3 => ?_)
  have i3 : Iv v3 192 255 := iv_add e3 (⟨by decide, by decide⟩ : Iv 192 192 192) i2 (by decide)
  have x3 : v3.toInt = v2.toInt + 192 := (ex_add e3 (⟨by decide, by decide⟩ : Iv 192 192 192) i2 (by decide)).trans (Int.add_comm _ _)
  refine lv_aload_n hx hb dX11_tread_12 rfl (lv_at hl 0 rfl) ?_
  refine lv_sipush (v := 333) hx hb dX11_tread_13 (by decide) ?_
  refine o_iald cx hw ha0 (by decide) rfl (iv_in (⟨by decide, by decide⟩ : Iv 333 333 333) (by decide)) dX11_tread_16 (fun v4 e4 b4 => ?_)
  refine o_iast cx hw ha0 (by decide) rfl (iv_in i3 (by decide)) (rb_lo i3 (by decide)) dX11_tread_17 (fun σ5 H locs eσ5 hw => ?_)
  have fr := oFr_p fr eσ5 ha0 (by decide)
  refine lv_aload_n hx hb dX11_tread_18 rfl (lv_at hl 0 rfl) ?_
  refine lv_sipush (v := 256) hx hb dX11_tread_19 (by decide) ?_
  refine lv_aload_n hx hb dX11_tread_22 rfl (lv_at hl 0 rfl) ?_
  refine lv_sipush (v := 320) hx hb dX11_tread_23 (by decide) ?_
  refine lv_iload_n hx hb dX11_tread_26 rfl (lv_at hl 1 rfl) ?_
  refine lv_iadd hx hb dX11_tread_27 ?_
  refine lv_topi (fun v6 e6 => ?_)
  have i6 : Iv v6 320 325 := iv_add e6 (⟨by decide, by decide⟩ : Iv 320 320 320) ia1 (by decide)
  have x6 : v6.toInt = a1.toInt + 320 := (ex_add e6 (⟨by decide, by decide⟩ : Iv 320 320 320) ia1 (by decide)).trans (Int.add_comm _ _)
  refine o_iald cx hw ha0 (by decide) rfl (iv_in i6 (by decide)) dX11_tread_28 (fun v7 e7 b7 => ?_)
  have i7 : Iv v7 0 63 := rb_now b7 i6 (by decide)
  refine lv_iadd hx hb dX11_tread_29 ?_
  refine lv_topi (fun v8 e8 => ?_)
  have i8 : Iv v8 256 319 := iv_add e8 (⟨by decide, by decide⟩ : Iv 256 256 256) i7 (by decide)
  have x8 : v8.toInt = v7.toInt + 256 := (ex_add e8 (⟨by decide, by decide⟩ : Iv 256 256 256) i7 (by decide)).trans (Int.add_comm _ _)
  refine lv_iload_n hx hb dX11_tread_30 rfl (lv_at hl 1 rfl) ?_
  refine o_iast cx hw ha0 (by decide) rfl (iv_in i8 (by decide)) (fun _ _ => iv_w ia1 (by decide)) dX11_tread_31 (fun σ9 H locs eσ9 hw => ?_)
  have fr := oFr_p fr eσ9 ha0 (by decide)
  rw [← hQ]
  exact o_rv cx rx hw dX11_tread_32 fr
set_option maxHeartbeats 4000000 in
set_option maxRecDepth 100000 in
theorem c_X11_letterOf (a0 : Int32) : oMet l A L τ cy D K yX11_letterOf cX11_letterOf 1 (some .int) 0 0 [.int a0] σ (va_Qi (fun r σ1 => σ1 = σ ∧ Iv r (-1) 8 ∧ (0 ≤ r → Iv a0 101 116) ∧ ((r.toInt = -1 ∧ ¬ (a0.toInt = 103 ∨ a0.toInt = 115 ∨ a0.toInt = 116 ∨ a0.toInt = 114 ∨ a0.toInt = 109 ∨ a0.toInt = 111 ∨ a0.toInt = 101 ∨ a0.toInt = 105 ∨ a0.toInt = 107)) ∨ (0 ≤ r.toInt ∧ (a0.toInt = 103 ∨ a0.toInt = 115 ∨ a0.toInt = 116 ∨ a0.toInt = 114 ∨ a0.toInt = 109 ∨ a0.toInt = 111 ∨ a0.toInt = 101 ∨ a0.toInt = 105 ∨ a0.toInt = 107))) ∧ (r = lt_F a0)) (oPo A L τ cy D) A) := by
  refine oMk (by decide) (Nat.le_of_ble_eq_true rfl) rfl ?_
  intro p e s m args below meth c ls cx rx hA hw hl
  generalize hQ : MQ below _ args s 0 0 A = Q
  have hx := cx.1.1
  have hb := cx.1.2.1
  have hml := cx.1.2.2.1
  have hown := cx.1.2.2.2.1
  have hts := cx.1.2.2.2.2
  have hl : lv_has ls 1 [(0, .int a0)] := hl
  refine lv_iload_n hx hb dX11_letterOf_0 rfl (lv_at hl 0 rfl) ?_
  by_cases q1 : a0 = 101
  · --
    refine lv_tableIn (tgt := 92) hx hb dX11_letterOf_1 (by rw [q1]; decide) (by rw [q1]; decide) (by rw [q1]; rfl) (by decide) ?_
    have i2 : Iv a0 101 101 := iv_eq1 q1 (iv_top a0) (⟨by decide, by decide⟩ : Iv 101 101 101) (by decide)
    refine lv_bipush (v := 6) hx hb dX11_letterOf_92 (by decide) ?_
    rw [← hQ]
    exact o_ri cx rx hw dX11_letterOf_94 ⟨rfl, (iv_w (⟨by decide, by decide⟩ : Iv 6 6 6) (by decide)), (fun _ => iv_w i2 (by decide)), (by exact (by have := (i2).1; have := (i2).2; have : (6 : Int32).toInt = 6 := (by decide); omega)), (by rw [q1]; decide)⟩
  by_cases q3 : a0 = 102
  · --
    refine lv_tableIn (tgt := 101) hx hb dX11_letterOf_1 (by rw [q3]; decide) (by rw [q3]; decide) (by rw [q3]; rfl) (by decide) ?_
    have i4 : Iv a0 102 102 := iv_eq1 q3 (iv_top a0) (⟨by decide, by decide⟩ : Iv 102 102 102) (by decide)
    refine lv_iconst (v := (-1)) hx hb dX11_letterOf_101 (by decide) ?_
    rw [← hQ]
    exact o_ri cx rx hw dX11_letterOf_102 ⟨rfl, (iv_w (⟨by decide, by decide⟩ : Iv (-1) (-1) (-1)) (by decide)), (fun h => iv_no (iv_le1 (b' := -1) h (⟨by decide, by decide⟩ : Iv 0 0 0) (⟨by decide, by decide⟩ : Iv (-1) (-1) (-1)) (by decide)) (by decide)), (by exact (by have := (i4).1; have := (i4).2; have : ((-1) : Int32).toInt = (-1) := (by decide); omega)), (by rw [q3]; decide)⟩
  by_cases q5 : a0 = 103
  · --
    refine lv_tableIn (tgt := 80) hx hb dX11_letterOf_1 (by rw [q5]; decide) (by rw [q5]; decide) (by rw [q5]; rfl) (by decide) ?_
    have i6 : Iv a0 103 103 := iv_eq1 q5 (iv_top a0) (⟨by decide, by decide⟩ : Iv 103 103 103) (by decide)
    refine lv_iconst (v := 0) hx hb dX11_letterOf_80 (by decide) ?_
    rw [← hQ]
    exact o_ri cx rx hw dX11_letterOf_81 ⟨rfl, (iv_w (⟨by decide, by decide⟩ : Iv 0 0 0) (by decide)), (fun _ => iv_w i6 (by decide)), (by exact (by have := (i6).1; have := (i6).2; have : (0 : Int32).toInt = 0 := (by decide); omega)), (by rw [q5]; decide)⟩
  by_cases q7 : a0 = 104
  · --
    refine lv_tableIn (tgt := 101) hx hb dX11_letterOf_1 (by rw [q7]; decide) (by rw [q7]; decide) (by rw [q7]; rfl) (by decide) ?_
    have i8 : Iv a0 104 104 := iv_eq1 q7 (iv_top a0) (⟨by decide, by decide⟩ : Iv 104 104 104) (by decide)
    refine lv_iconst (v := (-1)) hx hb dX11_letterOf_101 (by decide) ?_
    rw [← hQ]
    exact o_ri cx rx hw dX11_letterOf_102 ⟨rfl, (iv_w (⟨by decide, by decide⟩ : Iv (-1) (-1) (-1)) (by decide)), (fun h => iv_no (iv_le1 (b' := -1) h (⟨by decide, by decide⟩ : Iv 0 0 0) (⟨by decide, by decide⟩ : Iv (-1) (-1) (-1)) (by decide)) (by decide)), (by exact (by have := (i8).1; have := (i8).2; have : ((-1) : Int32).toInt = (-1) := (by decide); omega)), (by rw [q7]; decide)⟩
  by_cases q9 : a0 = 105
  · --
    refine lv_tableIn (tgt := 95) hx hb dX11_letterOf_1 (by rw [q9]; decide) (by rw [q9]; decide) (by rw [q9]; rfl) (by decide) ?_
    have i10 : Iv a0 105 105 := iv_eq1 q9 (iv_top a0) (⟨by decide, by decide⟩ : Iv 105 105 105) (by decide)
    refine lv_bipush (v := 7) hx hb dX11_letterOf_95 (by decide) ?_
    rw [← hQ]
    exact o_ri cx rx hw dX11_letterOf_97 ⟨rfl, (iv_w (⟨by decide, by decide⟩ : Iv 7 7 7) (by decide)), (fun _ => iv_w i10 (by decide)), (by exact (by have := (i10).1; have := (i10).2; have : (7 : Int32).toInt = 7 := (by decide); omega)), (by rw [q9]; decide)⟩
  by_cases q11 : a0 = 106
  · --
    refine lv_tableIn (tgt := 101) hx hb dX11_letterOf_1 (by rw [q11]; decide) (by rw [q11]; decide) (by rw [q11]; rfl) (by decide) ?_
    have i12 : Iv a0 106 106 := iv_eq1 q11 (iv_top a0) (⟨by decide, by decide⟩ : Iv 106 106 106) (by decide)
    refine lv_iconst (v := (-1)) hx hb dX11_letterOf_101 (by decide) ?_
    rw [← hQ]
    exact o_ri cx rx hw dX11_letterOf_102 ⟨rfl, (iv_w (⟨by decide, by decide⟩ : Iv (-1) (-1) (-1)) (by decide)), (fun h => iv_no (iv_le1 (b' := -1) h (⟨by decide, by decide⟩ : Iv 0 0 0) (⟨by decide, by decide⟩ : Iv (-1) (-1) (-1)) (by decide)) (by decide)), (by exact (by have := (i12).1; have := (i12).2; have : ((-1) : Int32).toInt = (-1) := (by decide); omega)), (by rw [q11]; decide)⟩
  by_cases q13 : a0 = 107
  · --
    refine lv_tableIn (tgt := 98) hx hb dX11_letterOf_1 (by rw [q13]; decide) (by rw [q13]; decide) (by rw [q13]; rfl) (by decide) ?_
    have i14 : Iv a0 107 107 := iv_eq1 q13 (iv_top a0) (⟨by decide, by decide⟩ : Iv 107 107 107) (by decide)
    refine lv_bipush (v := 8) hx hb dX11_letterOf_98 (by decide) ?_
    rw [← hQ]
    exact o_ri cx rx hw dX11_letterOf_100 ⟨rfl, (iv_w (⟨by decide, by decide⟩ : Iv 8 8 8) (by decide)), (fun _ => iv_w i14 (by decide)), (by exact (by have := (i14).1; have := (i14).2; have : (8 : Int32).toInt = 8 := (by decide); omega)), (by rw [q13]; decide)⟩
  by_cases q15 : a0 = 108
  · --
    refine lv_tableIn (tgt := 101) hx hb dX11_letterOf_1 (by rw [q15]; decide) (by rw [q15]; decide) (by rw [q15]; rfl) (by decide) ?_
    have i16 : Iv a0 108 108 := iv_eq1 q15 (iv_top a0) (⟨by decide, by decide⟩ : Iv 108 108 108) (by decide)
    refine lv_iconst (v := (-1)) hx hb dX11_letterOf_101 (by decide) ?_
    rw [← hQ]
    exact o_ri cx rx hw dX11_letterOf_102 ⟨rfl, (iv_w (⟨by decide, by decide⟩ : Iv (-1) (-1) (-1)) (by decide)), (fun h => iv_no (iv_le1 (b' := -1) h (⟨by decide, by decide⟩ : Iv 0 0 0) (⟨by decide, by decide⟩ : Iv (-1) (-1) (-1)) (by decide)) (by decide)), (by exact (by have := (i16).1; have := (i16).2; have : ((-1) : Int32).toInt = (-1) := (by decide); omega)), (by rw [q15]; decide)⟩
  by_cases q17 : a0 = 109
  · --
    refine lv_tableIn (tgt := 88) hx hb dX11_letterOf_1 (by rw [q17]; decide) (by rw [q17]; decide) (by rw [q17]; rfl) (by decide) ?_
    have i18 : Iv a0 109 109 := iv_eq1 q17 (iv_top a0) (⟨by decide, by decide⟩ : Iv 109 109 109) (by decide)
    refine lv_iconst (v := 4) hx hb dX11_letterOf_88 (by decide) ?_
    rw [← hQ]
    exact o_ri cx rx hw dX11_letterOf_89 ⟨rfl, (iv_w (⟨by decide, by decide⟩ : Iv 4 4 4) (by decide)), (fun _ => iv_w i18 (by decide)), (by exact (by have := (i18).1; have := (i18).2; have : (4 : Int32).toInt = 4 := (by decide); omega)), (by rw [q17]; decide)⟩
  by_cases q19 : a0 = 110
  · --
    refine lv_tableIn (tgt := 101) hx hb dX11_letterOf_1 (by rw [q19]; decide) (by rw [q19]; decide) (by rw [q19]; rfl) (by decide) ?_
    have i20 : Iv a0 110 110 := iv_eq1 q19 (iv_top a0) (⟨by decide, by decide⟩ : Iv 110 110 110) (by decide)
    refine lv_iconst (v := (-1)) hx hb dX11_letterOf_101 (by decide) ?_
    rw [← hQ]
    exact o_ri cx rx hw dX11_letterOf_102 ⟨rfl, (iv_w (⟨by decide, by decide⟩ : Iv (-1) (-1) (-1)) (by decide)), (fun h => iv_no (iv_le1 (b' := -1) h (⟨by decide, by decide⟩ : Iv 0 0 0) (⟨by decide, by decide⟩ : Iv (-1) (-1) (-1)) (by decide)) (by decide)), (by exact (by have := (i20).1; have := (i20).2; have : ((-1) : Int32).toInt = (-1) := (by decide); omega)), (by rw [q19]; decide)⟩
  by_cases q21 : a0 = 111
  · --
    refine lv_tableIn (tgt := 90) hx hb dX11_letterOf_1 (by rw [q21]; decide) (by rw [q21]; decide) (by rw [q21]; rfl) (by decide) ?_
    have i22 : Iv a0 111 111 := iv_eq1 q21 (iv_top a0) (⟨by decide, by decide⟩ : Iv 111 111 111) (by decide)
    refine lv_iconst (v := 5) hx hb dX11_letterOf_90 (by decide) ?_
    rw [← hQ]
    exact o_ri cx rx hw dX11_letterOf_91 ⟨rfl, (iv_w (⟨by decide, by decide⟩ : Iv 5 5 5) (by decide)), (fun _ => iv_w i22 (by decide)), (by exact (by have := (i22).1; have := (i22).2; have : (5 : Int32).toInt = 5 := (by decide); omega)), (by rw [q21]; decide)⟩
  by_cases q23 : a0 = 112
  · --
    refine lv_tableIn (tgt := 101) hx hb dX11_letterOf_1 (by rw [q23]; decide) (by rw [q23]; decide) (by rw [q23]; rfl) (by decide) ?_
    have i24 : Iv a0 112 112 := iv_eq1 q23 (iv_top a0) (⟨by decide, by decide⟩ : Iv 112 112 112) (by decide)
    refine lv_iconst (v := (-1)) hx hb dX11_letterOf_101 (by decide) ?_
    rw [← hQ]
    exact o_ri cx rx hw dX11_letterOf_102 ⟨rfl, (iv_w (⟨by decide, by decide⟩ : Iv (-1) (-1) (-1)) (by decide)), (fun h => iv_no (iv_le1 (b' := -1) h (⟨by decide, by decide⟩ : Iv 0 0 0) (⟨by decide, by decide⟩ : Iv (-1) (-1) (-1)) (by decide)) (by decide)), (by exact (by have := (i24).1; have := (i24).2; have : ((-1) : Int32).toInt = (-1) := (by decide); omega)), (by rw [q23]; decide)⟩
  by_cases q25 : a0 = 113
  · --
    refine lv_tableIn (tgt := 101) hx hb dX11_letterOf_1 (by rw [q25]; decide) (by rw [q25]; decide) (by rw [q25]; rfl) (by decide) ?_
    have i26 : Iv a0 113 113 := iv_eq1 q25 (iv_top a0) (⟨by decide, by decide⟩ : Iv 113 113 113) (by decide)
    refine lv_iconst (v := (-1)) hx hb dX11_letterOf_101 (by decide) ?_
    rw [← hQ]
    exact o_ri cx rx hw dX11_letterOf_102 ⟨rfl, (iv_w (⟨by decide, by decide⟩ : Iv (-1) (-1) (-1)) (by decide)), (fun h => iv_no (iv_le1 (b' := -1) h (⟨by decide, by decide⟩ : Iv 0 0 0) (⟨by decide, by decide⟩ : Iv (-1) (-1) (-1)) (by decide)) (by decide)), (by exact (by have := (i26).1; have := (i26).2; have : ((-1) : Int32).toInt = (-1) := (by decide); omega)), (by rw [q25]; decide)⟩
  by_cases q27 : a0 = 114
  · --
    refine lv_tableIn (tgt := 86) hx hb dX11_letterOf_1 (by rw [q27]; decide) (by rw [q27]; decide) (by rw [q27]; rfl) (by decide) ?_
    have i28 : Iv a0 114 114 := iv_eq1 q27 (iv_top a0) (⟨by decide, by decide⟩ : Iv 114 114 114) (by decide)
    refine lv_iconst (v := 3) hx hb dX11_letterOf_86 (by decide) ?_
    rw [← hQ]
    exact o_ri cx rx hw dX11_letterOf_87 ⟨rfl, (iv_w (⟨by decide, by decide⟩ : Iv 3 3 3) (by decide)), (fun _ => iv_w i28 (by decide)), (by exact (by have := (i28).1; have := (i28).2; have : (3 : Int32).toInt = 3 := (by decide); omega)), (by rw [q27]; decide)⟩
  by_cases q29 : a0 = 115
  · --
    refine lv_tableIn (tgt := 82) hx hb dX11_letterOf_1 (by rw [q29]; decide) (by rw [q29]; decide) (by rw [q29]; rfl) (by decide) ?_
    have i30 : Iv a0 115 115 := iv_eq1 q29 (iv_top a0) (⟨by decide, by decide⟩ : Iv 115 115 115) (by decide)
    refine lv_iconst (v := 1) hx hb dX11_letterOf_82 (by decide) ?_
    rw [← hQ]
    exact o_ri cx rx hw dX11_letterOf_83 ⟨rfl, (iv_w (⟨by decide, by decide⟩ : Iv 1 1 1) (by decide)), (fun _ => iv_w i30 (by decide)), (by exact (by have := (i30).1; have := (i30).2; have : (1 : Int32).toInt = 1 := (by decide); omega)), (by rw [q29]; decide)⟩
  by_cases q31 : a0 = 116
  · --
    refine lv_tableIn (tgt := 84) hx hb dX11_letterOf_1 (by rw [q31]; decide) (by rw [q31]; decide) (by rw [q31]; rfl) (by decide) ?_
    have i32 : Iv a0 116 116 := iv_eq1 q31 (iv_top a0) (⟨by decide, by decide⟩ : Iv 116 116 116) (by decide)
    refine lv_iconst (v := 2) hx hb dX11_letterOf_84 (by decide) ?_
    rw [← hQ]
    exact o_ri cx rx hw dX11_letterOf_85 ⟨rfl, (iv_w (⟨by decide, by decide⟩ : Iv 2 2 2) (by decide)), (fun _ => iv_w i32 (by decide)), (by exact (by have := (i32).1; have := (i32).2; have : (2 : Int32).toInt = 2 := (by decide); omega)), (by rw [q31]; decide)⟩
  have q1 := iv_nt q1 (k := 101) (by decide)
  have q3 := iv_nt q3 (k := 102) (by decide)
  have q5 := iv_nt q5 (k := 103) (by decide)
  have q7 := iv_nt q7 (k := 104) (by decide)
  have q9 := iv_nt q9 (k := 105) (by decide)
  have q11 := iv_nt q11 (k := 106) (by decide)
  have q13 := iv_nt q13 (k := 107) (by decide)
  have q15 := iv_nt q15 (k := 108) (by decide)
  have q17 := iv_nt q17 (k := 109) (by decide)
  have q19 := iv_nt q19 (k := 110) (by decide)
  have q21 := iv_nt q21 (k := 111) (by decide)
  have q23 := iv_nt q23 (k := 112) (by decide)
  have q25 := iv_nt q25 (k := 113) (by decide)
  have q27 := iv_nt q27 (k := 114) (by decide)
  have q29 := iv_nt q29 (k := 115) (by decide)
  have q31 := iv_nt q31 (k := 116) (by decide)
  refine lv_tableOut (tgt := 101) hx hb dX11_letterOf_1 (by omega) (by decide) ?_
  refine lv_iconst (v := (-1)) hx hb dX11_letterOf_101 (by decide) ?_
  rw [← hQ]
  exact o_ri cx rx hw dX11_letterOf_102 ⟨rfl, (iv_w (⟨by decide, by decide⟩ : Iv (-1) (-1) (-1)) (by decide)), (fun h => iv_no (iv_le1 (b' := -1) h (⟨by decide, by decide⟩ : Iv 0 0 0) (⟨by decide, by decide⟩ : Iv (-1) (-1) (-1)) (by decide)) (by decide)), (by exact (by have : ((-1) : Int32).toInt = (-1) := (by decide); omega)), (by rw [lt_F, if_neg q1, if_neg q5, if_neg q9, if_neg q13, if_neg q17, if_neg q21, if_neg q27, if_neg q29, if_neg q31])⟩
end OM
