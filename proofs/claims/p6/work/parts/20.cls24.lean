section OM
variable {l : Launch} {A : Nat → Prop} {L : List Nat} {τ : Nat → Nat} {cy : Nat → ClassId} {D : va_G} {K : (Nat → Nat) × (Nat → Nat)} {σ : oSt}
abbrev fs_X11_end : List Nat := [655, 658]
abbrev ts_X11_end : List Nat := []
set_option maxHeartbeats 4000000 in
set_option maxRecDepth 100000 in
theorem c_X11_end (a0 : Nat) (ha0 : oA L τ a0 10) (a1 : Int32) : oMet l A L τ cy D K yX11_end cX11_end 2 (some .boolean) 1 22 [.ref a0, .int a1] σ (va_Qi (fun r σ1 => oFr τ fs_X11_end ts_X11_end σ σ1 ∧ Iv r 0 1 ∧ ((0 ≤ a1.toInt ∧ a1.toInt ≤ (σ.1 655 a0).toInt ∧ r.toInt = 1 ∧ (σ1.1 655 a0).toInt = a1.toInt) ∨ ((a1.toInt < 0 ∨ (σ.1 655 a0).toInt < a1.toInt) ∧ r.toInt = 0 ∧ (σ1.1 655 a0).toInt = (σ.1 655 a0).toInt))) (oPo A L τ cy D) A) := by
  refine oMk (by decide) (Nat.le_of_ble_eq_true rfl) rfl ?_
  intro p e s m args below meth c ls cx rx hA hw hl
  generalize hQ : MQ below _ args s 0 0 A = Q
  have hx := cx.1.1
  have hb := cx.1.2.1
  have hml := cx.1.2.2.1
  have hown := cx.1.2.2.2.1
  have hts := cx.1.2.2.2.2
  have hl : lv_has ls 2 [(0, .ref a0), (1, .int a1)] := hl
  have fr : oFr τ fs_X11_end ts_X11_end σ σ := oFr_rf
  have iz655 : Iv (σ.1 655 a0) (0) 80 := o_fb (j := 655) hw ha0 rfl
  refine lv_aload_n hx hb dX11_end_0 rfl (lv_at hl 0 rfl) ?_
  refine lv_iconst (v := 0) hx hb dX11_end_1 (by decide) ?_
  refine p_658 cx hw ha0 k_f_X11_89 dX11_end_2 (fun σ1 H locs eσ1 hw => ?_)
  have fr := oFr_i fr eσ1 (by decide)
  refine lv_iload_n hx hb dX11_end_5 rfl (lv_at hl 1 rfl) ?_
  refine lv_iconst (v := 0) hx hb dX11_end_6 (by decide) ?_
  refine lv_aload_n hx hb dX11_end_7 rfl (lv_at hl 0 rfl) ?_
  refine g_655 cx hw ha0 k_f_X11_108 dX11_end_8 (fun v2 e2 i2 => ?_)
  rw [show v2 = (σ.1 655 a0) from e2.trans ((kp_i eσ1 (by decide)).trans rfl)]
  refine o_ci hw (oRunS cx hA hw q_X11_in k_m_X11_95 (As := [.int a1, .int 0, .int (σ.1 655 a0)]) (c_X11_in a1 0 (σ.1 655 a0)) (by decide) rfl hl.1 rfl (Nat.le_of_ble_eq_true rfl) dX11_end_11 (by decide)) (fun v4 σ3 H locs hp hw => ?_)
  obtain ⟨p4_0, p4_1, p4_2, p4_3, p4_4⟩ := hp
  rw [p4_0] at hw
  refine lv_if_ne (tgt := 19) hx hb dX11_end_14 (by decide) (fun c5 => ?_) (fun c5 => ?_)
  · --
    have i6 : Iv v4 1 1 := iv_ne1 c5 p4_1 (⟨by decide, by decide⟩ : Iv 0 0 0) (by decide)
    have l7 : a1.toInt ≤ (σ.1 655 a0).toInt + 0 := le_of (p4_2 c5).2
    have i8 : Iv a1 0 80 := (fun h => iv_rel (p4_2 h) (⟨by decide, by decide⟩ : Iv 0 0 0) iz655) c5
    refine lv_aload_n hx hb dX11_end_19 rfl (lv_at hl 0 rfl) ?_
    refine lv_iload_n hx hb dX11_end_20 rfl (lv_at hl 1 rfl) ?_
    refine p_655 cx hw ha0 (iv_w i8 (by decide)) k_f_X11_108 dX11_end_21 (fun σ9 H locs eσ9 hw => ?_)
    have fr := oFr_i fr eσ9 (by decide)
    refine lv_iconst (v := 1) hx hb dX11_end_24 (by decide) ?_
    rw [← hQ]
    exact o_rz cx rx hw (iv_nz01 (iv_w (⟨by decide, by decide⟩ : Iv 1 1 1) (by decide))) dX11_end_25 ⟨fr, (iv_w (⟨by decide, by decide⟩ : Iv 1 1 1) (by decide)), (by exact (by have := (i8).1; have := (i8).2; have := (iz655).1; have := (iz655).2; have := (i6).1; have := (i6).2; have : (σ9.1 658 a0).toInt = (0 : Int32).toInt := congrArg Int32.toInt (show σ9.1 658 a0 = 0 from ((kp_i eσ9 (by decide)).trans (kp_s eσ1))); have : (σ9.1 655 a0).toInt = (a1 : Int32).toInt := congrArg Int32.toInt (show σ9.1 655 a0 = a1 from (kp_s eσ9)); have : (0 : Int32).toInt = 0 := (by decide); have : (1 : Int32).toInt = 1 := (by decide); omega))⟩
  · --
    have i10 : Iv v4 0 0 := iv_eq1 c5 p4_1 (⟨by decide, by decide⟩ : Iv 0 0 0) (by decide)
    refine lv_iconst (v := 0) hx hb dX11_end_17 (by decide) ?_
    rw [← hQ]
    exact o_rz cx rx hw (iv_nz01 (iv_w (⟨by decide, by decide⟩ : Iv 0 0 0) (by decide))) dX11_end_18 ⟨fr, (iv_w (⟨by decide, by decide⟩ : Iv 0 0 0) (by decide)), (by exact (by have := (iz655).1; have := (iz655).2; have := (i10).1; have := (i10).2; have : (σ1.1 655 a0).toInt = ((σ.1 655 a0) : Int32).toInt := congrArg Int32.toInt (show σ1.1 655 a0 = (σ.1 655 a0) from ((kp_i eσ1 (by decide)).trans rfl)); have : (σ1.1 658 a0).toInt = (0 : Int32).toInt := congrArg Int32.toInt (show σ1.1 658 a0 = 0 from (kp_s eσ1)); have : (v4 : Int32).toInt = (0 : Int32).toInt := congrArg Int32.toInt c5; have : (0 : Int32).toInt = 0 := (by decide); omega))⟩
abbrev fs_X11_herds : List Nat := [647, 649, 655, 658, 659, 660, 661, 662, 663, 672, 681]
abbrev ts_X11_herds : List Nat := [48, 53, 69]
set_option maxHeartbeats 4000000 in
set_option maxRecDepth 100000 in
theorem c_X11_herds (a0 : Nat) (ha0 : oA L τ a0 10) : oMet l A L τ cy D K yX11_herds cX11_herds 4 (some .int) 4 87 [.ref a0] σ (va_Qi (fun r σ1 => oFr τ fs_X11_herds ts_X11_herds σ σ1 ∧ Iv r (-201) 6 ∧ Iv (σ1.1 655 a0) 0 0) (oPo A L τ cy D) A) := by
  refine oMk (by decide) (Nat.le_of_ble_eq_true rfl) rfl ?_
  intro p e s m args below meth c ls cx rx hA hw hl
  generalize hQ : MQ below _ args s 0 0 A = Q
  have hx := cx.1.1
  have hb := cx.1.2.1
  have hml := cx.1.2.2.1
  have hown := cx.1.2.2.2.1
  have hts := cx.1.2.2.2.2
  have hl : lv_has ls 4 [(0, .ref a0)] := hl
  have fr : oFr τ fs_X11_herds ts_X11_herds σ σ := oFr_rf
  refine lv_aload_n hx hb dX11_herds_0 rfl (lv_at hl 0 rfl) ?_
  refine lv_iconst (v := 0) hx hb dX11_herds_1 (by decide) ?_
  refine p_658 cx hw ha0 k_f_X11_89 dX11_herds_2 (fun σ1 H locs eσ1 hw => ?_)
  have fr := oFr_i fr eσ1 (by decide)
  refine lv_aload_n hx hb dX11_herds_5 rfl (lv_at hl 0 rfl) ?_
  refine lv_aload_n hx hb dX11_herds_6 rfl (lv_at hl 0 rfl) ?_
  refine g_654 cx hw ha0 k_f_X11_32 dX11_herds_7 (fun v2 e2 h2 => ?_)
  refine lv_aload_n hx hb dX11_herds_10 rfl (lv_at hl 0 rfl) ?_
  refine g_655 cx hw ha0 k_f_X11_108 dX11_herds_11 (fun v3 e3 i3 => ?_)
  have z3 : v3.toInt = (σ1.1 655 a0).toInt := congrArg Int32.toInt e3
  refine lv_bipush (v := 76) hx hb dX11_herds_14 (by decide) ?_
  have i4 : Iv (σ1.1 660 a0) 0 80 := o_fb (j := 660) hw ha0 rfl
  have i5 : Iv (σ1.1 661 a0) 0 80 := o_fb (j := 661) hw ha0 rfl
  refine o_cv hw (oRunV cx hA hw q_X11_begin k_m_X11_142 rfl ha0 (by decide) (As := [.ref v2, .int v3, .int 76]) (c_X11_beginT a0 ha0 v2 h2 v3 (iv_w i3 (by decide)) 76 (iv_w (⟨by decide, by decide⟩ : Iv 76 76 76) (by decide))) (by decide) rfl hl.1 rfl (Nat.le_of_ble_eq_true rfl) dX11_herds_16 (by decide)) (fun σ6 H locs hp hw => ?_)
  obtain ⟨p7_0, p7_1, p7_2, p7_3, p7_4, p7_5, p7_6⟩ := hp
  have fr := oFr_tr fr p7_0 (by decide)
  refine lv_aload_n hx hb dX11_herds_19 rfl (lv_at hl 0 rfl) ?_
  refine lv_iconst (v := 0) hx hb dX11_herds_20 (by decide) ?_
  refine p_655 cx hw ha0 (iv_w (⟨by decide, by decide⟩ : Iv 0 0 0) (by decide)) k_f_X11_108 dX11_herds_21 (fun σ8 H locs eσ8 hw => ?_)
  have fr := oFr_i fr eσ8 (by decide)
  refine lv_aload_n hx hb dX11_herds_24 rfl (lv_at hl 0 rfl) ?_
  refine g_660 cx hw ha0 k_f_X11_114 dX11_herds_25 (fun v9 e9 i9 => ?_)
  rw [show v9 = (σ6.1 660 a0) from e9.trans ((kp_i eσ8 (by decide)).trans rfl)]
  refine lv_if_ne (tgt := 33) hx hb dX11_herds_28 (by decide) (fun c10 => ?_) (fun c10 => ?_)
  · --
    have i11 : Iv (σ6.1 660 a0) 1 80 := iv_ne1 c10 p7_2 (⟨by decide, by decide⟩ : Iv 0 0 0) (by decide)
    refine lv_iconst (v := 0) hx hb dX11_herds_33 (by decide) ?_
    refine lv_istore_n (lv' := [(1, .int 0), (0, .ref a0)]) hx hb dX11_herds_34 rfl hl (by decide) rfl (fun ls hl => ?_)
    refine lv_iconst (v := 1) hx hb dX11_herds_35 (by decide) ?_
    refine lv_istore_n (lv' := [(2, .int 1), (1, .int 0), (0, .ref a0)]) hx hb dX11_herds_36 rfl hl (by decide) rfl (fun ls hl => ?_)
    refine lv_iload_n hx hb dX11_herds_37 rfl (lv_at hl 0 rfl) ?_
    refine lv_if_eq (tgt := 90) hx hb dX11_herds_38 (by decide) (fun c12 => ?_) (fun c12 => ?_)
    · --
      exact iv_no (iv_eq1 (lo := 1) (hi := 0) c12 (⟨by decide, by decide⟩ : Iv 1 1 1) (⟨by decide, by decide⟩ : Iv 0 0 0) (by decide)) (by decide)
    · --
      refine lv_aload_n hx hb dX11_herds_41 rfl (lv_at hl 2 rfl) ?_
      have z13 : (σ8.1 663 a0).toInt = ((σ6.1 663 a0) : Int32).toInt := congrArg Int32.toInt (show σ8.1 663 a0 = (σ6.1 663 a0) from ((kp_i eσ8 (by decide)).trans rfl))
      refine o_ci hw (oRunV cx hA hw q_X11_fine k_m_X11_126 rfl ha0 (by decide) (As := []) (c_X11_fine a0 ha0) (by decide) rfl hl.1 rfl (Nat.le_of_ble_eq_true rfl) dX11_herds_42 (by decide)) (fun v15 σ14 H locs hp hw => ?_)
      obtain ⟨p15_0, p15_1, p15_2⟩ := hp
      rw [p15_0] at hw
      have i16 : Iv v15 1 1 := (by have := (p15_1).1; have := (p15_1).2; have := (i11).1; have := (i11).2; have := (p7_3).1; have := (p7_3).2; have := (p7_4).1; have := (p7_4).2; have := (p7_5).1; have := (p7_5).2; have := (i4).1; have := (i4).2; have := (i5).1; have := (i5).2; have : (σ8.1 658 a0).toInt = (0 : Int32).toInt := congrArg Int32.toInt (show σ8.1 658 a0 = 0 from ((kp_i eσ8 (by decide)).trans ((kp_c p7_0 (by decide)).trans (kp_s eσ1)))); have : (σ8.1 660 a0).toInt = ((σ6.1 660 a0) : Int32).toInt := congrArg Int32.toInt (show σ8.1 660 a0 = (σ6.1 660 a0) from ((kp_i eσ8 (by decide)).trans rfl)); have : (σ8.1 661 a0).toInt = ((σ6.1 661 a0) : Int32).toInt := congrArg Int32.toInt (show σ8.1 661 a0 = (σ6.1 661 a0) from ((kp_i eσ8 (by decide)).trans rfl)); have : (σ8.1 662 a0).toInt = ((σ6.1 662 a0) : Int32).toInt := congrArg Int32.toInt (show σ8.1 662 a0 = (σ6.1 662 a0) from ((kp_i eσ8 (by decide)).trans rfl)); have : (σ8.1 663 a0).toInt = ((σ6.1 663 a0) : Int32).toInt := congrArg Int32.toInt (show σ8.1 663 a0 = (σ6.1 663 a0) from ((kp_i eσ8 (by decide)).trans rfl)); have : (σ8.1 655 a0).toInt = (0 : Int32).toInt := congrArg Int32.toInt (show σ8.1 655 a0 = 0 from (kp_s eσ8)); have : (0 : Int32).toInt = 0 := (by decide); have : (1 : Int32).toInt = 1 := (by decide); have : (76 : Int32).toInt = 76 := (by decide); exact ⟨by omega, by omega⟩)
      have frE_48 := fr
      have J_48 : ∀ n48 : Nat, ∀ (j48_1 : Int32) (ij48_1 : Iv j48_1 0 6) (j48_2 : Int32) (ij48_2 : Iv j48_2 1 1), ∀ (σ_48 : oSt) (H : Heap) (locs : List Loc), oI A L τ cy D s.heap σ_48 H locs → oFr τ fs_X11_herds ts_X11_herds σ σ_48 → Iv (σ_48.1 655 a0) 0 0 → Iv (σ_48.1 660 a0) 1 80 → Iv (σ_48.1 661 a0) 0 80 → Iv (σ_48.1 662 a0) 0 80 → Iv (σ_48.1 663 a0) (-1) (-1) → σ_48.2.2.2.2 659 a0 = some v2 → (6 - j48_1.toInt).toNat < n48 → ((j48_1 : Int32).toInt + (σ_48.1 647 a0).toInt ≤ 6) → ∀ (ls : Array Slot), lv_has ls 4 [(0, .ref a0), (1, .int j48_1), (2, .int j48_2)] → W p l e ({ frames := 4, cells := 0, slots := 0, locals := 87 } : Room) s m args below meth c H locs 0 0 Q (F0 m 48 ls []) := by
        intro n48
        induction n48 with
        | zero => intro j48_1 ij48_1 j48_2 ij48_2 σ_48 H locs hw fr f48_655_a0 f48_660_a0 f48_661_a0 f48_662_a0 f48_663_a0 r48_659  hn_48 h6  ls hl; exact absurd hn_48 (Nat.not_lt_zero _)
        | succ n48 ih_48 =>
          intro j48_1 ij48_1 j48_2 ij48_2 σ_48 H locs hw fr f48_655_a0 f48_660_a0 f48_661_a0 f48_662_a0 f48_663_a0 r48_659  hn_48 h6  ls hl
          have fr_48 := fr
          refine lv_aload_n hx hb dX11_herds_48 rfl (lv_at hl 0 rfl) ?_
          refine g_647 cx hw ha0 k_f_X11_105 dX11_herds_49 (fun v17 e17 i17 => ?_)
          have z17 : v17.toInt = (σ_48.1 647 a0).toInt := congrArg Int32.toInt e17
          refine lv_iload_n hx hb dX11_herds_52 rfl (lv_at hl 1 rfl) ?_
          refine lv_iadd hx hb dX11_herds_53 ?_
          refine lv_topi (fun v18 e18 => ?_)
          have i18 : Iv v18 0 12 := iv_add e18 i17 ij48_1 (by decide)
          have x18 : v18.toInt = v17.toInt + j48_1.toInt := ex_add e18 i17 ij48_1 (by decide)
          refine lv_bipush (v := 6) hx hb dX11_herds_54 (by decide) ?_
          refine lv_icmp_ne (tgt := 70) hx hb dX11_herds_56 (by decide) (fun c19 => ?_) (fun c19 => ?_)
          · --
            have i20 : Iv j48_1 0 5 := (by have := (ij48_1).1; have := (ij48_1).2; have := (ij48_2).1; have := (ij48_2).2; have := (f48_660_a0).1; have := (f48_660_a0).2; have := (f48_661_a0).1; have := (f48_661_a0).2; have := (f48_662_a0).1; have := (f48_662_a0).2; have := (f48_663_a0).1; have := (f48_663_a0).2; have := (f48_655_a0).1; have := (f48_655_a0).2; have := (i17).1; have := (i17).2; have := (i4).1; have := (i4).2; have := (i5).1; have := (i5).2; have := (i11).1; have := (i11).2; have := (p7_3).1; have := (p7_3).2; have := (p7_4).1; have := (p7_4).2; have := (p7_5).1; have := (p7_5).2; have := (i16).1; have := (i16).2; have := (i18).1; have := (i18).2; have : (σ_48.1 647 a0).toInt = (v17 : Int32).toInt := congrArg Int32.toInt (show σ_48.1 647 a0 = v17 from e17.symm); have : (v18 : Int32).toInt ≠ (6 : Int32).toInt := fun q => c19 (Int32.toInt_inj.mp q); have : (6 : Int32).toInt = 6 := (by decide); have : (76 : Int32).toInt = 76 := (by decide); exact ⟨by omega, by omega⟩)
            refine lv_aload_n hx hb dX11_herds_70 rfl (lv_at hl 0 rfl) ?_
            refine lv_iconst (v := 3) hx hb dX11_herds_71 (by decide) ?_
            refine lv_iload_n hx hb dX11_herds_72 rfl (lv_at hl 1 rfl) ?_
            refine lv_imul hx hb dX11_herds_73 ?_
            refine lv_topi (fun v21 e21 => ?_)
            have i21 : Iv v21 0 15 := iv_mul e21 (⟨by decide, by decide⟩ : Iv 3 3 3) i20 (by decide)
            refine o_cv hw (oRunV cx hA hw q_X11_readHerd k_m_X11_175 rfl ha0 (by decide) (As := [.int v21]) (c_X11_readHerd a0 ha0 v21 (iv_w i21 (by decide)) v2 (r48_659) h2 (kn_iv (rfl) (iv_w f48_660_a0 (by decide)))) (by decide) rfl hl.1 rfl (Nat.le_of_ble_eq_true rfl) dX11_herds_74 (by decide)) (fun σ22 H locs hp hw => ?_)
            obtain ⟨p23_0, p23_1, p23_2⟩ := hp
            have fr := oFr_tr fr p23_0 (by decide)
            have i24 : Iv (σ22.1 662 a0) 0 200 := o_fb (j := 662) hw ha0 rfl
            have i25 : Iv (σ22.1 663 a0) (-1) 200 := o_fb (j := 663) hw ha0 rfl
            obtain ⟨v26, e26⟩ : ∃ y : Int32, y = j48_1 + 1 := ⟨_, rfl⟩
            have i26 : Iv v26 1 6 := iv_add e26 i20 (⟨by decide, by decide⟩ : Iv 1 1 1) (by decide)
            have x26 : v26.toInt = j48_1.toInt + 1 := ex_add e26 i20 (⟨by decide, by decide⟩ : Iv 1 1 1) (by decide)
            refine lv_iinc (v := v26) (lv' := [(1, .int v26), (0, .ref a0), (2, .int j48_2)]) hx hb dX11_herds_77 hl (k := 1) rfl (by rw [e26]; rfl) (by decide) rfl (fun ls hl => ?_)
            refine lv_aload_n hx hb dX11_herds_80 rfl (lv_at hl 1 rfl) ?_
            refine lv_bipush (v := 59) hx hb dX11_herds_81 (by decide) ?_
            have z27 : (σ22.1 660 a0).toInt = ((σ_48.1 660 a0) : Int32).toInt := congrArg Int32.toInt (show σ22.1 660 a0 = (σ_48.1 660 a0) from ((kp_c p23_0 (by decide)).trans rfl))
            have z28 : (σ22.1 661 a0).toInt = ((σ_48.1 661 a0) : Int32).toInt := congrArg Int32.toInt (show σ22.1 661 a0 = (σ_48.1 661 a0) from ((kp_c p23_0 (by decide)).trans rfl))
            refine o_ci hw (oRunV cx hA hw q_X11_passes k_m_X11_134 rfl ha0 (by decide) (As := [.int 59]) (c_X11_passesT a0 ha0 59 (iv_w (⟨by decide, by decide⟩ : Iv 59 59 59) (by decide)) v2 (((kr_c p23_0 (by decide)).trans r48_659)) h2 (kn_iv (((kp_c p23_0 (by decide)).trans rfl)) (iv_w f48_660_a0 (by decide)))) (by decide) rfl hl.1 rfl (Nat.le_of_ble_eq_true rfl) dX11_herds_83 (by decide)) (fun v30 σ29 H locs hp hw => ?_)
            obtain ⟨p30_0, p30_1, p30_2, p30_3, p30_4, p30_5⟩ := hp
            have fr := oFr_tr fr p30_0 (by decide)
            have i31 : Iv (σ29.1 662 a0) 0 200 := o_fb (j := 662) hw ha0 rfl
            refine lv_istore_n (lv' := [(2, .int v30), (1, .int v26), (0, .ref a0)]) hx hb dX11_herds_86 rfl hl (by decide) rfl (fun ls hl => ?_)
            refine lv_goto (tgt := 37) hx hb dX11_herds_87 (by decide) ?_
            refine lv_iload_n hx hb dX11_herds_37 rfl (lv_at hl 0 rfl) ?_
            refine lv_if_eq (tgt := 90) hx hb dX11_herds_38 (by decide) (fun c32 => ?_) (fun c32 => ?_)
            · --
              have i33 : Iv v30 0 0 := iv_eq1 c32 p30_1 (⟨by decide, by decide⟩ : Iv 0 0 0) (by decide)
              refine lv_aload_n hx hb dX11_herds_90 rfl (lv_at hl 2 rfl) ?_
              refine g_662 cx hw ha0 k_f_X11_120 dX11_herds_91 (fun v34 e34 i34 => ?_)
              rw [show v34 = (σ29.1 662 a0) from e34.trans rfl]
              refine lv_aload_n hx hb dX11_herds_94 rfl (lv_at hl 2 rfl) ?_
              refine g_660 cx hw ha0 k_f_X11_114 dX11_herds_95 (fun v35 e35 i35 => ?_)
              rw [show v35 = (σ_48.1 660 a0) from e35.trans ((kp_c p30_0 (by decide)).trans ((kp_c p23_0 (by decide)).trans rfl))]
              refine lv_icmp_ge (tgt := 109) hx hb dX11_herds_98 (by decide) (fun c36 => ?_) (fun c36 => ?_)
              · --
                have i37 : Iv (σ29.1 662 a0) 1 200 := iv_le2 c36 f48_660_a0 i31 (by decide)
                refine lv_aload_n hx hb dX11_herds_109 rfl (lv_at hl 2 rfl) ?_
                have z38 : (σ29.1 663 a0).toInt = ((σ22.1 663 a0) : Int32).toInt := congrArg Int32.toInt (show σ29.1 663 a0 = (σ22.1 663 a0) from ((kp_c p30_0 (by decide)).trans rfl))
                refine o_ci hw (oRunV cx hA hw q_X11_fine k_m_X11_126 rfl ha0 (by decide) (As := []) (c_X11_fine a0 ha0) (by decide) rfl hl.1 rfl (Nat.le_of_ble_eq_true rfl) dX11_herds_110 (by decide)) (fun v40 σ39 H locs hp hw => ?_)
                obtain ⟨p40_0, p40_1, p40_2⟩ := hp
                rw [p40_0] at hw
                refine lv_if_ne (tgt := 123) hx hb dX11_herds_113 (by decide) (fun c41 => ?_) (fun c41 => ?_)
                · --
                  have i42 : Iv v40 1 1 := iv_ne1 c41 p40_1 (⟨by decide, by decide⟩ : Iv 0 0 0) (by decide)
                  have i43 : Iv (σ22.1 663 a0) (-1) (-1) := (fun h => (by have := nz_ti h; have := (i26).1; have := (i26).2; have := (i33).1; have := (i33).2; have := (p40_1).1; have := (p40_1).2; have := (f48_660_a0).1; have := (f48_660_a0).2; have := (f48_661_a0).1; have := (f48_661_a0).2; have := (f48_655_a0).1; have := (f48_655_a0).2; have := (i17).1; have := (i17).2; have := (i25).1; have := (i25).2; have := (i37).1; have := (i37).2; have := (i4).1; have := (i4).2; have := (i5).1; have := (i5).2; have := (i11).1; have := (i11).2; have := (p7_3).1; have := (p7_3).2; have := (p7_4).1; have := (p7_4).2; have := (p7_5).1; have := (p7_5).2; have := (i16).1; have := (i16).2; have := (i18).1; have := (i18).2; have := (i20).1; have := (i20).2; have := (i21).1; have := (i21).2; have := (i24).1; have := (i24).2; have : (σ29.1 660 a0).toInt = ((σ_48.1 660 a0) : Int32).toInt := congrArg Int32.toInt (show σ29.1 660 a0 = (σ_48.1 660 a0) from ((kp_c p30_0 (by decide)).trans ((kp_c p23_0 (by decide)).trans rfl))); have : (σ29.1 661 a0).toInt = ((σ_48.1 661 a0) : Int32).toInt := congrArg Int32.toInt (show σ29.1 661 a0 = (σ_48.1 661 a0) from ((kp_c p30_0 (by decide)).trans ((kp_c p23_0 (by decide)).trans rfl))); have : (σ29.1 655 a0).toInt = ((σ_48.1 655 a0) : Int32).toInt := congrArg Int32.toInt (show σ29.1 655 a0 = (σ_48.1 655 a0) from ((kp_c p30_0 (by decide)).trans ((kp_c p23_0 (by decide)).trans rfl))); have : (σ29.1 647 a0).toInt = (v17 : Int32).toInt := congrArg Int32.toInt (show σ29.1 647 a0 = v17 from ((kp_c p30_0 (by decide)).trans ((kp_c p23_0 (by decide)).trans e17.symm))); have : (σ29.1 663 a0).toInt = ((σ22.1 663 a0) : Int32).toInt := congrArg Int32.toInt (show σ29.1 663 a0 = (σ22.1 663 a0) from ((kp_c p30_0 (by decide)).trans rfl)); have : (v18 : Int32).toInt ≠ (6 : Int32).toInt := fun q => c19 (Int32.toInt_inj.mp q); have : (v30 : Int32).toInt = (0 : Int32).toInt := congrArg Int32.toInt c32; have : ((σ_48.1 660 a0) : Int32).toInt ≤ ((σ29.1 662 a0) : Int32).toInt := iv_le.mp c36; have : (0 : Int32).toInt = 0 := (by decide); have : (59 : Int32).toInt = 59 := (by decide); have : (6 : Int32).toInt = 6 := (by decide); have : (76 : Int32).toInt = 76 := (by decide); exact ⟨by omega, by omega⟩)) c41
                  refine lv_iconst (v := 0) hx hb dX11_herds_123 (by decide) ?_
                  refine lv_istore_n (lv' := [(3, .int 0), (2, .int v30), (1, .int v26), (0, .ref a0)]) hx hb dX11_herds_124 rfl hl (by decide) rfl (fun ls hl => ?_)
                  have frE_125 := fr
                  have J_125 : ∀ n125 : Nat, ∀ (j125_3 : Int32) (ij125_3 : Iv j125_3 0 6), ∀ (σ_125 : oSt) (H : Heap) (locs : List Loc), oI A L τ cy D s.heap σ_125 H locs → oFr τ fs_X11_herds ts_X11_herds σ σ_125 → Iv (σ_125.1 647 a0) 0 6 → Iv (σ_125.1 655 a0) 0 0 → Iv (σ_125.1 660 a0) 1 80 → Iv (σ_125.1 661 a0) 0 80 → Iv (σ_125.1 662 a0) 1 200 → Iv (σ_125.1 663 a0) (-1) (-1) → σ_125.2.2.2.2 659 a0 = some v2 → (6 - j125_3.toInt).toNat < n125 → ((v26 : Int32).toInt + (σ_125.1 647 a0).toInt ≤ 6 + (j125_3 : Int32).toInt) → ∀ (ls : Array Slot), lv_has ls 4 [(0, .ref a0), (1, .int v26), (2, .int v30), (3, .int j125_3)] → W p l e ({ frames := 4, cells := 0, slots := 0, locals := 87 } : Room) s m args below meth c H locs 0 0 Q (F0 m 125 ls []) := by
                    intro n125
                    induction n125 with
                    | zero => intro j125_3 ij125_3 σ_125 H locs hw fr f125_647_a0 f125_655_a0 f125_660_a0 f125_661_a0 f125_662_a0 f125_663_a0 r125_659  hn_125 h7  ls hl; exact absurd hn_125 (Nat.not_lt_zero _)
                    | succ n125 ih_125 =>
                      intro j125_3 ij125_3 σ_125 H locs hw fr f125_647_a0 f125_655_a0 f125_660_a0 f125_661_a0 f125_662_a0 f125_663_a0 r125_659  hn_125 h7  ls hl
                      have fr_125 := fr
                      refine lv_iload_n hx hb dX11_herds_125 rfl (lv_at hl 3 rfl) ?_
                      refine lv_iload_n hx hb dX11_herds_126 rfl (lv_at hl 1 rfl) ?_
                      refine lv_icmp_ge (tgt := 235) hx hb dX11_herds_127 (by decide) (fun c44 => ?_) (fun c44 => ?_)
                      · --
                        have i45 : Iv j125_3 1 6 := iv_le2 c44 i26 ij125_3 (by decide)
                        refine lv_aload_n hx hb dX11_herds_235 rfl (lv_at hl 0 rfl) ?_
                        refine lv_iconst (v := 0) hx hb dX11_herds_236 (by decide) ?_
                        refine p_672 cx hw ha0 (iv_w (⟨by decide, by decide⟩ : Iv 0 0 0) (by decide)) k_f_X11_168 dX11_herds_237 (fun σ46 H locs eσ46 hw => ?_)
                        have fr := oFr_i fr eσ46 (by decide)
                        refine lv_aload_n hx hb dX11_herds_240 rfl (lv_at hl 0 rfl) ?_
                        refine lv_dup hx hb dX11_herds_241 rfl ?_
                        refine g_681 cx hw ha0 k_f_X11_182 dX11_herds_242 (fun v47 e47 => ?_)
                        have z47 : v47.toInt = (σ46.1 681 a0).toInt := congrArg Int32.toInt e47
                        refine lv_iconst (v := 1) hx hb dX11_herds_245 (by decide) ?_
                        refine lv_iadd hx hb dX11_herds_246 ?_
                        refine lv_topi (fun v48 e48 => ?_)
                        refine p_681 cx hw ha0 k_f_X11_182 dX11_herds_247 (fun σ49 H locs eσ49 hw => ?_)
                        have fr := oFr_i fr eσ49 (by decide)
                        refine lv_iload_n hx hb dX11_herds_250 rfl (lv_at hl 1 rfl) ?_
                        rw [← hQ]
                        exact o_ri cx rx hw dX11_herds_251 ⟨fr, (iv_w i26 (by decide)), (kn_iv (((kp_i eσ49 (by decide)).trans ((kp_i eσ46 (by decide)).trans rfl))) (iv_w f125_655_a0 (by decide)))⟩
                      · --
                        have i50 : Iv j125_3 0 5 := iv_lt1 (iv_nle c44) ij125_3 i26 (by decide)
                        have i51 : Iv (σ_125.1 647 a0) 0 5 := (by have := (i26).1; have := (i26).2; have := (i33).1; have := (i33).2; have := (i50).1; have := (i50).2; have := (f125_660_a0).1; have := (f125_660_a0).2; have := (f125_661_a0).1; have := (f125_661_a0).2; have := (f125_655_a0).1; have := (f125_655_a0).2; have := (f125_647_a0).1; have := (f125_647_a0).2; have := (f125_663_a0).1; have := (f125_663_a0).2; have := (f125_662_a0).1; have := (f125_662_a0).2; have := (i4).1; have := (i4).2; have := (i5).1; have := (i5).2; have := (i11).1; have := (i11).2; have := (p7_3).1; have := (p7_3).2; have := (p7_4).1; have := (p7_4).2; have := (p7_5).1; have := (p7_5).2; have := (i16).1; have := (i16).2; have := (i18).1; have := (i18).2; have := (i20).1; have := (i20).2; have := (i21).1; have := (i21).2; have := (i24).1; have := (i24).2; have := (i43).1; have := (i43).2; have := (i37).1; have := (i37).2; have := (i42).1; have := (i42).2; have : (v18 : Int32).toInt ≠ (6 : Int32).toInt := fun q => c19 (Int32.toInt_inj.mp q); have : (v30 : Int32).toInt = (0 : Int32).toInt := congrArg Int32.toInt c32; have : ((σ_48.1 660 a0) : Int32).toInt ≤ ((σ29.1 662 a0) : Int32).toInt := iv_le.mp c36; have : (j125_3 : Int32).toInt < (v26 : Int32).toInt := iv_lt.mp (iv_nle c44); have : (0 : Int32).toInt = 0 := (by decide); have : (59 : Int32).toInt = 59 := (by decide); have : (6 : Int32).toInt = 6 := (by decide); have : (76 : Int32).toInt = 76 := (by decide); exact ⟨by omega, by omega⟩)
                        refine lv_aload_n hx hb dX11_herds_130 rfl (lv_at hl 0 rfl) ?_
                        refine g_648 cx hw ha0 k_f_X11_22 dX11_herds_131 (fun v52 e52 h52 => ?_)
                        refine lv_aload_n hx hb dX11_herds_134 rfl (lv_at hl 0 rfl) ?_
                        refine g_647 cx hw ha0 k_f_X11_105 dX11_herds_135 (fun v53 e53 i53 => ?_)
                        rw [show v53 = (σ_125.1 647 a0) from e53.trans rfl]
                        refine lv_aload_n hx hb dX11_herds_138 rfl (lv_at hl 0 rfl) ?_
                        refine g_666 cx hw ha0 k_f_X11_46 dX11_herds_139 (fun v54 e54 h54 => ?_)
                        refine lv_iconst (v := 3) hx hb dX11_herds_142 (by decide) ?_
                        refine lv_iload_n hx hb dX11_herds_143 rfl (lv_at hl 3 rfl) ?_
                        refine lv_imul hx hb dX11_herds_144 ?_
                        refine lv_topi (fun v55 e55 => ?_)
                        have i55 : Iv v55 0 15 := iv_mul e55 (⟨by decide, by decide⟩ : Iv 3 3 3) i50 (by decide)
                        refine lv_iconst (v := 1) hx hb dX11_herds_145 (by decide) ?_
                        refine lv_iadd hx hb dX11_herds_146 ?_
                        refine lv_topi (fun v56 e56 => ?_)
                        have i56 : Iv v56 1 16 := iv_add e56 i55 (⟨by decide, by decide⟩ : Iv 1 1 1) (by decide)
                        have x56 : v56.toInt = v55.toInt + 1 := ex_add e56 i55 (⟨by decide, by decide⟩ : Iv 1 1 1) (by decide)
                        refine o_iald cx hw h54 (by decide) rfl (iv_in i56 (by decide)) dX11_herds_147 (fun v57 e57 b57 => ?_)
                        refine o_iast cx hw h52 (by decide) rfl (iv_in i51 (by decide)) trivial dX11_herds_148 (fun σ58 H locs eσ58 hw => ?_)
                        have fr := oFr_p fr eσ58 h52 (by decide)
                        refine lv_aload_n hx hb dX11_herds_149 rfl (lv_at hl 0 rfl) ?_
                        refine lv_dup hx hb dX11_herds_150 rfl ?_
                        refine g_649 cx hw ha0 k_f_X11_161 dX11_herds_151 (fun v59 e59 => ?_)
                        have z59 : v59.toInt = (σ58.1 649 a0).toInt := congrArg Int32.toInt e59
                        refine lv_aload_n hx hb dX11_herds_154 rfl (lv_at hl 0 rfl) ?_
                        refine g_666 cx hw ha0 k_f_X11_46 dX11_herds_155 (fun v60 e60 h60 => ?_)
                        rw [show v60 = v54 from Option.some.inj (e60.symm.trans (((kr_p eσ58).trans e54)))]
                        refine lv_iconst (v := 3) hx hb dX11_herds_158 (by decide) ?_
                        refine lv_iload_n hx hb dX11_herds_159 rfl (lv_at hl 3 rfl) ?_
                        refine lv_imul hx hb dX11_herds_160 ?_
                        refine lv_topi (fun v61 e61 => ?_)
                        have i61 : Iv v61 0 15 := iv_mul e61 (⟨by decide, by decide⟩ : Iv 3 3 3) i50 (by decide)
                        refine lv_iconst (v := 2) hx hb dX11_herds_161 (by decide) ?_
                        refine lv_iadd hx hb dX11_herds_162 ?_
                        refine lv_topi (fun v62 e62 => ?_)
                        have i62 : Iv v62 2 17 := iv_add e62 i61 (⟨by decide, by decide⟩ : Iv 2 2 2) (by decide)
                        have x62 : v62.toInt = v61.toInt + 2 := ex_add e62 i61 (⟨by decide, by decide⟩ : Iv 2 2 2) (by decide)
                        refine o_iald cx hw h54 (by decide) rfl (iv_in i62 (by decide)) dX11_herds_163 (fun v63 e63 b63 => ?_)
                        refine lv_aload_n hx hb dX11_herds_164 rfl (lv_at hl 0 rfl) ?_
                        refine g_647 cx hw ha0 k_f_X11_105 dX11_herds_165 (fun v64 e64 i64 => ?_)
                        rw [show v64 = (σ_125.1 647 a0) from e64.trans ((kp_p eσ58).trans rfl)]
                        refine lv_ishl hx hb dX11_herds_168 ?_
                        refine lv_topi (fun v65 e65 => ?_)
                        refine lv_ior hx hb dX11_herds_169 ?_
                        refine lv_topi (fun v66 e66 => ?_)
                        refine p_649 cx hw ha0 k_f_X11_161 dX11_herds_170 (fun σ67 H locs eσ67 hw => ?_)
                        have fr := oFr_i fr eσ67 (by decide)
                        refine lv_aload_n hx hb dX11_herds_173 rfl (lv_at hl 0 rfl) ?_
                        refine g_640 cx hw ha0 k_f_X11_9 dX11_herds_174 (fun v68 e68 h68 => ?_)
                        refine lv_sipush (v := 320) hx hb dX11_herds_177 (by decide) ?_
                        refine lv_aload_n hx hb dX11_herds_180 rfl (lv_at hl 0 rfl) ?_
                        refine g_647 cx hw ha0 k_f_X11_105 dX11_herds_181 (fun v69 e69 i69 => ?_)
                        rw [show v69 = (σ_125.1 647 a0) from e69.trans ((kp_i eσ67 (by decide)).trans ((kp_p eσ58).trans rfl))]
                        refine lv_iadd hx hb dX11_herds_184 ?_
                        refine lv_topi (fun v70 e70 => ?_)
                        have i70 : Iv v70 320 325 := iv_add e70 (⟨by decide, by decide⟩ : Iv 320 320 320) i51 (by decide)
                        have x70 : v70.toInt = (σ_125.1 647 a0).toInt + 320 := (ex_add e70 (⟨by decide, by decide⟩ : Iv 320 320 320) i51 (by decide)).trans (Int.add_comm _ _)
                        refine lv_aload_n hx hb dX11_herds_185 rfl (lv_at hl 0 rfl) ?_
                        refine g_666 cx hw ha0 k_f_X11_46 dX11_herds_186 (fun v71 e71 h71 => ?_)
                        rw [show v71 = v54 from Option.some.inj (e71.symm.trans (((kr_i eσ67).trans ((kr_p eσ58).trans e54))))]
                        refine lv_iconst (v := 3) hx hb dX11_herds_189 (by decide) ?_
                        refine lv_iload_n hx hb dX11_herds_190 rfl (lv_at hl 3 rfl) ?_
                        refine lv_imul hx hb dX11_herds_191 ?_
                        refine lv_topi (fun v72 e72 => ?_)
                        have i72 : Iv v72 0 15 := iv_mul e72 (⟨by decide, by decide⟩ : Iv 3 3 3) i50 (by decide)
                        refine o_iald cx hw h54 (by decide) rfl (iv_in i72 (by decide)) dX11_herds_192 (fun v73 e73 b73 => ?_)
                        have i73 : Iv v73 0 63 := b73 (by have q1 := nat_of i72 (by decide); have q2 := ex_mul e72 (⟨by decide, by decide⟩ : Iv 3 3 3) i50 (by decide); have q3 : (3 : Int32).toInt = 3 := (by decide); rw [q3] at q2; omega)
                        refine o_iast cx hw h68 (by decide) rfl (iv_in i70 (by decide)) (fun _ _ => iv_w i73 (by decide)) dX11_herds_193 (fun σ74 H locs eσ74 hw => ?_)
                        have fr := oFr_p fr eσ74 h68 (by decide)
                        refine lv_aload_n hx hb dX11_herds_194 rfl (lv_at hl 0 rfl) ?_
                        refine g_640 cx hw ha0 k_f_X11_9 dX11_herds_195 (fun v75 e75 h75 => ?_)
                        rw [show v75 = v68 from Option.some.inj (e75.symm.trans (((kr_p eσ74).trans e68)))]
                        refine lv_sipush (v := 326) hx hb dX11_herds_198 (by decide) ?_
                        refine lv_aload_n hx hb dX11_herds_201 rfl (lv_at hl 0 rfl) ?_
                        refine g_647 cx hw ha0 k_f_X11_105 dX11_herds_202 (fun v76 e76 i76 => ?_)
                        rw [show v76 = (σ_125.1 647 a0) from e76.trans ((kp_p eσ74).trans ((kp_i eσ67 (by decide)).trans ((kp_p eσ58).trans rfl)))]
                        refine lv_iadd hx hb dX11_herds_205 ?_
                        refine lv_topi (fun v77 e77 => ?_)
                        have i77 : Iv v77 326 331 := iv_add e77 (⟨by decide, by decide⟩ : Iv 326 326 326) i51 (by decide)
                        have x77 : v77.toInt = (σ_125.1 647 a0).toInt + 326 := (ex_add e77 (⟨by decide, by decide⟩ : Iv 326 326 326) i51 (by decide)).trans (Int.add_comm _ _)
                        refine lv_iconst (v := 1) hx hb dX11_herds_206 (by decide) ?_
                        refine o_iast cx hw h68 (by decide) rfl (iv_in i77 (by decide)) (fun _ _ => iv_w (⟨by decide, by decide⟩ : Iv 1 1 1) (by decide)) dX11_herds_207 (fun σ78 H locs eσ78 hw => ?_)
                        have fr := oFr_p fr eσ78 h68 (by decide)
                        refine lv_aload_n hx hb dX11_herds_208 rfl (lv_at hl 0 rfl) ?_
                        refine g_640 cx hw ha0 k_f_X11_9 dX11_herds_209 (fun v79 e79 h79 => ?_)
                        rw [show v79 = v68 from Option.some.inj (e79.symm.trans (((kr_p eσ78).trans ((kr_p eσ74).trans e68))))]
                        refine lv_aload_n hx hb dX11_herds_212 rfl (lv_at hl 0 rfl) ?_
                        refine g_647 cx hw ha0 k_f_X11_105 dX11_herds_213 (fun v80 e80 i80 => ?_)
                        rw [show v80 = (σ_125.1 647 a0) from e80.trans ((kp_p eσ78).trans ((kp_p eσ74).trans ((kp_i eσ67 (by decide)).trans ((kp_p eσ58).trans rfl))))]
                        refine o_cv hw (oRunS cx hA hw q_X11_tread k_m_X11_178 (As := [.ref v68, .int (σ_125.1 647 a0)]) (c_X11_tread v68 h68 (σ_125.1 647 a0) (iv_w i51 (by decide))) (by decide) rfl hl.1 rfl (Nat.le_of_ble_eq_true rfl) dX11_herds_216 (by decide)) (fun σ81 H locs hp hw => ?_)
                        have p82_0 := hp
                        have fr := oFr_tr fr p82_0 (by decide)
                        refine lv_aload_n hx hb dX11_herds_219 rfl (lv_at hl 0 rfl) ?_
                        refine lv_dup hx hb dX11_herds_220 rfl ?_
                        refine g_647 cx hw ha0 k_f_X11_105 dX11_herds_221 (fun v83 e83 i83 => ?_)
                        rw [show v83 = (σ_125.1 647 a0) from e83.trans ((kp_c p82_0 (by decide)).trans ((kp_p eσ78).trans ((kp_p eσ74).trans ((kp_i eσ67 (by decide)).trans ((kp_p eσ58).trans rfl)))))]
                        refine lv_iconst (v := 1) hx hb dX11_herds_224 (by decide) ?_
                        refine lv_iadd hx hb dX11_herds_225 ?_
                        refine lv_topi (fun v84 e84 => ?_)
                        have i84 : Iv v84 1 6 := iv_add e84 i51 (⟨by decide, by decide⟩ : Iv 1 1 1) (by decide)
                        have x84 : v84.toInt = (σ_125.1 647 a0).toInt + 1 := ex_add e84 i51 (⟨by decide, by decide⟩ : Iv 1 1 1) (by decide)
                        refine p_647 cx hw ha0 (iv_w i84 (by decide)) k_f_X11_105 dX11_herds_226 (fun σ85 H locs eσ85 hw => ?_)
                        have fr := oFr_i fr eσ85 (by decide)
                        obtain ⟨v86, e86⟩ : ∃ y : Int32, y = j125_3 + 1 := ⟨_, rfl⟩
                        have i86 : Iv v86 1 6 := iv_add e86 i50 (⟨by decide, by decide⟩ : Iv 1 1 1) (by decide)
                        have x86 : v86.toInt = j125_3.toInt + 1 := ex_add e86 i50 (⟨by decide, by decide⟩ : Iv 1 1 1) (by decide)
                        refine lv_iinc (v := v86) (lv' := [(3, .int v86), (0, .ref a0), (1, .int v26), (2, .int v30)]) hx hb dX11_herds_229 hl (k := 3) rfl (by rw [e86]; rfl) (by decide) rfl (fun ls hl => ?_)
                        refine lv_goto (tgt := 125) hx hb dX11_herds_232 (by decide) ?_
                        exact ih_125 v86 (iv_w i86 (by decide)) σ85 _ _ hw fr (kn_iv ((kp_s eσ85)) (iv_w i84 (by decide))) (kn_iv (((kp_i eσ85 (by decide)).trans ((kp_c p82_0 (by decide)).trans ((kp_p eσ78).trans ((kp_p eσ74).trans ((kp_i eσ67 (by decide)).trans ((kp_p eσ58).trans rfl))))))) (iv_w f125_655_a0 (by decide))) (kn_iv (((kp_i eσ85 (by decide)).trans ((kp_c p82_0 (by decide)).trans ((kp_p eσ78).trans ((kp_p eσ74).trans ((kp_i eσ67 (by decide)).trans ((kp_p eσ58).trans rfl))))))) (iv_w f125_660_a0 (by decide))) (kn_iv (((kp_i eσ85 (by decide)).trans ((kp_c p82_0 (by decide)).trans ((kp_p eσ78).trans ((kp_p eσ74).trans ((kp_i eσ67 (by decide)).trans ((kp_p eσ58).trans rfl))))))) (iv_w f125_661_a0 (by decide))) (kn_iv (((kp_i eσ85 (by decide)).trans ((kp_c p82_0 (by decide)).trans ((kp_p eσ78).trans ((kp_p eσ74).trans ((kp_i eσ67 (by decide)).trans ((kp_p eσ58).trans rfl))))))) (iv_w f125_662_a0 (by decide))) (kn_iv (((kp_i eσ85 (by decide)).trans ((kp_c p82_0 (by decide)).trans ((kp_p eσ78).trans ((kp_p eσ74).trans ((kp_i eσ67 (by decide)).trans ((kp_p eσ58).trans rfl))))))) (iv_w f125_663_a0 (by decide))) (((kr_i eσ85).trans ((kr_c p82_0 (by decide)).trans ((kr_p eσ78).trans ((kr_p eσ74).trans ((kr_i eσ67).trans ((kr_p eσ58).trans r125_659))))))) (ms_up x86 (by decide) (iv_w (a' := 0) (b' := 6) i86 (by decide)).2 hn_125) (by have := (i26).1; have := (i26).2; have := (i33).1; have := (i33).2; have := (i86).1; have := (i86).2; have := (f125_660_a0).1; have := (f125_660_a0).2; have := (f125_661_a0).1; have := (f125_661_a0).2; have := (f125_655_a0).1; have := (f125_655_a0).2; have := (f125_663_a0).1; have := (f125_663_a0).2; have := (f125_662_a0).1; have := (f125_662_a0).2; have := (i84).1; have := (i84).2; have := (i4).1; have := (i4).2; have := (i5).1; have := (i5).2; have := (i11).1; have := (i11).2; have := (p7_3).1; have := (p7_3).2; have := (p7_4).1; have := (p7_4).2; have := (p7_5).1; have := (p7_5).2; have := (i16).1; have := (i16).2; have := (i18).1; have := (i18).2; have := (i20).1; have := (i20).2; have := (i21).1; have := (i21).2; have := (i24).1; have := (i24).2; have := (i43).1; have := (i43).2; have := (i37).1; have := (i37).2; have := (i42).1; have := (i42).2; have := (i50).1; have := (i50).2; have := (i51).1; have := (i51).2; have := (i55).1; have := (i55).2; have := (i56).1; have := (i56).2; have := (i61).1; have := (i61).2; have := (i62).1; have := (i62).2; have := (i70).1; have := (i70).2; have := (i72).1; have := (i72).2; have := (i73).1; have := (i73).2; have := (i77).1; have := (i77).2; have : (σ85.1 660 a0).toInt = ((σ_125.1 660 a0) : Int32).toInt := congrArg Int32.toInt (show σ85.1 660 a0 = (σ_125.1 660 a0) from ((kp_i eσ85 (by decide)).trans ((kp_c p82_0 (by decide)).trans ((kp_p eσ78).trans ((kp_p eσ74).trans ((kp_i eσ67 (by decide)).trans ((kp_p eσ58).trans rfl))))))); have : (σ85.1 661 a0).toInt = ((σ_125.1 661 a0) : Int32).toInt := congrArg Int32.toInt (show σ85.1 661 a0 = (σ_125.1 661 a0) from ((kp_i eσ85 (by decide)).trans ((kp_c p82_0 (by decide)).trans ((kp_p eσ78).trans ((kp_p eσ74).trans ((kp_i eσ67 (by decide)).trans ((kp_p eσ58).trans rfl))))))); have : (σ85.1 655 a0).toInt = ((σ_125.1 655 a0) : Int32).toInt := congrArg Int32.toInt (show σ85.1 655 a0 = (σ_125.1 655 a0) from ((kp_i eσ85 (by decide)).trans ((kp_c p82_0 (by decide)).trans ((kp_p eσ78).trans ((kp_p eσ74).trans ((kp_i eσ67 (by decide)).trans ((kp_p eσ58).trans rfl))))))); have : (σ85.1 663 a0).toInt = ((σ_125.1 663 a0) : Int32).toInt := congrArg Int32.toInt (show σ85.1 663 a0 = (σ_125.1 663 a0) from ((kp_i eσ85 (by decide)).trans ((kp_c p82_0 (by decide)).trans ((kp_p eσ78).trans ((kp_p eσ74).trans ((kp_i eσ67 (by decide)).trans ((kp_p eσ58).trans rfl))))))); have : (σ85.1 662 a0).toInt = ((σ_125.1 662 a0) : Int32).toInt := congrArg Int32.toInt (show σ85.1 662 a0 = (σ_125.1 662 a0) from ((kp_i eσ85 (by decide)).trans ((kp_c p82_0 (by decide)).trans ((kp_p eσ78).trans ((kp_p eσ74).trans ((kp_i eσ67 (by decide)).trans ((kp_p eσ58).trans rfl))))))); have : (σ85.1 649 a0).toInt = (v66 : Int32).toInt := congrArg Int32.toInt (show σ85.1 649 a0 = v66 from ((kp_i eσ85 (by decide)).trans ((kp_c p82_0 (by decide)).trans ((kp_p eσ78).trans ((kp_p eσ74).trans (kp_s eσ67)))))); have : (σ85.1 647 a0).toInt = (v84 : Int32).toInt := congrArg Int32.toInt (show σ85.1 647 a0 = v84 from (kp_s eσ85)); have : (v18 : Int32).toInt ≠ (6 : Int32).toInt := fun q => c19 (Int32.toInt_inj.mp q); have : (v30 : Int32).toInt = (0 : Int32).toInt := congrArg Int32.toInt c32; have : ((σ_48.1 660 a0) : Int32).toInt ≤ ((σ29.1 662 a0) : Int32).toInt := iv_le.mp c36; have : (j125_3 : Int32).toInt < (v26 : Int32).toInt := iv_lt.mp (iv_nle c44); have : (0 : Int32).toInt = 0 := (by decide); have : (59 : Int32).toInt = 59 := (by decide); have : (6 : Int32).toInt = 6 := (by decide); have : (76 : Int32).toInt = 76 := (by decide); omega) _ (lv_sub hl [1, 2, 3, 0] rfl)
                  exact J_125 _ 0 (iv_w (⟨by decide, by decide⟩ : Iv 0 0 0) (by decide)) σ29 _ _ hw fr (kn_iv (((kp_c p30_0 (by decide)).trans ((kp_c p23_0 (by decide)).trans e17.symm))) (iv_w i17 (by decide))) (kn_iv (((kp_c p30_0 (by decide)).trans ((kp_c p23_0 (by decide)).trans rfl))) (iv_w f48_655_a0 (by decide))) (kn_iv (((kp_c p30_0 (by decide)).trans ((kp_c p23_0 (by decide)).trans rfl))) (iv_w f48_660_a0 (by decide))) (kn_iv (((kp_c p30_0 (by decide)).trans ((kp_c p23_0 (by decide)).trans rfl))) (iv_w f48_661_a0 (by decide))) (kn_iv (rfl) (iv_w i37 (by decide))) (kn_iv (((kp_c p30_0 (by decide)).trans rfl)) (iv_w i43 (by decide))) (((kr_c p30_0 (by decide)).trans ((kr_c p23_0 (by decide)).trans r48_659))) (Nat.lt_succ_self _) (by have := (i26).1; have := (i26).2; have := (i33).1; have := (i33).2; have := (f48_660_a0).1; have := (f48_660_a0).2; have := (f48_661_a0).1; have := (f48_661_a0).2; have := (f48_655_a0).1; have := (f48_655_a0).2; have := (i17).1; have := (i17).2; have := (i43).1; have := (i43).2; have := (i37).1; have := (i37).2; have := (i4).1; have := (i4).2; have := (i5).1; have := (i5).2; have := (i11).1; have := (i11).2; have := (p7_3).1; have := (p7_3).2; have := (p7_4).1; have := (p7_4).2; have := (p7_5).1; have := (p7_5).2; have := (i16).1; have := (i16).2; have := (i18).1; have := (i18).2; have := (i20).1; have := (i20).2; have := (i21).1; have := (i21).2; have := (i24).1; have := (i24).2; have := (i42).1; have := (i42).2; have : (σ29.1 660 a0).toInt = ((σ_48.1 660 a0) : Int32).toInt := congrArg Int32.toInt (show σ29.1 660 a0 = (σ_48.1 660 a0) from ((kp_c p30_0 (by decide)).trans ((kp_c p23_0 (by decide)).trans rfl))); have : (σ29.1 661 a0).toInt = ((σ_48.1 661 a0) : Int32).toInt := congrArg Int32.toInt (show σ29.1 661 a0 = (σ_48.1 661 a0) from ((kp_c p30_0 (by decide)).trans ((kp_c p23_0 (by decide)).trans rfl))); have : (σ29.1 655 a0).toInt = ((σ_48.1 655 a0) : Int32).toInt := congrArg Int32.toInt (show σ29.1 655 a0 = (σ_48.1 655 a0) from ((kp_c p30_0 (by decide)).trans ((kp_c p23_0 (by decide)).trans rfl))); have : (σ29.1 647 a0).toInt = (v17 : Int32).toInt := congrArg Int32.toInt (show σ29.1 647 a0 = v17 from ((kp_c p30_0 (by decide)).trans ((kp_c p23_0 (by decide)).trans e17.symm))); have : (σ29.1 663 a0).toInt = ((σ22.1 663 a0) : Int32).toInt := congrArg Int32.toInt (show σ29.1 663 a0 = (σ22.1 663 a0) from ((kp_c p30_0 (by decide)).trans rfl)); have : (v18 : Int32).toInt ≠ (6 : Int32).toInt := fun q => c19 (Int32.toInt_inj.mp q); have : (v30 : Int32).toInt = (0 : Int32).toInt := congrArg Int32.toInt c32; have : ((σ_48.1 660 a0) : Int32).toInt ≤ ((σ29.1 662 a0) : Int32).toInt := iv_le.mp c36; have : (0 : Int32).toInt = 0 := (by decide); have : (59 : Int32).toInt = 59 := (by decide); have : (6 : Int32).toInt = 6 := (by decide); have : (76 : Int32).toInt = 76 := (by decide); omega) _ (lv_sub hl [3, 2, 1, 0] rfl)
                · --
                  have i87 : Iv (σ22.1 663 a0) 0 200 := (fun h => (by have := z_ti h; have := (i26).1; have := (i26).2; have := (i33).1; have := (i33).2; have := (p40_1).1; have := (p40_1).2; have := (f48_660_a0).1; have := (f48_660_a0).2; have := (f48_661_a0).1; have := (f48_661_a0).2; have := (f48_655_a0).1; have := (f48_655_a0).2; have := (i17).1; have := (i17).2; have := (i25).1; have := (i25).2; have := (i37).1; have := (i37).2; have := (i4).1; have := (i4).2; have := (i5).1; have := (i5).2; have := (i11).1; have := (i11).2; have := (p7_3).1; have := (p7_3).2; have := (p7_4).1; have := (p7_4).2; have := (p7_5).1; have := (p7_5).2; have := (i16).1; have := (i16).2; have := (i18).1; have := (i18).2; have := (i20).1; have := (i20).2; have := (i21).1; have := (i21).2; have := (i24).1; have := (i24).2; have : (σ29.1 660 a0).toInt = ((σ_48.1 660 a0) : Int32).toInt := congrArg Int32.toInt (show σ29.1 660 a0 = (σ_48.1 660 a0) from ((kp_c p30_0 (by decide)).trans ((kp_c p23_0 (by decide)).trans rfl))); have : (σ29.1 661 a0).toInt = ((σ_48.1 661 a0) : Int32).toInt := congrArg Int32.toInt (show σ29.1 661 a0 = (σ_48.1 661 a0) from ((kp_c p30_0 (by decide)).trans ((kp_c p23_0 (by decide)).trans rfl))); have : (σ29.1 655 a0).toInt = ((σ_48.1 655 a0) : Int32).toInt := congrArg Int32.toInt (show σ29.1 655 a0 = (σ_48.1 655 a0) from ((kp_c p30_0 (by decide)).trans ((kp_c p23_0 (by decide)).trans rfl))); have : (σ29.1 647 a0).toInt = (v17 : Int32).toInt := congrArg Int32.toInt (show σ29.1 647 a0 = v17 from ((kp_c p30_0 (by decide)).trans ((kp_c p23_0 (by decide)).trans e17.symm))); have : (σ29.1 663 a0).toInt = ((σ22.1 663 a0) : Int32).toInt := congrArg Int32.toInt (show σ29.1 663 a0 = (σ22.1 663 a0) from ((kp_c p30_0 (by decide)).trans rfl)); have : (v18 : Int32).toInt ≠ (6 : Int32).toInt := fun q => c19 (Int32.toInt_inj.mp q); have : (v30 : Int32).toInt = (0 : Int32).toInt := congrArg Int32.toInt c32; have : ((σ_48.1 660 a0) : Int32).toInt ≤ ((σ29.1 662 a0) : Int32).toInt := iv_le.mp c36; have : (0 : Int32).toInt = 0 := (by decide); have : (59 : Int32).toInt = 59 := (by decide); have : (6 : Int32).toInt = 6 := (by decide); have : (76 : Int32).toInt = 76 := (by decide); exact ⟨by omega, by omega⟩)) c41
                  have i88 : Iv v40 0 0 := iv_eq1 c41 p40_1 (⟨by decide, by decide⟩ : Iv 0 0 0) (by decide)
                  refine lv_iconst (v := (-1)) hx hb dX11_herds_116 (by decide) ?_
                  refine lv_aload_n hx hb dX11_herds_117 rfl (lv_at hl 2 rfl) ?_
                  refine g_663 cx hw ha0 k_f_X11_123 dX11_herds_118 (fun v89 e89 i89 => ?_)
                  rw [show v89 = (σ22.1 663 a0) from e89.trans ((kp_c p30_0 (by decide)).trans rfl)]
                  refine lv_isub hx hb dX11_herds_121 ?_
                  refine lv_topi (fun v90 e90 => ?_)
                  have i90 : Iv v90 (-201) (-1) := iv_sub e90 (⟨by decide, by decide⟩ : Iv (-1) (-1) (-1)) i87 (by decide)
                  have x90 : v90.toInt = (-1) - (σ22.1 663 a0).toInt := by have q9 := ex_sub e90 (⟨by decide, by decide⟩ : Iv (-1) (-1) (-1)) i87 (by decide); rw [show ((-1) : Int32).toInt = (-1) from by decide] at q9; exact q9
                  rw [← hQ]
                  exact o_ri cx rx hw dX11_herds_122 ⟨fr, (iv_w i90 (by decide)), (kn_iv (((kp_c p30_0 (by decide)).trans ((kp_c p23_0 (by decide)).trans rfl))) (iv_w f48_655_a0 (by decide)))⟩
              · --
                have i91 : Iv (σ29.1 662 a0) 0 79 := iv_lt1 (iv_nle c36) i31 f48_660_a0 (by decide)
                refine lv_aload_n hx hb dX11_herds_101 rfl (lv_at hl 2 rfl) ?_
                refine lv_aload_n hx hb dX11_herds_102 rfl (lv_at hl 2 rfl) ?_
                refine g_662 cx hw ha0 k_f_X11_120 dX11_herds_103 (fun v92 e92 i92 => ?_)
                rw [show v92 = (σ29.1 662 a0) from e92.trans rfl]
                have z93 : (σ29.1 663 a0).toInt = ((σ22.1 663 a0) : Int32).toInt := congrArg Int32.toInt (show σ29.1 663 a0 = (σ22.1 663 a0) from ((kp_c p30_0 (by decide)).trans rfl))
                refine o_cv hw (oRunV cx hA hw q_X11_fault k_m_X11_138 rfl ha0 (by decide) (As := [.int (σ29.1 662 a0)]) (c_X11_fault a0 ha0 (σ29.1 662 a0) (iv_w i91 (by decide))) (by decide) rfl hl.1 rfl (Nat.le_of_ble_eq_true rfl) dX11_herds_106 (by decide)) (fun σ94 H locs hp hw => ?_)
                obtain ⟨p95_0, p95_1⟩ := hp
                have fr := oFr_tr fr p95_0 (by decide)
                have i96 : Iv (σ94.1 663 a0) (-1) 200 := o_fb (j := 663) hw ha0 rfl
                have i97 : Iv (σ94.1 663 a0) 0 200 := (by have := (i26).1; have := (i26).2; have := (i33).1; have := (i33).2; have := (f48_660_a0).1; have := (f48_660_a0).2; have := (f48_661_a0).1; have := (f48_661_a0).2; have := (f48_655_a0).1; have := (f48_655_a0).2; have := (i17).1; have := (i17).2; have := (i91).1; have := (i91).2; have := (i96).1; have := (i96).2; have := (i4).1; have := (i4).2; have := (i5).1; have := (i5).2; have := (i11).1; have := (i11).2; have := (p7_3).1; have := (p7_3).2; have := (p7_4).1; have := (p7_4).2; have := (p7_5).1; have := (p7_5).2; have := (i16).1; have := (i16).2; have := (i18).1; have := (i18).2; have := (i20).1; have := (i20).2; have := (i21).1; have := (i21).2; have := (i24).1; have := (i24).2; have := (i25).1; have := (i25).2; have : (σ94.1 660 a0).toInt = ((σ_48.1 660 a0) : Int32).toInt := congrArg Int32.toInt (show σ94.1 660 a0 = (σ_48.1 660 a0) from ((kp_c p95_0 (by decide)).trans ((kp_c p30_0 (by decide)).trans ((kp_c p23_0 (by decide)).trans rfl)))); have : (σ94.1 661 a0).toInt = ((σ_48.1 661 a0) : Int32).toInt := congrArg Int32.toInt (show σ94.1 661 a0 = (σ_48.1 661 a0) from ((kp_c p95_0 (by decide)).trans ((kp_c p30_0 (by decide)).trans ((kp_c p23_0 (by decide)).trans rfl)))); have : (σ94.1 655 a0).toInt = ((σ_48.1 655 a0) : Int32).toInt := congrArg Int32.toInt (show σ94.1 655 a0 = (σ_48.1 655 a0) from ((kp_c p95_0 (by decide)).trans ((kp_c p30_0 (by decide)).trans ((kp_c p23_0 (by decide)).trans rfl)))); have : (σ94.1 647 a0).toInt = (v17 : Int32).toInt := congrArg Int32.toInt (show σ94.1 647 a0 = v17 from ((kp_c p95_0 (by decide)).trans ((kp_c p30_0 (by decide)).trans ((kp_c p23_0 (by decide)).trans e17.symm)))); have : (σ94.1 662 a0).toInt = ((σ29.1 662 a0) : Int32).toInt := congrArg Int32.toInt (show σ94.1 662 a0 = (σ29.1 662 a0) from ((kp_c p95_0 (by decide)).trans rfl)); have : (v18 : Int32).toInt ≠ (6 : Int32).toInt := fun q => c19 (Int32.toInt_inj.mp q); have : (v30 : Int32).toInt = (0 : Int32).toInt := congrArg Int32.toInt c32; have : ((σ29.1 662 a0) : Int32).toInt < ((σ_48.1 660 a0) : Int32).toInt := iv_lt.mp (iv_nle c36); have : (0 : Int32).toInt = 0 := (by decide); have : (59 : Int32).toInt = 59 := (by decide); have : (6 : Int32).toInt = 6 := (by decide); have : (76 : Int32).toInt = 76 := (by decide); exact ⟨by omega, by omega⟩)
                refine lv_aload_n hx hb dX11_herds_109 rfl (lv_at hl 2 rfl) ?_
                refine o_ci hw (oRunV cx hA hw q_X11_fine k_m_X11_126 rfl ha0 (by decide) (As := []) (c_X11_fine a0 ha0) (by decide) rfl hl.1 rfl (Nat.le_of_ble_eq_true rfl) dX11_herds_110 (by decide)) (fun v99 σ98 H locs hp hw => ?_)
                obtain ⟨p99_0, p99_1, p99_2⟩ := hp
                rw [p99_0] at hw
                have i100 : Iv v99 0 0 := (by have := (i26).1; have := (i26).2; have := (i33).1; have := (i33).2; have := (p99_1).1; have := (p99_1).2; have := (f48_660_a0).1; have := (f48_660_a0).2; have := (f48_661_a0).1; have := (f48_661_a0).2; have := (f48_655_a0).1; have := (f48_655_a0).2; have := (i17).1; have := (i17).2; have := (i91).1; have := (i91).2; have := (i97).1; have := (i97).2; have := (i4).1; have := (i4).2; have := (i5).1; have := (i5).2; have := (i11).1; have := (i11).2; have := (p7_3).1; have := (p7_3).2; have := (p7_4).1; have := (p7_4).2; have := (p7_5).1; have := (p7_5).2; have := (i16).1; have := (i16).2; have := (i18).1; have := (i18).2; have := (i20).1; have := (i20).2; have := (i21).1; have := (i21).2; have := (i24).1; have := (i24).2; have := (i25).1; have := (i25).2; have : (σ94.1 660 a0).toInt = ((σ_48.1 660 a0) : Int32).toInt := congrArg Int32.toInt (show σ94.1 660 a0 = (σ_48.1 660 a0) from ((kp_c p95_0 (by decide)).trans ((kp_c p30_0 (by decide)).trans ((kp_c p23_0 (by decide)).trans rfl)))); have : (σ94.1 661 a0).toInt = ((σ_48.1 661 a0) : Int32).toInt := congrArg Int32.toInt (show σ94.1 661 a0 = (σ_48.1 661 a0) from ((kp_c p95_0 (by decide)).trans ((kp_c p30_0 (by decide)).trans ((kp_c p23_0 (by decide)).trans rfl)))); have : (σ94.1 655 a0).toInt = ((σ_48.1 655 a0) : Int32).toInt := congrArg Int32.toInt (show σ94.1 655 a0 = (σ_48.1 655 a0) from ((kp_c p95_0 (by decide)).trans ((kp_c p30_0 (by decide)).trans ((kp_c p23_0 (by decide)).trans rfl)))); have : (σ94.1 647 a0).toInt = (v17 : Int32).toInt := congrArg Int32.toInt (show σ94.1 647 a0 = v17 from ((kp_c p95_0 (by decide)).trans ((kp_c p30_0 (by decide)).trans ((kp_c p23_0 (by decide)).trans e17.symm)))); have : (σ94.1 662 a0).toInt = ((σ29.1 662 a0) : Int32).toInt := congrArg Int32.toInt (show σ94.1 662 a0 = (σ29.1 662 a0) from ((kp_c p95_0 (by decide)).trans rfl)); have : (v18 : Int32).toInt ≠ (6 : Int32).toInt := fun q => c19 (Int32.toInt_inj.mp q); have : (v30 : Int32).toInt = (0 : Int32).toInt := congrArg Int32.toInt c32; have : ((σ29.1 662 a0) : Int32).toInt < ((σ_48.1 660 a0) : Int32).toInt := iv_lt.mp (iv_nle c36); have : (0 : Int32).toInt = 0 := (by decide); have : (59 : Int32).toInt = 59 := (by decide); have : (6 : Int32).toInt = 6 := (by decide); have : (76 : Int32).toInt = 76 := (by decide); exact ⟨by omega, by omega⟩)
                refine lv_if_ne (tgt := 123) hx hb dX11_herds_113 (by decide) (fun c101 => ?_) (fun c101 => ?_)
                · --
                  exact iv_no (iv_ne1 c101 i100 (⟨by decide, by decide⟩ : Iv 0 0 0) (by decide)) (by decide)
                · --
                  refine lv_iconst (v := (-1)) hx hb dX11_herds_116 (by decide) ?_
                  refine lv_aload_n hx hb dX11_herds_117 rfl (lv_at hl 2 rfl) ?_
                  refine g_663 cx hw ha0 k_f_X11_123 dX11_herds_118 (fun v102 e102 i102 => ?_)
                  rw [show v102 = (σ94.1 663 a0) from e102.trans rfl]
                  refine lv_isub hx hb dX11_herds_121 ?_
                  refine lv_topi (fun v103 e103 => ?_)
                  have i103 : Iv v103 (-201) (-1) := iv_sub e103 (⟨by decide, by decide⟩ : Iv (-1) (-1) (-1)) i97 (by decide)
                  have x103 : v103.toInt = (-1) - (σ94.1 663 a0).toInt := by have q9 := ex_sub e103 (⟨by decide, by decide⟩ : Iv (-1) (-1) (-1)) i97 (by decide); rw [show ((-1) : Int32).toInt = (-1) from by decide] at q9; exact q9
                  rw [← hQ]
                  exact o_ri cx rx hw dX11_herds_122 ⟨fr, (iv_w i103 (by decide)), (kn_iv (((kp_c p95_0 (by decide)).trans ((kp_c p30_0 (by decide)).trans ((kp_c p23_0 (by decide)).trans rfl)))) (iv_w f48_655_a0 (by decide)))⟩
            · --
              have i104 : Iv v30 1 1 := iv_ne1 c32 p30_1 (⟨by decide, by decide⟩ : Iv 0 0 0) (by decide)
              have i105 : Iv (σ29.1 662 a0) 1 80 := (fun h => kn_iv2 (rfl) (p30_2 h)) c32
              refine lv_aload_n hx hb dX11_herds_41 rfl (lv_at hl 2 rfl) ?_
              have z106 : (σ29.1 663 a0).toInt = ((σ22.1 663 a0) : Int32).toInt := congrArg Int32.toInt (show σ29.1 663 a0 = (σ22.1 663 a0) from ((kp_c p30_0 (by decide)).trans rfl))
              refine o_ci hw (oRunV cx hA hw q_X11_fine k_m_X11_126 rfl ha0 (by decide) (As := []) (c_X11_fine a0 ha0) (by decide) rfl hl.1 rfl (Nat.le_of_ble_eq_true rfl) dX11_herds_42 (by decide)) (fun v108 σ107 H locs hp hw => ?_)
              obtain ⟨p108_0, p108_1, p108_2⟩ := hp
              rw [p108_0] at hw
              refine lv_if_eq (tgt := 90) hx hb dX11_herds_45 (by decide) (fun c109 => ?_) (fun c109 => ?_)
              · --
                have i110 : Iv (σ22.1 663 a0) 0 200 := (fun h => (by have := z_ti h; have := (i26).1; have := (i26).2; have := (i104).1; have := (i104).2; have := (p108_1).1; have := (p108_1).2; have := (f48_660_a0).1; have := (f48_660_a0).2; have := (f48_661_a0).1; have := (f48_661_a0).2; have := (f48_655_a0).1; have := (f48_655_a0).2; have := (i17).1; have := (i17).2; have := (i25).1; have := (i25).2; have := (i105).1; have := (i105).2; have := (i4).1; have := (i4).2; have := (i5).1; have := (i5).2; have := (i11).1; have := (i11).2; have := (p7_3).1; have := (p7_3).2; have := (p7_4).1; have := (p7_4).2; have := (p7_5).1; have := (p7_5).2; have := (i16).1; have := (i16).2; have := (i18).1; have := (i18).2; have := (i20).1; have := (i20).2; have := (i21).1; have := (i21).2; have := (i24).1; have := (i24).2; have : (σ29.1 660 a0).toInt = ((σ_48.1 660 a0) : Int32).toInt := congrArg Int32.toInt (show σ29.1 660 a0 = (σ_48.1 660 a0) from ((kp_c p30_0 (by decide)).trans ((kp_c p23_0 (by decide)).trans rfl))); have : (σ29.1 661 a0).toInt = ((σ_48.1 661 a0) : Int32).toInt := congrArg Int32.toInt (show σ29.1 661 a0 = (σ_48.1 661 a0) from ((kp_c p30_0 (by decide)).trans ((kp_c p23_0 (by decide)).trans rfl))); have : (σ29.1 655 a0).toInt = ((σ_48.1 655 a0) : Int32).toInt := congrArg Int32.toInt (show σ29.1 655 a0 = (σ_48.1 655 a0) from ((kp_c p30_0 (by decide)).trans ((kp_c p23_0 (by decide)).trans rfl))); have : (σ29.1 647 a0).toInt = (v17 : Int32).toInt := congrArg Int32.toInt (show σ29.1 647 a0 = v17 from ((kp_c p30_0 (by decide)).trans ((kp_c p23_0 (by decide)).trans e17.symm))); have : (σ29.1 663 a0).toInt = ((σ22.1 663 a0) : Int32).toInt := congrArg Int32.toInt (show σ29.1 663 a0 = (σ22.1 663 a0) from ((kp_c p30_0 (by decide)).trans rfl)); have : (v18 : Int32).toInt ≠ (6 : Int32).toInt := fun q => c19 (Int32.toInt_inj.mp q); have : (59 : Int32).toInt = 59 := (by decide); have : (6 : Int32).toInt = 6 := (by decide); have : (76 : Int32).toInt = 76 := (by decide); exact ⟨by omega, by omega⟩)) c109
                have i111 : Iv v108 0 0 := iv_eq1 c109 p108_1 (⟨by decide, by decide⟩ : Iv 0 0 0) (by decide)
                refine lv_aload_n hx hb dX11_herds_90 rfl (lv_at hl 2 rfl) ?_
                refine g_662 cx hw ha0 k_f_X11_120 dX11_herds_91 (fun v112 e112 i112 => ?_)
                rw [show v112 = (σ29.1 662 a0) from e112.trans rfl]
                refine lv_aload_n hx hb dX11_herds_94 rfl (lv_at hl 2 rfl) ?_
                refine g_660 cx hw ha0 k_f_X11_114 dX11_herds_95 (fun v113 e113 i113 => ?_)
                rw [show v113 = (σ_48.1 660 a0) from e113.trans ((kp_c p30_0 (by decide)).trans ((kp_c p23_0 (by decide)).trans rfl))]
                refine lv_icmp_ge (tgt := 109) hx hb dX11_herds_98 (by decide) (fun c114 => ?_) (fun c114 => ?_)
                · --
                  refine lv_aload_n hx hb dX11_herds_109 rfl (lv_at hl 2 rfl) ?_
                  have z115 : (σ29.1 663 a0).toInt = ((σ22.1 663 a0) : Int32).toInt := congrArg Int32.toInt (show σ29.1 663 a0 = (σ22.1 663 a0) from ((kp_c p30_0 (by decide)).trans rfl))
                  refine o_ci hw (oRunV cx hA hw q_X11_fine k_m_X11_126 rfl ha0 (by decide) (As := []) (c_X11_fine a0 ha0) (by decide) rfl hl.1 rfl (Nat.le_of_ble_eq_true rfl) dX11_herds_110 (by decide)) (fun v117 σ116 H locs hp hw => ?_)
                  obtain ⟨p117_0, p117_1, p117_2⟩ := hp
                  rw [p117_0] at hw
                  have i118 : Iv v117 0 0 := (by have := (i26).1; have := (i26).2; have := (i104).1; have := (i104).2; have := (p117_1).1; have := (p117_1).2; have := (f48_660_a0).1; have := (f48_660_a0).2; have := (f48_661_a0).1; have := (f48_661_a0).2; have := (f48_655_a0).1; have := (f48_655_a0).2; have := (i17).1; have := (i17).2; have := (i110).1; have := (i110).2; have := (i105).1; have := (i105).2; have := (i4).1; have := (i4).2; have := (i5).1; have := (i5).2; have := (i11).1; have := (i11).2; have := (p7_3).1; have := (p7_3).2; have := (p7_4).1; have := (p7_4).2; have := (p7_5).1; have := (p7_5).2; have := (i16).1; have := (i16).2; have := (i18).1; have := (i18).2; have := (i20).1; have := (i20).2; have := (i21).1; have := (i21).2; have := (i24).1; have := (i24).2; have := (i111).1; have := (i111).2; have : (σ29.1 660 a0).toInt = ((σ_48.1 660 a0) : Int32).toInt := congrArg Int32.toInt (show σ29.1 660 a0 = (σ_48.1 660 a0) from ((kp_c p30_0 (by decide)).trans ((kp_c p23_0 (by decide)).trans rfl))); have : (σ29.1 661 a0).toInt = ((σ_48.1 661 a0) : Int32).toInt := congrArg Int32.toInt (show σ29.1 661 a0 = (σ_48.1 661 a0) from ((kp_c p30_0 (by decide)).trans ((kp_c p23_0 (by decide)).trans rfl))); have : (σ29.1 655 a0).toInt = ((σ_48.1 655 a0) : Int32).toInt := congrArg Int32.toInt (show σ29.1 655 a0 = (σ_48.1 655 a0) from ((kp_c p30_0 (by decide)).trans ((kp_c p23_0 (by decide)).trans rfl))); have : (σ29.1 647 a0).toInt = (v17 : Int32).toInt := congrArg Int32.toInt (show σ29.1 647 a0 = v17 from ((kp_c p30_0 (by decide)).trans ((kp_c p23_0 (by decide)).trans e17.symm))); have : (σ29.1 663 a0).toInt = ((σ22.1 663 a0) : Int32).toInt := congrArg Int32.toInt (show σ29.1 663 a0 = (σ22.1 663 a0) from ((kp_c p30_0 (by decide)).trans rfl)); have : (v18 : Int32).toInt ≠ (6 : Int32).toInt := fun q => c19 (Int32.toInt_inj.mp q); have : (v108 : Int32).toInt = (0 : Int32).toInt := congrArg Int32.toInt c109; have : ((σ_48.1 660 a0) : Int32).toInt ≤ ((σ29.1 662 a0) : Int32).toInt := iv_le.mp c114; have : (0 : Int32).toInt = 0 := (by decide); have : (59 : Int32).toInt = 59 := (by decide); have : (6 : Int32).toInt = 6 := (by decide); have : (76 : Int32).toInt = 76 := (by decide); exact ⟨by omega, by omega⟩)
                  refine lv_if_ne (tgt := 123) hx hb dX11_herds_113 (by decide) (fun c119 => ?_) (fun c119 => ?_)
                  · --
                    exact iv_no (iv_ne1 c119 i118 (⟨by decide, by decide⟩ : Iv 0 0 0) (by decide)) (by decide)
                  · --
                    refine lv_iconst (v := (-1)) hx hb dX11_herds_116 (by decide) ?_
                    refine lv_aload_n hx hb dX11_herds_117 rfl (lv_at hl 2 rfl) ?_
                    refine g_663 cx hw ha0 k_f_X11_123 dX11_herds_118 (fun v120 e120 i120 => ?_)
                    rw [show v120 = (σ22.1 663 a0) from e120.trans ((kp_c p30_0 (by decide)).trans rfl)]
                    refine lv_isub hx hb dX11_herds_121 ?_
                    refine lv_topi (fun v121 e121 => ?_)
                    have i121 : Iv v121 (-201) (-1) := iv_sub e121 (⟨by decide, by decide⟩ : Iv (-1) (-1) (-1)) i110 (by decide)
                    have x121 : v121.toInt = (-1) - (σ22.1 663 a0).toInt := by have q9 := ex_sub e121 (⟨by decide, by decide⟩ : Iv (-1) (-1) (-1)) i110 (by decide); rw [show ((-1) : Int32).toInt = (-1) from by decide] at q9; exact q9
                    rw [← hQ]
                    exact o_ri cx rx hw dX11_herds_122 ⟨fr, (iv_w i121 (by decide)), (kn_iv (((kp_c p30_0 (by decide)).trans ((kp_c p23_0 (by decide)).trans rfl))) (iv_w f48_655_a0 (by decide)))⟩
                · --
                  have i122 : Iv (σ29.1 662 a0) 1 79 := iv_lt1 (iv_nle c114) i105 f48_660_a0 (by decide)
                  have i123 : Iv (σ_48.1 660 a0) 2 80 := iv_lt2 (iv_nle c114) i105 f48_660_a0 (by decide)
                  refine lv_aload_n hx hb dX11_herds_101 rfl (lv_at hl 2 rfl) ?_
                  refine lv_aload_n hx hb dX11_herds_102 rfl (lv_at hl 2 rfl) ?_
                  refine g_662 cx hw ha0 k_f_X11_120 dX11_herds_103 (fun v124 e124 i124 => ?_)
                  rw [show v124 = (σ29.1 662 a0) from e124.trans rfl]
                  have z125 : (σ29.1 663 a0).toInt = ((σ22.1 663 a0) : Int32).toInt := congrArg Int32.toInt (show σ29.1 663 a0 = (σ22.1 663 a0) from ((kp_c p30_0 (by decide)).trans rfl))
                  refine o_cv hw (oRunV cx hA hw q_X11_fault k_m_X11_138 rfl ha0 (by decide) (As := [.int (σ29.1 662 a0)]) (c_X11_fault a0 ha0 (σ29.1 662 a0) (iv_w i122 (by decide))) (by decide) rfl hl.1 rfl (Nat.le_of_ble_eq_true rfl) dX11_herds_106 (by decide)) (fun σ126 H locs hp hw => ?_)
                  obtain ⟨p127_0, p127_1⟩ := hp
                  have fr := oFr_tr fr p127_0 (by decide)
                  have i128 : Iv (σ126.1 663 a0) (-1) 200 := o_fb (j := 663) hw ha0 rfl
                  have i129 : Iv (σ126.1 663 a0) 0 200 := (by have := (i26).1; have := (i26).2; have := (i104).1; have := (i104).2; have := (i123).1; have := (i123).2; have := (f48_661_a0).1; have := (f48_661_a0).2; have := (f48_655_a0).1; have := (f48_655_a0).2; have := (i17).1; have := (i17).2; have := (i122).1; have := (i122).2; have := (i128).1; have := (i128).2; have := (i4).1; have := (i4).2; have := (i5).1; have := (i5).2; have := (i11).1; have := (i11).2; have := (p7_3).1; have := (p7_3).2; have := (p7_4).1; have := (p7_4).2; have := (p7_5).1; have := (p7_5).2; have := (i16).1; have := (i16).2; have := (i18).1; have := (i18).2; have := (i20).1; have := (i20).2; have := (i21).1; have := (i21).2; have := (i24).1; have := (i24).2; have := (i110).1; have := (i110).2; have := (i111).1; have := (i111).2; have : (σ126.1 660 a0).toInt = ((σ_48.1 660 a0) : Int32).toInt := congrArg Int32.toInt (show σ126.1 660 a0 = (σ_48.1 660 a0) from ((kp_c p127_0 (by decide)).trans ((kp_c p30_0 (by decide)).trans ((kp_c p23_0 (by decide)).trans rfl)))); have : (σ126.1 661 a0).toInt = ((σ_48.1 661 a0) : Int32).toInt := congrArg Int32.toInt (show σ126.1 661 a0 = (σ_48.1 661 a0) from ((kp_c p127_0 (by decide)).trans ((kp_c p30_0 (by decide)).trans ((kp_c p23_0 (by decide)).trans rfl)))); have : (σ126.1 655 a0).toInt = ((σ_48.1 655 a0) : Int32).toInt := congrArg Int32.toInt (show σ126.1 655 a0 = (σ_48.1 655 a0) from ((kp_c p127_0 (by decide)).trans ((kp_c p30_0 (by decide)).trans ((kp_c p23_0 (by decide)).trans rfl)))); have : (σ126.1 647 a0).toInt = (v17 : Int32).toInt := congrArg Int32.toInt (show σ126.1 647 a0 = v17 from ((kp_c p127_0 (by decide)).trans ((kp_c p30_0 (by decide)).trans ((kp_c p23_0 (by decide)).trans e17.symm)))); have : (σ126.1 662 a0).toInt = ((σ29.1 662 a0) : Int32).toInt := congrArg Int32.toInt (show σ126.1 662 a0 = (σ29.1 662 a0) from ((kp_c p127_0 (by decide)).trans rfl)); have : (v18 : Int32).toInt ≠ (6 : Int32).toInt := fun q => c19 (Int32.toInt_inj.mp q); have : (v108 : Int32).toInt = (0 : Int32).toInt := congrArg Int32.toInt c109; have : ((σ29.1 662 a0) : Int32).toInt < ((σ_48.1 660 a0) : Int32).toInt := iv_lt.mp (iv_nle c114); have : (0 : Int32).toInt = 0 := (by decide); have : (59 : Int32).toInt = 59 := (by decide); have : (6 : Int32).toInt = 6 := (by decide); have : (76 : Int32).toInt = 76 := (by decide); exact ⟨by omega, by omega⟩)
                  refine lv_aload_n hx hb dX11_herds_109 rfl (lv_at hl 2 rfl) ?_
                  refine o_ci hw (oRunV cx hA hw q_X11_fine k_m_X11_126 rfl ha0 (by decide) (As := []) (c_X11_fine a0 ha0) (by decide) rfl hl.1 rfl (Nat.le_of_ble_eq_true rfl) dX11_herds_110 (by decide)) (fun v131 σ130 H locs hp hw => ?_)
                  obtain ⟨p131_0, p131_1, p131_2⟩ := hp
                  rw [p131_0] at hw
                  have i132 : Iv v131 0 0 := (by have := (i26).1; have := (i26).2; have := (i104).1; have := (i104).2; have := (p131_1).1; have := (p131_1).2; have := (i123).1; have := (i123).2; have := (f48_661_a0).1; have := (f48_661_a0).2; have := (f48_655_a0).1; have := (f48_655_a0).2; have := (i17).1; have := (i17).2; have := (i122).1; have := (i122).2; have := (i129).1; have := (i129).2; have := (i4).1; have := (i4).2; have := (i5).1; have := (i5).2; have := (i11).1; have := (i11).2; have := (p7_3).1; have := (p7_3).2; have := (p7_4).1; have := (p7_4).2; have := (p7_5).1; have := (p7_5).2; have := (i16).1; have := (i16).2; have := (i18).1; have := (i18).2; have := (i20).1; have := (i20).2; have := (i21).1; have := (i21).2; have := (i24).1; have := (i24).2; have := (i110).1; have := (i110).2; have := (i111).1; have := (i111).2; have : (σ126.1 660 a0).toInt = ((σ_48.1 660 a0) : Int32).toInt := congrArg Int32.toInt (show σ126.1 660 a0 = (σ_48.1 660 a0) from ((kp_c p127_0 (by decide)).trans ((kp_c p30_0 (by decide)).trans ((kp_c p23_0 (by decide)).trans rfl)))); have : (σ126.1 661 a0).toInt = ((σ_48.1 661 a0) : Int32).toInt := congrArg Int32.toInt (show σ126.1 661 a0 = (σ_48.1 661 a0) from ((kp_c p127_0 (by decide)).trans ((kp_c p30_0 (by decide)).trans ((kp_c p23_0 (by decide)).trans rfl)))); have : (σ126.1 655 a0).toInt = ((σ_48.1 655 a0) : Int32).toInt := congrArg Int32.toInt (show σ126.1 655 a0 = (σ_48.1 655 a0) from ((kp_c p127_0 (by decide)).trans ((kp_c p30_0 (by decide)).trans ((kp_c p23_0 (by decide)).trans rfl)))); have : (σ126.1 647 a0).toInt = (v17 : Int32).toInt := congrArg Int32.toInt (show σ126.1 647 a0 = v17 from ((kp_c p127_0 (by decide)).trans ((kp_c p30_0 (by decide)).trans ((kp_c p23_0 (by decide)).trans e17.symm)))); have : (σ126.1 662 a0).toInt = ((σ29.1 662 a0) : Int32).toInt := congrArg Int32.toInt (show σ126.1 662 a0 = (σ29.1 662 a0) from ((kp_c p127_0 (by decide)).trans rfl)); have : (v18 : Int32).toInt ≠ (6 : Int32).toInt := fun q => c19 (Int32.toInt_inj.mp q); have : (v108 : Int32).toInt = (0 : Int32).toInt := congrArg Int32.toInt c109; have : ((σ29.1 662 a0) : Int32).toInt < ((σ_48.1 660 a0) : Int32).toInt := iv_lt.mp (iv_nle c114); have : (0 : Int32).toInt = 0 := (by decide); have : (59 : Int32).toInt = 59 := (by decide); have : (6 : Int32).toInt = 6 := (by decide); have : (76 : Int32).toInt = 76 := (by decide); exact ⟨by omega, by omega⟩)
                  refine lv_if_ne (tgt := 123) hx hb dX11_herds_113 (by decide) (fun c133 => ?_) (fun c133 => ?_)
                  · --
                    exact iv_no (iv_ne1 c133 i132 (⟨by decide, by decide⟩ : Iv 0 0 0) (by decide)) (by decide)
                  · --
                    refine lv_iconst (v := (-1)) hx hb dX11_herds_116 (by decide) ?_
                    refine lv_aload_n hx hb dX11_herds_117 rfl (lv_at hl 2 rfl) ?_
                    refine g_663 cx hw ha0 k_f_X11_123 dX11_herds_118 (fun v134 e134 i134 => ?_)
                    rw [show v134 = (σ126.1 663 a0) from e134.trans rfl]
                    refine lv_isub hx hb dX11_herds_121 ?_
                    refine lv_topi (fun v135 e135 => ?_)
                    have i135 : Iv v135 (-201) (-1) := iv_sub e135 (⟨by decide, by decide⟩ : Iv (-1) (-1) (-1)) i129 (by decide)
                    have x135 : v135.toInt = (-1) - (σ126.1 663 a0).toInt := by have q9 := ex_sub e135 (⟨by decide, by decide⟩ : Iv (-1) (-1) (-1)) i129 (by decide); rw [show ((-1) : Int32).toInt = (-1) from by decide] at q9; exact q9
                    rw [← hQ]
                    exact o_ri cx rx hw dX11_herds_122 ⟨fr, (iv_w i135 (by decide)), (kn_iv (((kp_c p127_0 (by decide)).trans ((kp_c p30_0 (by decide)).trans ((kp_c p23_0 (by decide)).trans rfl)))) (iv_w f48_655_a0 (by decide)))⟩
              · --
                have i136 : Iv v108 1 1 := iv_ne1 c109 p108_1 (⟨by decide, by decide⟩ : Iv 0 0 0) (by decide)
                have i137 : Iv (σ22.1 663 a0) (-1) (-1) := (fun h => (by have := nz_ti h; have := (i26).1; have := (i26).2; have := (i104).1; have := (i104).2; have := (p108_1).1; have := (p108_1).2; have := (f48_660_a0).1; have := (f48_660_a0).2; have := (f48_661_a0).1; have := (f48_661_a0).2; have := (f48_655_a0).1; have := (f48_655_a0).2; have := (i17).1; have := (i17).2; have := (i25).1; have := (i25).2; have := (i105).1; have := (i105).2; have := (i4).1; have := (i4).2; have := (i5).1; have := (i5).2; have := (i11).1; have := (i11).2; have := (p7_3).1; have := (p7_3).2; have := (p7_4).1; have := (p7_4).2; have := (p7_5).1; have := (p7_5).2; have := (i16).1; have := (i16).2; have := (i18).1; have := (i18).2; have := (i20).1; have := (i20).2; have := (i21).1; have := (i21).2; have := (i24).1; have := (i24).2; have : (σ29.1 660 a0).toInt = ((σ_48.1 660 a0) : Int32).toInt := congrArg Int32.toInt (show σ29.1 660 a0 = (σ_48.1 660 a0) from ((kp_c p30_0 (by decide)).trans ((kp_c p23_0 (by decide)).trans rfl))); have : (σ29.1 661 a0).toInt = ((σ_48.1 661 a0) : Int32).toInt := congrArg Int32.toInt (show σ29.1 661 a0 = (σ_48.1 661 a0) from ((kp_c p30_0 (by decide)).trans ((kp_c p23_0 (by decide)).trans rfl))); have : (σ29.1 655 a0).toInt = ((σ_48.1 655 a0) : Int32).toInt := congrArg Int32.toInt (show σ29.1 655 a0 = (σ_48.1 655 a0) from ((kp_c p30_0 (by decide)).trans ((kp_c p23_0 (by decide)).trans rfl))); have : (σ29.1 647 a0).toInt = (v17 : Int32).toInt := congrArg Int32.toInt (show σ29.1 647 a0 = v17 from ((kp_c p30_0 (by decide)).trans ((kp_c p23_0 (by decide)).trans e17.symm))); have : (σ29.1 663 a0).toInt = ((σ22.1 663 a0) : Int32).toInt := congrArg Int32.toInt (show σ29.1 663 a0 = (σ22.1 663 a0) from ((kp_c p30_0 (by decide)).trans rfl)); have : (v18 : Int32).toInt ≠ (6 : Int32).toInt := fun q => c19 (Int32.toInt_inj.mp q); have : (59 : Int32).toInt = 59 := (by decide); have : (6 : Int32).toInt = 6 := (by decide); have : (76 : Int32).toInt = 76 := (by decide); exact ⟨by omega, by omega⟩)) c109
                exact ih_48 v26 (iv_w i26 (by decide)) v30 i104 σ29 _ _ hw fr (kn_iv (((kp_c p30_0 (by decide)).trans ((kp_c p23_0 (by decide)).trans rfl))) (iv_w f48_655_a0 (by decide))) (kn_iv (((kp_c p30_0 (by decide)).trans ((kp_c p23_0 (by decide)).trans rfl))) (iv_w f48_660_a0 (by decide))) (kn_iv (((kp_c p30_0 (by decide)).trans ((kp_c p23_0 (by decide)).trans rfl))) (iv_w f48_661_a0 (by decide))) (kn_iv (rfl) (iv_w i105 (by decide))) (kn_iv (((kp_c p30_0 (by decide)).trans rfl)) (iv_w i137 (by decide))) (((kr_c p30_0 (by decide)).trans ((kr_c p23_0 (by decide)).trans r48_659))) (ms_up x26 (by decide) (iv_w (a' := 0) (b' := 6) i26 (by decide)).2 hn_48) (by have q9 : Iv (σ29.1 647 a0) 0 6 := o_fb (j := 647) hw ha0 rfl; have := q9.1; have := q9.2; have := (i26).1; have := (i26).2; have := (i104).1; have := (i104).2; have := (f48_660_a0).1; have := (f48_660_a0).2; have := (f48_661_a0).1; have := (f48_661_a0).2; have := (f48_655_a0).1; have := (f48_655_a0).2; have := (i17).1; have := (i17).2; have := (i137).1; have := (i137).2; have := (i105).1; have := (i105).2; have := (i4).1; have := (i4).2; have := (i5).1; have := (i5).2; have := (i11).1; have := (i11).2; have := (p7_3).1; have := (p7_3).2; have := (p7_4).1; have := (p7_4).2; have := (p7_5).1; have := (p7_5).2; have := (i16).1; have := (i16).2; have := (i18).1; have := (i18).2; have := (i20).1; have := (i20).2; have := (i21).1; have := (i21).2; have := (i24).1; have := (i24).2; have := (i136).1; have := (i136).2; have : (σ29.1 660 a0).toInt = ((σ_48.1 660 a0) : Int32).toInt := congrArg Int32.toInt (show σ29.1 660 a0 = (σ_48.1 660 a0) from ((kp_c p30_0 (by decide)).trans ((kp_c p23_0 (by decide)).trans rfl))); have : (σ29.1 661 a0).toInt = ((σ_48.1 661 a0) : Int32).toInt := congrArg Int32.toInt (show σ29.1 661 a0 = (σ_48.1 661 a0) from ((kp_c p30_0 (by decide)).trans ((kp_c p23_0 (by decide)).trans rfl))); have : (σ29.1 655 a0).toInt = ((σ_48.1 655 a0) : Int32).toInt := congrArg Int32.toInt (show σ29.1 655 a0 = (σ_48.1 655 a0) from ((kp_c p30_0 (by decide)).trans ((kp_c p23_0 (by decide)).trans rfl))); have : (σ29.1 647 a0).toInt = (v17 : Int32).toInt := congrArg Int32.toInt (show σ29.1 647 a0 = v17 from ((kp_c p30_0 (by decide)).trans ((kp_c p23_0 (by decide)).trans e17.symm))); have : (σ29.1 663 a0).toInt = ((σ22.1 663 a0) : Int32).toInt := congrArg Int32.toInt (show σ29.1 663 a0 = (σ22.1 663 a0) from ((kp_c p30_0 (by decide)).trans rfl)); have : (v18 : Int32).toInt ≠ (6 : Int32).toInt := fun q => c19 (Int32.toInt_inj.mp q); have : (59 : Int32).toInt = 59 := (by decide); have : (6 : Int32).toInt = 6 := (by decide); have : (76 : Int32).toInt = 76 := (by decide); omega) _ (lv_sub hl [2, 1, 0] rfl)
          · --
            have i138 : Iv v18 6 6 := iv_eq1 c19 i18 (⟨by decide, by decide⟩ : Iv 6 6 6) (by decide)
            refine lv_aload_n hx hb dX11_herds_59 rfl (lv_at hl 0 rfl) ?_
            refine lv_aload_n hx hb dX11_herds_60 rfl (lv_at hl 0 rfl) ?_
            refine g_662 cx hw ha0 k_f_X11_120 dX11_herds_61 (fun v139 e139 i139 => ?_)
            rw [show v139 = (σ_48.1 662 a0) from e139.trans rfl]
            refine o_cv hw (oRunV cx hA hw q_X11_fault k_m_X11_138 rfl ha0 (by decide) (As := [.int (σ_48.1 662 a0)]) (c_X11_fault a0 ha0 (σ_48.1 662 a0) (iv_w f48_662_a0 (by decide))) (by decide) rfl hl.1 rfl (Nat.le_of_ble_eq_true rfl) dX11_herds_64 (by decide)) (fun σ140 H locs hp hw => ?_)
            obtain ⟨p141_0, p141_1⟩ := hp
            have fr := oFr_tr fr p141_0 (by decide)
            have i142 : Iv (σ140.1 663 a0) (-1) 200 := o_fb (j := 663) hw ha0 rfl
            have i143 : Iv (σ140.1 663 a0) 0 200 := (by have := (ij48_1).1; have := (ij48_1).2; have := (ij48_2).1; have := (ij48_2).2; have := (f48_660_a0).1; have := (f48_660_a0).2; have := (f48_661_a0).1; have := (f48_661_a0).2; have := (f48_662_a0).1; have := (f48_662_a0).2; have := (f48_655_a0).1; have := (f48_655_a0).2; have := (i17).1; have := (i17).2; have := (i142).1; have := (i142).2; have := (i4).1; have := (i4).2; have := (i5).1; have := (i5).2; have := (i11).1; have := (i11).2; have := (p7_3).1; have := (p7_3).2; have := (p7_4).1; have := (p7_4).2; have := (p7_5).1; have := (p7_5).2; have := (i16).1; have := (i16).2; have := (i138).1; have := (i138).2; have : (σ140.1 660 a0).toInt = ((σ_48.1 660 a0) : Int32).toInt := congrArg Int32.toInt (show σ140.1 660 a0 = (σ_48.1 660 a0) from ((kp_c p141_0 (by decide)).trans rfl)); have : (σ140.1 661 a0).toInt = ((σ_48.1 661 a0) : Int32).toInt := congrArg Int32.toInt (show σ140.1 661 a0 = (σ_48.1 661 a0) from ((kp_c p141_0 (by decide)).trans rfl)); have : (σ140.1 662 a0).toInt = ((σ_48.1 662 a0) : Int32).toInt := congrArg Int32.toInt (show σ140.1 662 a0 = (σ_48.1 662 a0) from ((kp_c p141_0 (by decide)).trans rfl)); have : (σ140.1 655 a0).toInt = ((σ_48.1 655 a0) : Int32).toInt := congrArg Int32.toInt (show σ140.1 655 a0 = (σ_48.1 655 a0) from ((kp_c p141_0 (by decide)).trans rfl)); have : (σ140.1 647 a0).toInt = (v17 : Int32).toInt := congrArg Int32.toInt (show σ140.1 647 a0 = v17 from ((kp_c p141_0 (by decide)).trans e17.symm)); have : (v18 : Int32).toInt = (6 : Int32).toInt := congrArg Int32.toInt c19; have : (6 : Int32).toInt = 6 := (by decide); have : (76 : Int32).toInt = 76 := (by decide); exact ⟨by omega, by omega⟩)
            refine lv_goto (tgt := 77) hx hb dX11_herds_67 (by decide) ?_
            obtain ⟨v144, e144⟩ : ∃ y : Int32, y = j48_1 + 1 := ⟨_, rfl⟩
            have i144 : Iv v144 1 7 := iv_add e144 ij48_1 (⟨by decide, by decide⟩ : Iv 1 1 1) (by decide)
            have x144 : v144.toInt = j48_1.toInt + 1 := ex_add e144 ij48_1 (⟨by decide, by decide⟩ : Iv 1 1 1) (by decide)
            refine lv_iinc (v := v144) (lv' := [(1, .int v144), (0, .ref a0), (2, .int j48_2)]) hx hb dX11_herds_77 hl (k := 1) rfl (by rw [e144]; rfl) (by decide) rfl (fun ls hl => ?_)
            refine lv_aload_n hx hb dX11_herds_80 rfl (lv_at hl 1 rfl) ?_
            refine lv_bipush (v := 59) hx hb dX11_herds_81 (by decide) ?_
            have z145 : (σ140.1 662 a0).toInt = ((σ_48.1 662 a0) : Int32).toInt := congrArg Int32.toInt (show σ140.1 662 a0 = (σ_48.1 662 a0) from ((kp_c p141_0 (by decide)).trans rfl))
            have z146 : (σ140.1 660 a0).toInt = ((σ_48.1 660 a0) : Int32).toInt := congrArg Int32.toInt (show σ140.1 660 a0 = (σ_48.1 660 a0) from ((kp_c p141_0 (by decide)).trans rfl))
            have z147 : (σ140.1 661 a0).toInt = ((σ_48.1 661 a0) : Int32).toInt := congrArg Int32.toInt (show σ140.1 661 a0 = (σ_48.1 661 a0) from ((kp_c p141_0 (by decide)).trans rfl))
            refine o_ci hw (oRunV cx hA hw q_X11_passes k_m_X11_134 rfl ha0 (by decide) (As := [.int 59]) (c_X11_passesT a0 ha0 59 (iv_w (⟨by decide, by decide⟩ : Iv 59 59 59) (by decide)) v2 (((kr_c p141_0 (by decide)).trans r48_659)) h2 (kn_iv (((kp_c p141_0 (by decide)).trans rfl)) (iv_w f48_660_a0 (by decide)))) (by decide) rfl hl.1 rfl (Nat.le_of_ble_eq_true rfl) dX11_herds_83 (by decide)) (fun v149 σ148 H locs hp hw => ?_)
            obtain ⟨p149_0, p149_1, p149_2, p149_3, p149_4, p149_5⟩ := hp
            have fr := oFr_tr fr p149_0 (by decide)
            have i150 : Iv (σ148.1 662 a0) 0 200 := o_fb (j := 662) hw ha0 rfl
            refine lv_istore_n (lv' := [(2, .int v149), (1, .int v144), (0, .ref a0)]) hx hb dX11_herds_86 rfl hl (by decide) rfl (fun ls hl => ?_)
            refine lv_goto (tgt := 37) hx hb dX11_herds_87 (by decide) ?_
            refine lv_iload_n hx hb dX11_herds_37 rfl (lv_at hl 0 rfl) ?_
            refine lv_if_eq (tgt := 90) hx hb dX11_herds_38 (by decide) (fun c151 => ?_) (fun c151 => ?_)
            · --
              have i152 : Iv v149 0 0 := iv_eq1 c151 p149_1 (⟨by decide, by decide⟩ : Iv 0 0 0) (by decide)
              refine lv_aload_n hx hb dX11_herds_90 rfl (lv_at hl 2 rfl) ?_
              refine g_662 cx hw ha0 k_f_X11_120 dX11_herds_91 (fun v153 e153 i153 => ?_)
              rw [show v153 = (σ148.1 662 a0) from e153.trans rfl]
              refine lv_aload_n hx hb dX11_herds_94 rfl (lv_at hl 2 rfl) ?_
              refine g_660 cx hw ha0 k_f_X11_114 dX11_herds_95 (fun v154 e154 i154 => ?_)
              rw [show v154 = (σ_48.1 660 a0) from e154.trans ((kp_c p149_0 (by decide)).trans ((kp_c p141_0 (by decide)).trans rfl))]
              refine lv_icmp_ge (tgt := 109) hx hb dX11_herds_98 (by decide) (fun c155 => ?_) (fun c155 => ?_)
              · --
                have i156 : Iv (σ148.1 662 a0) 1 200 := iv_le2 c155 f48_660_a0 i150 (by decide)
                refine lv_aload_n hx hb dX11_herds_109 rfl (lv_at hl 2 rfl) ?_
                have z157 : (σ148.1 663 a0).toInt = ((σ140.1 663 a0) : Int32).toInt := congrArg Int32.toInt (show σ148.1 663 a0 = (σ140.1 663 a0) from ((kp_c p149_0 (by decide)).trans rfl))
                refine o_ci hw (oRunV cx hA hw q_X11_fine k_m_X11_126 rfl ha0 (by decide) (As := []) (c_X11_fine a0 ha0) (by decide) rfl hl.1 rfl (Nat.le_of_ble_eq_true rfl) dX11_herds_110 (by decide)) (fun v159 σ158 H locs hp hw => ?_)
                obtain ⟨p159_0, p159_1, p159_2⟩ := hp
                rw [p159_0] at hw
                have i160 : Iv v159 0 0 := (by have := (i144).1; have := (i144).2; have := (i152).1; have := (i152).2; have := (p159_1).1; have := (p159_1).2; have := (f48_660_a0).1; have := (f48_660_a0).2; have := (f48_661_a0).1; have := (f48_661_a0).2; have := (f48_655_a0).1; have := (f48_655_a0).2; have := (i17).1; have := (i17).2; have := (i143).1; have := (i143).2; have := (i156).1; have := (i156).2; have := (i4).1; have := (i4).2; have := (i5).1; have := (i5).2; have := (i11).1; have := (i11).2; have := (p7_3).1; have := (p7_3).2; have := (p7_4).1; have := (p7_4).2; have := (p7_5).1; have := (p7_5).2; have := (i16).1; have := (i16).2; have := (i138).1; have := (i138).2; have : (σ148.1 660 a0).toInt = ((σ_48.1 660 a0) : Int32).toInt := congrArg Int32.toInt (show σ148.1 660 a0 = (σ_48.1 660 a0) from ((kp_c p149_0 (by decide)).trans ((kp_c p141_0 (by decide)).trans rfl))); have : (σ148.1 661 a0).toInt = ((σ_48.1 661 a0) : Int32).toInt := congrArg Int32.toInt (show σ148.1 661 a0 = (σ_48.1 661 a0) from ((kp_c p149_0 (by decide)).trans ((kp_c p141_0 (by decide)).trans rfl))); have : (σ148.1 655 a0).toInt = ((σ_48.1 655 a0) : Int32).toInt := congrArg Int32.toInt (show σ148.1 655 a0 = (σ_48.1 655 a0) from ((kp_c p149_0 (by decide)).trans ((kp_c p141_0 (by decide)).trans rfl))); have : (σ148.1 647 a0).toInt = (v17 : Int32).toInt := congrArg Int32.toInt (show σ148.1 647 a0 = v17 from ((kp_c p149_0 (by decide)).trans ((kp_c p141_0 (by decide)).trans e17.symm))); have : (σ148.1 663 a0).toInt = ((σ140.1 663 a0) : Int32).toInt := congrArg Int32.toInt (show σ148.1 663 a0 = (σ140.1 663 a0) from ((kp_c p149_0 (by decide)).trans rfl)); have : (v18 : Int32).toInt = (6 : Int32).toInt := congrArg Int32.toInt c19; have : (v149 : Int32).toInt = (0 : Int32).toInt := congrArg Int32.toInt c151; have : ((σ_48.1 660 a0) : Int32).toInt ≤ ((σ148.1 662 a0) : Int32).toInt := iv_le.mp c155; have : (0 : Int32).toInt = 0 := (by decide); have : (59 : Int32).toInt = 59 := (by decide); have : (6 : Int32).toInt = 6 := (by decide); have : (76 : Int32).toInt = 76 := (by decide); exact ⟨by omega, by omega⟩)
                refine lv_if_ne (tgt := 123) hx hb dX11_herds_113 (by decide) (fun c161 => ?_) (fun c161 => ?_)
                · --
                  exact iv_no (iv_ne1 c161 i160 (⟨by decide, by decide⟩ : Iv 0 0 0) (by decide)) (by decide)
                · --
                  refine lv_iconst (v := (-1)) hx hb dX11_herds_116 (by decide) ?_
                  refine lv_aload_n hx hb dX11_herds_117 rfl (lv_at hl 2 rfl) ?_
                  refine g_663 cx hw ha0 k_f_X11_123 dX11_herds_118 (fun v162 e162 i162 => ?_)
                  rw [show v162 = (σ140.1 663 a0) from e162.trans ((kp_c p149_0 (by decide)).trans rfl)]
                  refine lv_isub hx hb dX11_herds_121 ?_
                  refine lv_topi (fun v163 e163 => ?_)
                  have i163 : Iv v163 (-201) (-1) := iv_sub e163 (⟨by decide, by decide⟩ : Iv (-1) (-1) (-1)) i143 (by decide)
                  have x163 : v163.toInt = (-1) - (σ140.1 663 a0).toInt := by have q9 := ex_sub e163 (⟨by decide, by decide⟩ : Iv (-1) (-1) (-1)) i143 (by decide); rw [show ((-1) : Int32).toInt = (-1) from by decide] at q9; exact q9
                  rw [← hQ]
                  exact o_ri cx rx hw dX11_herds_122 ⟨fr, (iv_w i163 (by decide)), (kn_iv (((kp_c p149_0 (by decide)).trans ((kp_c p141_0 (by decide)).trans rfl))) (iv_w f48_655_a0 (by decide)))⟩
              · --
                have i164 : Iv (σ148.1 662 a0) 0 79 := iv_lt1 (iv_nle c155) i150 f48_660_a0 (by decide)
                refine lv_aload_n hx hb dX11_herds_101 rfl (lv_at hl 2 rfl) ?_
                refine lv_aload_n hx hb dX11_herds_102 rfl (lv_at hl 2 rfl) ?_
                refine g_662 cx hw ha0 k_f_X11_120 dX11_herds_103 (fun v165 e165 i165 => ?_)
                rw [show v165 = (σ148.1 662 a0) from e165.trans rfl]
                have z166 : (σ148.1 663 a0).toInt = ((σ140.1 663 a0) : Int32).toInt := congrArg Int32.toInt (show σ148.1 663 a0 = (σ140.1 663 a0) from ((kp_c p149_0 (by decide)).trans rfl))
                refine o_cv hw (oRunV cx hA hw q_X11_fault k_m_X11_138 rfl ha0 (by decide) (As := [.int (σ148.1 662 a0)]) (c_X11_fault a0 ha0 (σ148.1 662 a0) (iv_w i164 (by decide))) (by decide) rfl hl.1 rfl (Nat.le_of_ble_eq_true rfl) dX11_herds_106 (by decide)) (fun σ167 H locs hp hw => ?_)
                obtain ⟨p168_0, p168_1⟩ := hp
                have fr := oFr_tr fr p168_0 (by decide)
                have i169 : Iv (σ167.1 663 a0) (-1) 200 := o_fb (j := 663) hw ha0 rfl
                have i170 : Iv (σ167.1 663 a0) 0 200 := (by have := (i144).1; have := (i144).2; have := (i152).1; have := (i152).2; have := (f48_660_a0).1; have := (f48_660_a0).2; have := (f48_661_a0).1; have := (f48_661_a0).2; have := (f48_655_a0).1; have := (f48_655_a0).2; have := (i17).1; have := (i17).2; have := (i164).1; have := (i164).2; have := (i169).1; have := (i169).2; have := (i4).1; have := (i4).2; have := (i5).1; have := (i5).2; have := (i11).1; have := (i11).2; have := (p7_3).1; have := (p7_3).2; have := (p7_4).1; have := (p7_4).2; have := (p7_5).1; have := (p7_5).2; have := (i16).1; have := (i16).2; have := (i138).1; have := (i138).2; have := (i143).1; have := (i143).2; have : (σ167.1 660 a0).toInt = ((σ_48.1 660 a0) : Int32).toInt := congrArg Int32.toInt (show σ167.1 660 a0 = (σ_48.1 660 a0) from ((kp_c p168_0 (by decide)).trans ((kp_c p149_0 (by decide)).trans ((kp_c p141_0 (by decide)).trans rfl)))); have : (σ167.1 661 a0).toInt = ((σ_48.1 661 a0) : Int32).toInt := congrArg Int32.toInt (show σ167.1 661 a0 = (σ_48.1 661 a0) from ((kp_c p168_0 (by decide)).trans ((kp_c p149_0 (by decide)).trans ((kp_c p141_0 (by decide)).trans rfl)))); have : (σ167.1 655 a0).toInt = ((σ_48.1 655 a0) : Int32).toInt := congrArg Int32.toInt (show σ167.1 655 a0 = (σ_48.1 655 a0) from ((kp_c p168_0 (by decide)).trans ((kp_c p149_0 (by decide)).trans ((kp_c p141_0 (by decide)).trans rfl)))); have : (σ167.1 647 a0).toInt = (v17 : Int32).toInt := congrArg Int32.toInt (show σ167.1 647 a0 = v17 from ((kp_c p168_0 (by decide)).trans ((kp_c p149_0 (by decide)).trans ((kp_c p141_0 (by decide)).trans e17.symm)))); have : (σ167.1 662 a0).toInt = ((σ148.1 662 a0) : Int32).toInt := congrArg Int32.toInt (show σ167.1 662 a0 = (σ148.1 662 a0) from ((kp_c p168_0 (by decide)).trans rfl)); have : (v18 : Int32).toInt = (6 : Int32).toInt := congrArg Int32.toInt c19; have : (v149 : Int32).toInt = (0 : Int32).toInt := congrArg Int32.toInt c151; have : ((σ148.1 662 a0) : Int32).toInt < ((σ_48.1 660 a0) : Int32).toInt := iv_lt.mp (iv_nle c155); have : (0 : Int32).toInt = 0 := (by decide); have : (59 : Int32).toInt = 59 := (by decide); have : (6 : Int32).toInt = 6 := (by decide); have : (76 : Int32).toInt = 76 := (by decide); exact ⟨by omega, by omega⟩)
                refine lv_aload_n hx hb dX11_herds_109 rfl (lv_at hl 2 rfl) ?_
                refine o_ci hw (oRunV cx hA hw q_X11_fine k_m_X11_126 rfl ha0 (by decide) (As := []) (c_X11_fine a0 ha0) (by decide) rfl hl.1 rfl (Nat.le_of_ble_eq_true rfl) dX11_herds_110 (by decide)) (fun v172 σ171 H locs hp hw => ?_)
                obtain ⟨p172_0, p172_1, p172_2⟩ := hp
                rw [p172_0] at hw
                have i173 : Iv v172 0 0 := (by have := (i144).1; have := (i144).2; have := (i152).1; have := (i152).2; have := (p172_1).1; have := (p172_1).2; have := (f48_660_a0).1; have := (f48_660_a0).2; have := (f48_661_a0).1; have := (f48_661_a0).2; have := (f48_655_a0).1; have := (f48_655_a0).2; have := (i17).1; have := (i17).2; have := (i164).1; have := (i164).2; have := (i170).1; have := (i170).2; have := (i4).1; have := (i4).2; have := (i5).1; have := (i5).2; have := (i11).1; have := (i11).2; have := (p7_3).1; have := (p7_3).2; have := (p7_4).1; have := (p7_4).2; have := (p7_5).1; have := (p7_5).2; have := (i16).1; have := (i16).2; have := (i138).1; have := (i138).2; have := (i143).1; have := (i143).2; have : (σ167.1 660 a0).toInt = ((σ_48.1 660 a0) : Int32).toInt := congrArg Int32.toInt (show σ167.1 660 a0 = (σ_48.1 660 a0) from ((kp_c p168_0 (by decide)).trans ((kp_c p149_0 (by decide)).trans ((kp_c p141_0 (by decide)).trans rfl)))); have : (σ167.1 661 a0).toInt = ((σ_48.1 661 a0) : Int32).toInt := congrArg Int32.toInt (show σ167.1 661 a0 = (σ_48.1 661 a0) from ((kp_c p168_0 (by decide)).trans ((kp_c p149_0 (by decide)).trans ((kp_c p141_0 (by decide)).trans rfl)))); have : (σ167.1 655 a0).toInt = ((σ_48.1 655 a0) : Int32).toInt := congrArg Int32.toInt (show σ167.1 655 a0 = (σ_48.1 655 a0) from ((kp_c p168_0 (by decide)).trans ((kp_c p149_0 (by decide)).trans ((kp_c p141_0 (by decide)).trans rfl)))); have : (σ167.1 647 a0).toInt = (v17 : Int32).toInt := congrArg Int32.toInt (show σ167.1 647 a0 = v17 from ((kp_c p168_0 (by decide)).trans ((kp_c p149_0 (by decide)).trans ((kp_c p141_0 (by decide)).trans e17.symm)))); have : (σ167.1 662 a0).toInt = ((σ148.1 662 a0) : Int32).toInt := congrArg Int32.toInt (show σ167.1 662 a0 = (σ148.1 662 a0) from ((kp_c p168_0 (by decide)).trans rfl)); have : (v18 : Int32).toInt = (6 : Int32).toInt := congrArg Int32.toInt c19; have : (v149 : Int32).toInt = (0 : Int32).toInt := congrArg Int32.toInt c151; have : ((σ148.1 662 a0) : Int32).toInt < ((σ_48.1 660 a0) : Int32).toInt := iv_lt.mp (iv_nle c155); have : (0 : Int32).toInt = 0 := (by decide); have : (59 : Int32).toInt = 59 := (by decide); have : (6 : Int32).toInt = 6 := (by decide); have : (76 : Int32).toInt = 76 := (by decide); exact ⟨by omega, by omega⟩)
                refine lv_if_ne (tgt := 123) hx hb dX11_herds_113 (by decide) (fun c174 => ?_) (fun c174 => ?_)
                · --
                  exact iv_no (iv_ne1 c174 i173 (⟨by decide, by decide⟩ : Iv 0 0 0) (by decide)) (by decide)
                · --
                  refine lv_iconst (v := (-1)) hx hb dX11_herds_116 (by decide) ?_
                  refine lv_aload_n hx hb dX11_herds_117 rfl (lv_at hl 2 rfl) ?_
                  refine g_663 cx hw ha0 k_f_X11_123 dX11_herds_118 (fun v175 e175 i175 => ?_)
                  rw [show v175 = (σ167.1 663 a0) from e175.trans rfl]
                  refine lv_isub hx hb dX11_herds_121 ?_
                  refine lv_topi (fun v176 e176 => ?_)
                  have i176 : Iv v176 (-201) (-1) := iv_sub e176 (⟨by decide, by decide⟩ : Iv (-1) (-1) (-1)) i170 (by decide)
                  have x176 : v176.toInt = (-1) - (σ167.1 663 a0).toInt := by have q9 := ex_sub e176 (⟨by decide, by decide⟩ : Iv (-1) (-1) (-1)) i170 (by decide); rw [show ((-1) : Int32).toInt = (-1) from by decide] at q9; exact q9
                  rw [← hQ]
                  exact o_ri cx rx hw dX11_herds_122 ⟨fr, (iv_w i176 (by decide)), (kn_iv (((kp_c p168_0 (by decide)).trans ((kp_c p149_0 (by decide)).trans ((kp_c p141_0 (by decide)).trans rfl)))) (iv_w f48_655_a0 (by decide)))⟩
            · --
              have i177 : Iv v149 1 1 := iv_ne1 c151 p149_1 (⟨by decide, by decide⟩ : Iv 0 0 0) (by decide)
              have i178 : Iv (σ148.1 662 a0) 1 80 := (fun h => kn_iv2 (rfl) (p149_2 h)) c151
              refine lv_aload_n hx hb dX11_herds_41 rfl (lv_at hl 2 rfl) ?_
              have z179 : (σ148.1 663 a0).toInt = ((σ140.1 663 a0) : Int32).toInt := congrArg Int32.toInt (show σ148.1 663 a0 = (σ140.1 663 a0) from ((kp_c p149_0 (by decide)).trans rfl))
              refine o_ci hw (oRunV cx hA hw q_X11_fine k_m_X11_126 rfl ha0 (by decide) (As := []) (c_X11_fine a0 ha0) (by decide) rfl hl.1 rfl (Nat.le_of_ble_eq_true rfl) dX11_herds_42 (by decide)) (fun v181 σ180 H locs hp hw => ?_)
              obtain ⟨p181_0, p181_1, p181_2⟩ := hp
              rw [p181_0] at hw
              have i182 : Iv v181 0 0 := (by have := (i144).1; have := (i144).2; have := (i177).1; have := (i177).2; have := (p181_1).1; have := (p181_1).2; have := (f48_660_a0).1; have := (f48_660_a0).2; have := (f48_661_a0).1; have := (f48_661_a0).2; have := (f48_655_a0).1; have := (f48_655_a0).2; have := (i17).1; have := (i17).2; have := (i143).1; have := (i143).2; have := (i178).1; have := (i178).2; have := (i4).1; have := (i4).2; have := (i5).1; have := (i5).2; have := (i11).1; have := (i11).2; have := (p7_3).1; have := (p7_3).2; have := (p7_4).1; have := (p7_4).2; have := (p7_5).1; have := (p7_5).2; have := (i16).1; have := (i16).2; have := (i138).1; have := (i138).2; have : (σ148.1 660 a0).toInt = ((σ_48.1 660 a0) : Int32).toInt := congrArg Int32.toInt (show σ148.1 660 a0 = (σ_48.1 660 a0) from ((kp_c p149_0 (by decide)).trans ((kp_c p141_0 (by decide)).trans rfl))); have : (σ148.1 661 a0).toInt = ((σ_48.1 661 a0) : Int32).toInt := congrArg Int32.toInt (show σ148.1 661 a0 = (σ_48.1 661 a0) from ((kp_c p149_0 (by decide)).trans ((kp_c p141_0 (by decide)).trans rfl))); have : (σ148.1 655 a0).toInt = ((σ_48.1 655 a0) : Int32).toInt := congrArg Int32.toInt (show σ148.1 655 a0 = (σ_48.1 655 a0) from ((kp_c p149_0 (by decide)).trans ((kp_c p141_0 (by decide)).trans rfl))); have : (σ148.1 647 a0).toInt = (v17 : Int32).toInt := congrArg Int32.toInt (show σ148.1 647 a0 = v17 from ((kp_c p149_0 (by decide)).trans ((kp_c p141_0 (by decide)).trans e17.symm))); have : (σ148.1 663 a0).toInt = ((σ140.1 663 a0) : Int32).toInt := congrArg Int32.toInt (show σ148.1 663 a0 = (σ140.1 663 a0) from ((kp_c p149_0 (by decide)).trans rfl)); have : (v18 : Int32).toInt = (6 : Int32).toInt := congrArg Int32.toInt c19; have : (59 : Int32).toInt = 59 := (by decide); have : (6 : Int32).toInt = 6 := (by decide); have : (76 : Int32).toInt = 76 := (by decide); exact ⟨by omega, by omega⟩)
              refine lv_if_eq (tgt := 90) hx hb dX11_herds_45 (by decide) (fun c183 => ?_) (fun c183 => ?_)
              · --
                refine lv_aload_n hx hb dX11_herds_90 rfl (lv_at hl 2 rfl) ?_
                refine g_662 cx hw ha0 k_f_X11_120 dX11_herds_91 (fun v184 e184 i184 => ?_)
                rw [show v184 = (σ148.1 662 a0) from e184.trans rfl]
                refine lv_aload_n hx hb dX11_herds_94 rfl (lv_at hl 2 rfl) ?_
                refine g_660 cx hw ha0 k_f_X11_114 dX11_herds_95 (fun v185 e185 i185 => ?_)
                rw [show v185 = (σ_48.1 660 a0) from e185.trans ((kp_c p149_0 (by decide)).trans ((kp_c p141_0 (by decide)).trans rfl))]
                refine lv_icmp_ge (tgt := 109) hx hb dX11_herds_98 (by decide) (fun c186 => ?_) (fun c186 => ?_)
                · --
                  refine lv_aload_n hx hb dX11_herds_109 rfl (lv_at hl 2 rfl) ?_
                  have z187 : (σ148.1 663 a0).toInt = ((σ140.1 663 a0) : Int32).toInt := congrArg Int32.toInt (show σ148.1 663 a0 = (σ140.1 663 a0) from ((kp_c p149_0 (by decide)).trans rfl))
                  refine o_ci hw (oRunV cx hA hw q_X11_fine k_m_X11_126 rfl ha0 (by decide) (As := []) (c_X11_fine a0 ha0) (by decide) rfl hl.1 rfl (Nat.le_of_ble_eq_true rfl) dX11_herds_110 (by decide)) (fun v189 σ188 H locs hp hw => ?_)
                  obtain ⟨p189_0, p189_1, p189_2⟩ := hp
                  rw [p189_0] at hw
                  have i190 : Iv v189 0 0 := (by have := (i144).1; have := (i144).2; have := (i177).1; have := (i177).2; have := (p189_1).1; have := (p189_1).2; have := (f48_660_a0).1; have := (f48_660_a0).2; have := (f48_661_a0).1; have := (f48_661_a0).2; have := (f48_655_a0).1; have := (f48_655_a0).2; have := (i17).1; have := (i17).2; have := (i143).1; have := (i143).2; have := (i178).1; have := (i178).2; have := (i4).1; have := (i4).2; have := (i5).1; have := (i5).2; have := (i11).1; have := (i11).2; have := (p7_3).1; have := (p7_3).2; have := (p7_4).1; have := (p7_4).2; have := (p7_5).1; have := (p7_5).2; have := (i16).1; have := (i16).2; have := (i138).1; have := (i138).2; have := (i182).1; have := (i182).2; have : (σ148.1 660 a0).toInt = ((σ_48.1 660 a0) : Int32).toInt := congrArg Int32.toInt (show σ148.1 660 a0 = (σ_48.1 660 a0) from ((kp_c p149_0 (by decide)).trans ((kp_c p141_0 (by decide)).trans rfl))); have : (σ148.1 661 a0).toInt = ((σ_48.1 661 a0) : Int32).toInt := congrArg Int32.toInt (show σ148.1 661 a0 = (σ_48.1 661 a0) from ((kp_c p149_0 (by decide)).trans ((kp_c p141_0 (by decide)).trans rfl))); have : (σ148.1 655 a0).toInt = ((σ_48.1 655 a0) : Int32).toInt := congrArg Int32.toInt (show σ148.1 655 a0 = (σ_48.1 655 a0) from ((kp_c p149_0 (by decide)).trans ((kp_c p141_0 (by decide)).trans rfl))); have : (σ148.1 647 a0).toInt = (v17 : Int32).toInt := congrArg Int32.toInt (show σ148.1 647 a0 = v17 from ((kp_c p149_0 (by decide)).trans ((kp_c p141_0 (by decide)).trans e17.symm))); have : (σ148.1 663 a0).toInt = ((σ140.1 663 a0) : Int32).toInt := congrArg Int32.toInt (show σ148.1 663 a0 = (σ140.1 663 a0) from ((kp_c p149_0 (by decide)).trans rfl)); have : (v18 : Int32).toInt = (6 : Int32).toInt := congrArg Int32.toInt c19; have : (v181 : Int32).toInt = (0 : Int32).toInt := congrArg Int32.toInt c183; have : ((σ_48.1 660 a0) : Int32).toInt ≤ ((σ148.1 662 a0) : Int32).toInt := iv_le.mp c186; have : (0 : Int32).toInt = 0 := (by decide); have : (59 : Int32).toInt = 59 := (by decide); have : (6 : Int32).toInt = 6 := (by decide); have : (76 : Int32).toInt = 76 := (by decide); exact ⟨by omega, by omega⟩)
                  refine lv_if_ne (tgt := 123) hx hb dX11_herds_113 (by decide) (fun c191 => ?_) (fun c191 => ?_)
                  · --
                    exact iv_no (iv_ne1 c191 i190 (⟨by decide, by decide⟩ : Iv 0 0 0) (by decide)) (by decide)
                  · --
                    refine lv_iconst (v := (-1)) hx hb dX11_herds_116 (by decide) ?_
                    refine lv_aload_n hx hb dX11_herds_117 rfl (lv_at hl 2 rfl) ?_
                    refine g_663 cx hw ha0 k_f_X11_123 dX11_herds_118 (fun v192 e192 i192 => ?_)
                    rw [show v192 = (σ140.1 663 a0) from e192.trans ((kp_c p149_0 (by decide)).trans rfl)]
                    refine lv_isub hx hb dX11_herds_121 ?_
                    refine lv_topi (fun v193 e193 => ?_)
                    have i193 : Iv v193 (-201) (-1) := iv_sub e193 (⟨by decide, by decide⟩ : Iv (-1) (-1) (-1)) i143 (by decide)
                    have x193 : v193.toInt = (-1) - (σ140.1 663 a0).toInt := by have q9 := ex_sub e193 (⟨by decide, by decide⟩ : Iv (-1) (-1) (-1)) i143 (by decide); rw [show ((-1) : Int32).toInt = (-1) from by decide] at q9; exact q9
                    rw [← hQ]
                    exact o_ri cx rx hw dX11_herds_122 ⟨fr, (iv_w i193 (by decide)), (kn_iv (((kp_c p149_0 (by decide)).trans ((kp_c p141_0 (by decide)).trans rfl))) (iv_w f48_655_a0 (by decide)))⟩
                · --
                  have i194 : Iv (σ148.1 662 a0) 1 79 := iv_lt1 (iv_nle c186) i178 f48_660_a0 (by decide)
                  have i195 : Iv (σ_48.1 660 a0) 2 80 := iv_lt2 (iv_nle c186) i178 f48_660_a0 (by decide)
                  refine lv_aload_n hx hb dX11_herds_101 rfl (lv_at hl 2 rfl) ?_
                  refine lv_aload_n hx hb dX11_herds_102 rfl (lv_at hl 2 rfl) ?_
                  refine g_662 cx hw ha0 k_f_X11_120 dX11_herds_103 (fun v196 e196 i196 => ?_)
                  rw [show v196 = (σ148.1 662 a0) from e196.trans rfl]
                  have z197 : (σ148.1 663 a0).toInt = ((σ140.1 663 a0) : Int32).toInt := congrArg Int32.toInt (show σ148.1 663 a0 = (σ140.1 663 a0) from ((kp_c p149_0 (by decide)).trans rfl))
                  refine o_cv hw (oRunV cx hA hw q_X11_fault k_m_X11_138 rfl ha0 (by decide) (As := [.int (σ148.1 662 a0)]) (c_X11_fault a0 ha0 (σ148.1 662 a0) (iv_w i194 (by decide))) (by decide) rfl hl.1 rfl (Nat.le_of_ble_eq_true rfl) dX11_herds_106 (by decide)) (fun σ198 H locs hp hw => ?_)
                  obtain ⟨p199_0, p199_1⟩ := hp
                  have fr := oFr_tr fr p199_0 (by decide)
                  have i200 : Iv (σ198.1 663 a0) (-1) 200 := o_fb (j := 663) hw ha0 rfl
                  have i201 : Iv (σ198.1 663 a0) 0 200 := (by have := (i144).1; have := (i144).2; have := (i177).1; have := (i177).2; have := (i195).1; have := (i195).2; have := (f48_661_a0).1; have := (f48_661_a0).2; have := (f48_655_a0).1; have := (f48_655_a0).2; have := (i17).1; have := (i17).2; have := (i194).1; have := (i194).2; have := (i200).1; have := (i200).2; have := (i4).1; have := (i4).2; have := (i5).1; have := (i5).2; have := (i11).1; have := (i11).2; have := (p7_3).1; have := (p7_3).2; have := (p7_4).1; have := (p7_4).2; have := (p7_5).1; have := (p7_5).2; have := (i16).1; have := (i16).2; have := (i138).1; have := (i138).2; have := (i143).1; have := (i143).2; have := (i182).1; have := (i182).2; have : (σ198.1 660 a0).toInt = ((σ_48.1 660 a0) : Int32).toInt := congrArg Int32.toInt (show σ198.1 660 a0 = (σ_48.1 660 a0) from ((kp_c p199_0 (by decide)).trans ((kp_c p149_0 (by decide)).trans ((kp_c p141_0 (by decide)).trans rfl)))); have : (σ198.1 661 a0).toInt = ((σ_48.1 661 a0) : Int32).toInt := congrArg Int32.toInt (show σ198.1 661 a0 = (σ_48.1 661 a0) from ((kp_c p199_0 (by decide)).trans ((kp_c p149_0 (by decide)).trans ((kp_c p141_0 (by decide)).trans rfl)))); have : (σ198.1 655 a0).toInt = ((σ_48.1 655 a0) : Int32).toInt := congrArg Int32.toInt (show σ198.1 655 a0 = (σ_48.1 655 a0) from ((kp_c p199_0 (by decide)).trans ((kp_c p149_0 (by decide)).trans ((kp_c p141_0 (by decide)).trans rfl)))); have : (σ198.1 647 a0).toInt = (v17 : Int32).toInt := congrArg Int32.toInt (show σ198.1 647 a0 = v17 from ((kp_c p199_0 (by decide)).trans ((kp_c p149_0 (by decide)).trans ((kp_c p141_0 (by decide)).trans e17.symm)))); have : (σ198.1 662 a0).toInt = ((σ148.1 662 a0) : Int32).toInt := congrArg Int32.toInt (show σ198.1 662 a0 = (σ148.1 662 a0) from ((kp_c p199_0 (by decide)).trans rfl)); have : (v18 : Int32).toInt = (6 : Int32).toInt := congrArg Int32.toInt c19; have : (v181 : Int32).toInt = (0 : Int32).toInt := congrArg Int32.toInt c183; have : ((σ148.1 662 a0) : Int32).toInt < ((σ_48.1 660 a0) : Int32).toInt := iv_lt.mp (iv_nle c186); have : (0 : Int32).toInt = 0 := (by decide); have : (59 : Int32).toInt = 59 := (by decide); have : (6 : Int32).toInt = 6 := (by decide); have : (76 : Int32).toInt = 76 := (by decide); exact ⟨by omega, by omega⟩)
                  refine lv_aload_n hx hb dX11_herds_109 rfl (lv_at hl 2 rfl) ?_
                  refine o_ci hw (oRunV cx hA hw q_X11_fine k_m_X11_126 rfl ha0 (by decide) (As := []) (c_X11_fine a0 ha0) (by decide) rfl hl.1 rfl (Nat.le_of_ble_eq_true rfl) dX11_herds_110 (by decide)) (fun v203 σ202 H locs hp hw => ?_)
                  obtain ⟨p203_0, p203_1, p203_2⟩ := hp
                  rw [p203_0] at hw
                  have i204 : Iv v203 0 0 := (by have := (i144).1; have := (i144).2; have := (i177).1; have := (i177).2; have := (p203_1).1; have := (p203_1).2; have := (i195).1; have := (i195).2; have := (f48_661_a0).1; have := (f48_661_a0).2; have := (f48_655_a0).1; have := (f48_655_a0).2; have := (i17).1; have := (i17).2; have := (i194).1; have := (i194).2; have := (i201).1; have := (i201).2; have := (i4).1; have := (i4).2; have := (i5).1; have := (i5).2; have := (i11).1; have := (i11).2; have := (p7_3).1; have := (p7_3).2; have := (p7_4).1; have := (p7_4).2; have := (p7_5).1; have := (p7_5).2; have := (i16).1; have := (i16).2; have := (i138).1; have := (i138).2; have := (i143).1; have := (i143).2; have := (i182).1; have := (i182).2; have : (σ198.1 660 a0).toInt = ((σ_48.1 660 a0) : Int32).toInt := congrArg Int32.toInt (show σ198.1 660 a0 = (σ_48.1 660 a0) from ((kp_c p199_0 (by decide)).trans ((kp_c p149_0 (by decide)).trans ((kp_c p141_0 (by decide)).trans rfl)))); have : (σ198.1 661 a0).toInt = ((σ_48.1 661 a0) : Int32).toInt := congrArg Int32.toInt (show σ198.1 661 a0 = (σ_48.1 661 a0) from ((kp_c p199_0 (by decide)).trans ((kp_c p149_0 (by decide)).trans ((kp_c p141_0 (by decide)).trans rfl)))); have : (σ198.1 655 a0).toInt = ((σ_48.1 655 a0) : Int32).toInt := congrArg Int32.toInt (show σ198.1 655 a0 = (σ_48.1 655 a0) from ((kp_c p199_0 (by decide)).trans ((kp_c p149_0 (by decide)).trans ((kp_c p141_0 (by decide)).trans rfl)))); have : (σ198.1 647 a0).toInt = (v17 : Int32).toInt := congrArg Int32.toInt (show σ198.1 647 a0 = v17 from ((kp_c p199_0 (by decide)).trans ((kp_c p149_0 (by decide)).trans ((kp_c p141_0 (by decide)).trans e17.symm)))); have : (σ198.1 662 a0).toInt = ((σ148.1 662 a0) : Int32).toInt := congrArg Int32.toInt (show σ198.1 662 a0 = (σ148.1 662 a0) from ((kp_c p199_0 (by decide)).trans rfl)); have : (v18 : Int32).toInt = (6 : Int32).toInt := congrArg Int32.toInt c19; have : (v181 : Int32).toInt = (0 : Int32).toInt := congrArg Int32.toInt c183; have : ((σ148.1 662 a0) : Int32).toInt < ((σ_48.1 660 a0) : Int32).toInt := iv_lt.mp (iv_nle c186); have : (0 : Int32).toInt = 0 := (by decide); have : (59 : Int32).toInt = 59 := (by decide); have : (6 : Int32).toInt = 6 := (by decide); have : (76 : Int32).toInt = 76 := (by decide); exact ⟨by omega, by omega⟩)
                  refine lv_if_ne (tgt := 123) hx hb dX11_herds_113 (by decide) (fun c205 => ?_) (fun c205 => ?_)
                  · --
                    exact iv_no (iv_ne1 c205 i204 (⟨by decide, by decide⟩ : Iv 0 0 0) (by decide)) (by decide)
                  · --
                    refine lv_iconst (v := (-1)) hx hb dX11_herds_116 (by decide) ?_
                    refine lv_aload_n hx hb dX11_herds_117 rfl (lv_at hl 2 rfl) ?_
                    refine g_663 cx hw ha0 k_f_X11_123 dX11_herds_118 (fun v206 e206 i206 => ?_)
                    rw [show v206 = (σ198.1 663 a0) from e206.trans rfl]
                    refine lv_isub hx hb dX11_herds_121 ?_
                    refine lv_topi (fun v207 e207 => ?_)
                    have i207 : Iv v207 (-201) (-1) := iv_sub e207 (⟨by decide, by decide⟩ : Iv (-1) (-1) (-1)) i201 (by decide)
                    have x207 : v207.toInt = (-1) - (σ198.1 663 a0).toInt := by have q9 := ex_sub e207 (⟨by decide, by decide⟩ : Iv (-1) (-1) (-1)) i201 (by decide); rw [show ((-1) : Int32).toInt = (-1) from by decide] at q9; exact q9
                    rw [← hQ]
                    exact o_ri cx rx hw dX11_herds_122 ⟨fr, (iv_w i207 (by decide)), (kn_iv (((kp_c p199_0 (by decide)).trans ((kp_c p149_0 (by decide)).trans ((kp_c p141_0 (by decide)).trans rfl)))) (iv_w f48_655_a0 (by decide)))⟩
              · --
                exact iv_no (iv_ne1 c183 i182 (⟨by decide, by decide⟩ : Iv 0 0 0) (by decide)) (by decide)
      refine lv_if_eq (tgt := 90) hx hb dX11_herds_45 (by decide) (fun c208 => ?_) (fun c208 => ?_)
      · --
        exact iv_no (iv_eq1 (lo := 1) (hi := 0) c208 i16 (⟨by decide, by decide⟩ : Iv 0 0 0) (by decide)) (by decide)
      · --
        exact J_48 _ 0 (iv_w (⟨by decide, by decide⟩ : Iv 0 0 0) (by decide)) 1 (⟨by decide, by decide⟩ : Iv 1 1 1) σ8 _ _ hw fr (kn_iv ((kp_s eσ8)) (iv_w (⟨by decide, by decide⟩ : Iv 0 0 0) (by decide))) (kn_iv (((kp_i eσ8 (by decide)).trans rfl)) (iv_w i11 (by decide))) (kn_iv (((kp_i eσ8 (by decide)).trans rfl)) (iv_w p7_3 (by decide))) (kn_iv (((kp_i eσ8 (by decide)).trans rfl)) (iv_w p7_4 (by decide))) (kn_iv (((kp_i eσ8 (by decide)).trans rfl)) (iv_w p7_5 (by decide))) (((kr_i eσ8).trans p7_1)) (Nat.lt_succ_self _) (by have q9 : Iv (σ8.1 647 a0) 0 6 := o_fb (j := 647) hw ha0 rfl; have := q9.1; have := q9.2; have := (i11).1; have := (i11).2; have := (p7_3).1; have := (p7_3).2; have := (p7_4).1; have := (p7_4).2; have := (p7_5).1; have := (p7_5).2; have := (i4).1; have := (i4).2; have := (i5).1; have := (i5).2; have := (i16).1; have := (i16).2; have : (σ8.1 658 a0).toInt = (0 : Int32).toInt := congrArg Int32.toInt (show σ8.1 658 a0 = 0 from ((kp_i eσ8 (by decide)).trans ((kp_c p7_0 (by decide)).trans (kp_s eσ1)))); have : (σ8.1 660 a0).toInt = ((σ6.1 660 a0) : Int32).toInt := congrArg Int32.toInt (show σ8.1 660 a0 = (σ6.1 660 a0) from ((kp_i eσ8 (by decide)).trans rfl)); have : (σ8.1 661 a0).toInt = ((σ6.1 661 a0) : Int32).toInt := congrArg Int32.toInt (show σ8.1 661 a0 = (σ6.1 661 a0) from ((kp_i eσ8 (by decide)).trans rfl)); have : (σ8.1 662 a0).toInt = ((σ6.1 662 a0) : Int32).toInt := congrArg Int32.toInt (show σ8.1 662 a0 = (σ6.1 662 a0) from ((kp_i eσ8 (by decide)).trans rfl)); have : (σ8.1 663 a0).toInt = ((σ6.1 663 a0) : Int32).toInt := congrArg Int32.toInt (show σ8.1 663 a0 = (σ6.1 663 a0) from ((kp_i eσ8 (by decide)).trans rfl)); have : (σ8.1 655 a0).toInt = (0 : Int32).toInt := congrArg Int32.toInt (show σ8.1 655 a0 = 0 from (kp_s eσ8)); have : (0 : Int32).toInt = 0 := (by decide); have : (1 : Int32).toInt = 1 := (by decide); have : (76 : Int32).toInt = 76 := (by decide); omega) _ (lv_sub hl [2, 1, 0] rfl)
  · --
    have i209 : Iv (σ6.1 660 a0) 0 0 := iv_eq1 c10 p7_2 (⟨by decide, by decide⟩ : Iv 0 0 0) (by decide)
    refine lv_iconst (v := 0) hx hb dX11_herds_31 (by decide) ?_
    rw [← hQ]
    exact o_ri cx rx hw dX11_herds_32 ⟨fr, (iv_w (⟨by decide, by decide⟩ : Iv 0 0 0) (by decide)), (kn_iv ((kp_s eσ8)) (iv_w (⟨by decide, by decide⟩ : Iv 0 0 0) (by decide)))⟩
abbrev fs_X11_rule : List Nat := [655, 658, 659, 660, 661, 662, 663, 668, 669]
abbrev ts_X11_rule : List Nat := [54]
set_option maxHeartbeats 4000000 in
set_option maxRecDepth 100000 in
theorem c_X11_rule (a0 : Nat) (ha0 : oA L τ a0 10) : oMet l A L τ cy D K yX11_rule cX11_rule 3 (some .int) 338 8494 [.ref a0] σ (va_Qi (fun r σ1 => oFr τ fs_X11_rule ts_X11_rule σ σ1 ∧ Iv r (-201) 0 ∧ Iv (σ1.1 655 a0) 0 0 ∧ (((σ.1 655 a0).toInt = 0 ∧ r.toInt = 0) ∨ (0 < (σ.1 655 a0).toInt ∧ r.toInt = raM (fun i => oRw σ 654 a0 i &&& 255) (σ.1 655 a0).toInt))) (oPo A L τ cy D) A) := by
  refine oMk (by decide) (Nat.le_of_ble_eq_true rfl) rfl ?_
  intro p e s m args below meth c ls cx rx hA hw hl
  generalize hQ : MQ below _ args s 0 0 A = Q
  have hx := cx.1.1
  have hb := cx.1.2.1
  have hml := cx.1.2.2.1
  have hown := cx.1.2.2.2.1
  have hts := cx.1.2.2.2.2
  have hl : lv_has ls 3 [(0, .ref a0)] := hl
  have fr : oFr τ fs_X11_rule ts_X11_rule σ σ := oFr_rf
  obtain ⟨b654, hF654, hb654⟩ := hw.2.2.2.2.2 654 a0 51 (by rw [ha0.2]; rfl) ha0.1
  have iz655 : Iv (σ.1 655 a0) (0) 80 := o_fb (j := 655) hw ha0 rfl
  refine lv_aload_n hx hb dX11_rule_0 rfl (lv_at hl 0 rfl) ?_
  refine lv_iconst (v := 0) hx hb dX11_rule_1 (by decide) ?_
  refine p_658 cx hw ha0 k_f_X11_89 dX11_rule_2 (fun σ1 H locs eσ1 hw => ?_)
  have fr := oFr_i fr eσ1 (by decide)
  refine lv_aload_n hx hb dX11_rule_5 rfl (lv_at hl 0 rfl) ?_
  refine g_655 cx hw ha0 k_f_X11_108 dX11_rule_6 (fun v2 e2 i2 => ?_)
  rw [show v2 = (σ.1 655 a0) from e2.trans ((kp_i eσ1 (by decide)).trans rfl)]
  refine lv_istore_n (lv' := [(1, .int (σ.1 655 a0)), (0, .ref a0)]) hx hb dX11_rule_9 rfl hl (by decide) rfl (fun ls hl => ?_)
  refine lv_aload_n hx hb dX11_rule_10 rfl (lv_at hl 1 rfl) ?_
  refine lv_aload_n hx hb dX11_rule_11 rfl (lv_at hl 1 rfl) ?_
  refine g_654 cx hw ha0 k_f_X11_32 dX11_rule_12 (fun v3 e3 h3 => ?_)
  rw [show v3 = b654 from Option.some.inj (e3.symm.trans (((kr_i eσ1).trans hF654)))]
  refine lv_iload_n hx hb dX11_rule_15 rfl (lv_at hl 0 rfl) ?_
  refine lv_bipush (v := 40) hx hb dX11_rule_16 (by decide) ?_
  have i4 : Iv (σ1.1 660 a0) 0 80 := o_fb (j := 660) hw ha0 rfl
  have i5 : Iv (σ1.1 661 a0) 0 80 := o_fb (j := 661) hw ha0 rfl
  refine o_cv hw (oRunV cx hA hw q_X11_begin k_m_X11_142 rfl ha0 (by decide) (As := [.ref b654, .int (σ.1 655 a0), .int 40]) (c_X11_beginT a0 ha0 b654 hb654 (σ.1 655 a0) (iv_w iz655 (by decide)) 40 (iv_w (⟨by decide, by decide⟩ : Iv 40 40 40) (by decide))) (by decide) rfl hl.1 rfl (Nat.le_of_ble_eq_true rfl) dX11_rule_18 (by decide)) (fun σ6 H locs hp hw => ?_)
  obtain ⟨p7_0, p7_1, p7_2, p7_3, p7_4, p7_5, p7_6⟩ := hp
  have fr := oFr_tr fr p7_0 (by decide)
  refine lv_aload_n hx hb dX11_rule_21 rfl (lv_at hl 1 rfl) ?_
  refine lv_iconst (v := 0) hx hb dX11_rule_22 (by decide) ?_
  refine p_655 cx hw ha0 (iv_w (⟨by decide, by decide⟩ : Iv 0 0 0) (by decide)) k_f_X11_108 dX11_rule_23 (fun σ8 H locs eσ8 hw => ?_)
  have fr := oFr_i fr eσ8 (by decide)
  refine lv_aload_n hx hb dX11_rule_26 rfl (lv_at hl 1 rfl) ?_
  refine lv_iconst (v := 0) hx hb dX11_rule_27 (by decide) ?_
  refine p_669 cx hw ha0 (iv_w (⟨by decide, by decide⟩ : Iv 0 0 0) (by decide)) k_f_X11_205 dX11_rule_28 (fun σ9 H locs eσ9 hw => ?_)
  have fr := oFr_i fr eσ9 (by decide)
  refine lv_iload_n hx hb dX11_rule_31 rfl (lv_at hl 0 rfl) ?_
  have frE_71 := fr
  have J_71 : ∀ (σ_71 : oSt) (H : Heap) (locs : List Loc), oI A L τ cy D s.heap σ_71 H locs → oFr τ fs_X11_rule ts_X11_rule σ σ_71 → Iv (σ_71.1 655 a0) 0 0 → Iv (σ_71.1 660 a0) 0 80 → Iv (σ_71.1 661 a0) 0 80 → Iv (σ_71.1 662 a0) 0 200 → Iv (σ_71.1 663 a0) (-1) (-1) → σ_71.2.2.2.2 659 a0 = some b654 → (((σ.1 655 a0) : Int32).toInt ≤ 40) → ((σ.1 655 a0).toInt = 0 ∨ (0 < (σ.1 655 a0).toInt ∧ raM (fun i => oRw σ 654 a0 i &&& 255) (σ.1 655 a0).toInt = 0)) → ∀ (ls : Array Slot), lv_has ls 3 [(0, .ref a0), (1, .int (σ.1 655 a0))] → W p l e ({ frames := 338, cells := 0, slots := 0, locals := 8494 } : Room) s m args below meth c H locs 0 0 Q (F0 m 71 ls []) := by
    intro  σ_71 H locs hw fr f71_655_a0 f71_660_a0 f71_661_a0 f71_662_a0 f71_663_a0 r71_659   hq ru71  ls hl
    have fr_71 := fr
    have i10 : Iv (σ.1 655 a0) 0 40 := (by have := (iz655).1; have := (iz655).2; have := (f71_660_a0).1; have := (f71_660_a0).2; have := (f71_661_a0).1; have := (f71_661_a0).2; have := (f71_655_a0).1; have := (f71_655_a0).2; have := (f71_662_a0).1; have := (f71_662_a0).2; have := (f71_663_a0).1; have := (f71_663_a0).2; have := (i4).1; have := (i4).2; have := (i5).1; have := (i5).2; have := (p7_2).1; have := (p7_2).2; have := (p7_3).1; have := (p7_3).2; have := (p7_4).1; have := (p7_4).2; have := (p7_5).1; have := (p7_5).2; have : (40 : Int32).toInt = 40 := (by decide); exact ⟨by omega, by omega⟩)
    refine lv_iconst (v := 0) hx hb dX11_rule_71 (by decide) ?_
    refine lv_istore_n (lv' := [(2, .int 0), (0, .ref a0), (1, .int (σ.1 655 a0))]) hx hb dX11_rule_72 rfl hl (by decide) rfl (fun ls hl => ?_)
    have frE_73 := fr
    have J_73 : ∀ n73 : Nat, ∀ (j73_2 : Int32) (ij73_2 : Iv j73_2 0 40), ∀ (σ_73 : oSt) (H : Heap) (locs : List Loc), oI A L τ cy D s.heap σ_73 H locs → oFr τ fs_X11_rule ts_X11_rule σ σ_73 → Iv (σ_73.1 655 a0) 0 0 → Iv (σ_73.1 660 a0) 0 80 → Iv (σ_73.1 661 a0) 0 80 → Iv (σ_73.1 662 a0) 0 200 → Iv (σ_73.1 663 a0) (-1) (-1) → σ_73.2.2.2.2 659 a0 = some b654 → (40 - j73_2.toInt).toNat < n73 → ∀ (ls : Array Slot), lv_has ls 3 [(0, .ref a0), (1, .int (σ.1 655 a0)), (2, .int j73_2)] → W p l e ({ frames := 338, cells := 0, slots := 0, locals := 8494 } : Room) s m args below meth c H locs 0 0 Q (F0 m 73 ls []) := by
      intro n73
      induction n73 with
      | zero => intro j73_2 ij73_2 σ_73 H locs hw fr f73_655_a0 f73_660_a0 f73_661_a0 f73_662_a0 f73_663_a0 r73_659  hn_73   ls hl; exact absurd hn_73 (Nat.not_lt_zero _)
      | succ n73 ih_73 =>
        intro j73_2 ij73_2 σ_73 H locs hw fr f73_655_a0 f73_660_a0 f73_661_a0 f73_662_a0 f73_663_a0 r73_659  hn_73   ls hl
        have fr_73 := fr
        refine lv_iload_n hx hb dX11_rule_73 rfl (lv_at hl 2 rfl) ?_
        refine lv_iload_n hx hb dX11_rule_74 rfl (lv_at hl 1 rfl) ?_
        refine lv_icmp_ge (tgt := 96) hx hb dX11_rule_75 (by decide) (fun c11 => ?_) (fun c11 => ?_)
        · --
          refine lv_aload_n hx hb dX11_rule_96 rfl (lv_at hl 0 rfl) ?_
          refine lv_iload_n hx hb dX11_rule_97 rfl (lv_at hl 1 rfl) ?_
          refine p_668 cx hw ha0 (iv_w i10 (by decide)) k_f_X11_208 dX11_rule_98 (fun σ12 H locs eσ12 hw => ?_)
          have fr := oFr_i fr eσ12 (by decide)
          refine lv_iconst (v := 0) hx hb dX11_rule_101 (by decide) ?_
          rw [← hQ]
          exact o_ri cx rx hw dX11_rule_102 ⟨fr, (iv_w (⟨by decide, by decide⟩ : Iv 0 0 0) (by decide)), (kn_iv (((kp_i eσ12 (by decide)).trans rfl)) (iv_w f73_655_a0 (by decide))), (by exact (by have := (i10).1; have := (i10).2; have := (ij73_2).1; have := (ij73_2).2; have := (f73_660_a0).1; have := (f73_660_a0).2; have := (f73_661_a0).1; have := (f73_661_a0).2; have := (f73_655_a0).1; have := (f73_655_a0).2; have := (f73_662_a0).1; have := (f73_662_a0).2; have := (f73_663_a0).1; have := (f73_663_a0).2; have := (i4).1; have := (i4).2; have := (i5).1; have := (i5).2; have := (p7_2).1; have := (p7_2).2; have := (p7_3).1; have := (p7_3).2; have := (p7_4).1; have := (p7_4).2; have := (p7_5).1; have := (p7_5).2; have : (σ12.1 660 a0).toInt = ((σ_73.1 660 a0) : Int32).toInt := congrArg Int32.toInt (show σ12.1 660 a0 = (σ_73.1 660 a0) from ((kp_i eσ12 (by decide)).trans rfl)); have : (σ12.1 661 a0).toInt = ((σ_73.1 661 a0) : Int32).toInt := congrArg Int32.toInt (show σ12.1 661 a0 = (σ_73.1 661 a0) from ((kp_i eσ12 (by decide)).trans rfl)); have : (σ12.1 655 a0).toInt = ((σ_73.1 655 a0) : Int32).toInt := congrArg Int32.toInt (show σ12.1 655 a0 = (σ_73.1 655 a0) from ((kp_i eσ12 (by decide)).trans rfl)); have : (σ12.1 662 a0).toInt = ((σ_73.1 662 a0) : Int32).toInt := congrArg Int32.toInt (show σ12.1 662 a0 = (σ_73.1 662 a0) from ((kp_i eσ12 (by decide)).trans rfl)); have : (σ12.1 663 a0).toInt = ((σ_73.1 663 a0) : Int32).toInt := congrArg Int32.toInt (show σ12.1 663 a0 = (σ_73.1 663 a0) from ((kp_i eσ12 (by decide)).trans rfl)); have : (σ12.1 668 a0).toInt = ((σ.1 655 a0) : Int32).toInt := congrArg Int32.toInt (show σ12.1 668 a0 = (σ.1 655 a0) from (kp_s eσ12)); have : ((σ.1 655 a0) : Int32).toInt ≤ (j73_2 : Int32).toInt := iv_le.mp c11; have : (0 : Int32).toInt = 0 := (by decide); have : (40 : Int32).toInt = 40 := (by decide); omega))⟩
        · --
          have i13 : Iv j73_2 0 39 := iv_lt1 (iv_nle c11) ij73_2 i10 (by decide)
          have i14 : Iv (σ.1 655 a0) 1 40 := iv_lt2 (iv_nle c11) ij73_2 i10 (by decide)
          refine lv_aload_n hx hb dX11_rule_78 rfl (lv_at hl 0 rfl) ?_
          refine g_667 cx hw ha0 k_f_X11_49 dX11_rule_79 (fun v15 e15 h15 => ?_)
          refine lv_iload_n hx hb dX11_rule_82 rfl (lv_at hl 2 rfl) ?_
          refine lv_aload_n hx hb dX11_rule_83 rfl (lv_at hl 0 rfl) ?_
          refine g_654 cx hw ha0 k_f_X11_32 dX11_rule_84 (fun v16 e16 h16 => ?_)
          rw [show v16 = b654 from Option.some.inj (e16.symm.trans (((kr_c fr_73 (by decide)).trans hF654)))]
          refine lv_iload_n hx hb dX11_rule_87 rfl (lv_at hl 2 rfl) ?_
          refine o_bald cx hw hb654 (by decide) rfl (iv_in i13 (by decide)) dX11_rule_88 (fun v17 e17 b17 => ?_)
          have i17 : Iv v17 (-128) 127 := b17
          refine o_bast cx hw h15 (by decide) rfl (iv_in i13 (by decide)) (rb_byte _) dX11_rule_89 (fun σ18 H locs eσ18 hw => ?_)
          have fr := oFr_p fr eσ18 h15 (by decide)
          obtain ⟨v19, e19⟩ : ∃ y : Int32, y = j73_2 + 1 := ⟨_, rfl⟩
          have i19 : Iv v19 1 40 := iv_add e19 i13 (⟨by decide, by decide⟩ : Iv 1 1 1) (by decide)
          have x19 : v19.toInt = j73_2.toInt + 1 := ex_add e19 i13 (⟨by decide, by decide⟩ : Iv 1 1 1) (by decide)
          refine lv_iinc (v := v19) (lv' := [(2, .int v19), (0, .ref a0), (1, .int (σ.1 655 a0))]) hx hb dX11_rule_90 hl (k := 2) rfl (by rw [e19]; rfl) (by decide) rfl (fun ls hl => ?_)
          refine lv_goto (tgt := 73) hx hb dX11_rule_93 (by decide) ?_
          exact ih_73 v19 (iv_w i19 (by decide)) σ18 _ _ hw fr (kn_iv (((kp_p eσ18).trans rfl)) (iv_w f73_655_a0 (by decide))) (kn_iv (((kp_p eσ18).trans rfl)) (iv_w f73_660_a0 (by decide))) (kn_iv (((kp_p eσ18).trans rfl)) (iv_w f73_661_a0 (by decide))) (kn_iv (((kp_p eσ18).trans rfl)) (iv_w f73_662_a0 (by decide))) (kn_iv (((kp_p eσ18).trans rfl)) (iv_w f73_663_a0 (by decide))) (((kr_p eσ18).trans r73_659)) (ms_up x19 (by decide) (iv_w (a' := 0) (b' := 40) i19 (by decide)).2 hn_73) _ (lv_sub hl [1, 2, 0] rfl)
    exact J_73 _ 0 (iv_w (⟨by decide, by decide⟩ : Iv 0 0 0) (by decide)) σ_71 _ _ hw fr (kn_iv (rfl) (iv_w f71_655_a0 (by decide))) (kn_iv (rfl) (iv_w f71_660_a0 (by decide))) (kn_iv (rfl) (iv_w f71_661_a0 (by decide))) (kn_iv (rfl) (iv_w f71_662_a0 (by decide))) (kn_iv (rfl) (iv_w f71_663_a0 (by decide))) (r71_659) (Nat.lt_succ_self _) _ (lv_sub hl [1, 2, 0] rfl)
  refine lv_if_le (tgt := 71) hx hb dX11_rule_32 (by decide) (fun c20 => ?_) (fun c20 => ?_)
  · --
    have i21 : Iv (σ.1 655 a0) 0 0 := iv_le1 c20 iz655 (⟨by decide, by decide⟩ : Iv 0 0 0) (by decide)
    exact J_71 σ9 _ _ hw fr (kn_iv (((kp_i eσ9 (by decide)).trans (kp_s eσ8))) (iv_w (⟨by decide, by decide⟩ : Iv 0 0 0) (by decide))) (kn_iv (((kp_i eσ9 (by decide)).trans ((kp_i eσ8 (by decide)).trans rfl))) (iv_w p7_2 (by decide))) (kn_iv (((kp_i eσ9 (by decide)).trans ((kp_i eσ8 (by decide)).trans rfl))) (iv_w p7_3 (by decide))) (kn_iv (((kp_i eσ9 (by decide)).trans ((kp_i eσ8 (by decide)).trans rfl))) (iv_w p7_4 (by decide))) (kn_iv (((kp_i eσ9 (by decide)).trans ((kp_i eσ8 (by decide)).trans rfl))) (iv_w p7_5 (by decide))) (((kr_i eσ9).trans ((kr_i eσ8).trans p7_1))) (by have := (i21).1; have := (i21).2; have := (p7_2).1; have := (p7_2).2; have := (p7_3).1; have := (p7_3).2; have := (p7_4).1; have := (p7_4).2; have := (p7_5).1; have := (p7_5).2; have := (i4).1; have := (i4).2; have := (i5).1; have := (i5).2; have : (σ9.1 658 a0).toInt = (0 : Int32).toInt := congrArg Int32.toInt (show σ9.1 658 a0 = 0 from ((kp_i eσ9 (by decide)).trans ((kp_i eσ8 (by decide)).trans ((kp_c p7_0 (by decide)).trans (kp_s eσ1))))); have : (σ9.1 660 a0).toInt = ((σ6.1 660 a0) : Int32).toInt := congrArg Int32.toInt (show σ9.1 660 a0 = (σ6.1 660 a0) from ((kp_i eσ9 (by decide)).trans ((kp_i eσ8 (by decide)).trans rfl))); have : (σ9.1 661 a0).toInt = ((σ6.1 661 a0) : Int32).toInt := congrArg Int32.toInt (show σ9.1 661 a0 = (σ6.1 661 a0) from ((kp_i eσ9 (by decide)).trans ((kp_i eσ8 (by decide)).trans rfl))); have : (σ9.1 662 a0).toInt = ((σ6.1 662 a0) : Int32).toInt := congrArg Int32.toInt (show σ9.1 662 a0 = (σ6.1 662 a0) from ((kp_i eσ9 (by decide)).trans ((kp_i eσ8 (by decide)).trans rfl))); have : (σ9.1 663 a0).toInt = ((σ6.1 663 a0) : Int32).toInt := congrArg Int32.toInt (show σ9.1 663 a0 = (σ6.1 663 a0) from ((kp_i eσ9 (by decide)).trans ((kp_i eσ8 (by decide)).trans rfl))); have : (σ9.1 655 a0).toInt = (0 : Int32).toInt := congrArg Int32.toInt (show σ9.1 655 a0 = 0 from ((kp_i eσ9 (by decide)).trans (kp_s eσ8))); have : (σ9.1 669 a0).toInt = (0 : Int32).toInt := congrArg Int32.toInt (show σ9.1 669 a0 = 0 from (kp_s eσ9)); have : ((σ.1 655 a0) : Int32).toInt ≤ (0 : Int32).toInt := iv_le.mp c20; have : (0 : Int32).toInt = 0 := (by decide); have : (40 : Int32).toInt = 40 := (by decide); omega) (Or.inl (by have := (i21).1; have := (i21).2; have := (p7_2).1; have := (p7_2).2; have := (p7_3).1; have := (p7_3).2; have := (p7_4).1; have := (p7_4).2; have := (p7_5).1; have := (p7_5).2; have := (i4).1; have := (i4).2; have := (i5).1; have := (i5).2; have : (σ9.1 658 a0).toInt = (0 : Int32).toInt := congrArg Int32.toInt (show σ9.1 658 a0 = 0 from ((kp_i eσ9 (by decide)).trans ((kp_i eσ8 (by decide)).trans ((kp_c p7_0 (by decide)).trans (kp_s eσ1))))); have : (σ9.1 660 a0).toInt = ((σ6.1 660 a0) : Int32).toInt := congrArg Int32.toInt (show σ9.1 660 a0 = (σ6.1 660 a0) from ((kp_i eσ9 (by decide)).trans ((kp_i eσ8 (by decide)).trans rfl))); have : (σ9.1 661 a0).toInt = ((σ6.1 661 a0) : Int32).toInt := congrArg Int32.toInt (show σ9.1 661 a0 = (σ6.1 661 a0) from ((kp_i eσ9 (by decide)).trans ((kp_i eσ8 (by decide)).trans rfl))); have : (σ9.1 662 a0).toInt = ((σ6.1 662 a0) : Int32).toInt := congrArg Int32.toInt (show σ9.1 662 a0 = (σ6.1 662 a0) from ((kp_i eσ9 (by decide)).trans ((kp_i eσ8 (by decide)).trans rfl))); have : (σ9.1 663 a0).toInt = ((σ6.1 663 a0) : Int32).toInt := congrArg Int32.toInt (show σ9.1 663 a0 = (σ6.1 663 a0) from ((kp_i eσ9 (by decide)).trans ((kp_i eσ8 (by decide)).trans rfl))); have : (σ9.1 655 a0).toInt = (0 : Int32).toInt := congrArg Int32.toInt (show σ9.1 655 a0 = 0 from ((kp_i eσ9 (by decide)).trans (kp_s eσ8))); have : (σ9.1 669 a0).toInt = (0 : Int32).toInt := congrArg Int32.toInt (show σ9.1 669 a0 = 0 from (kp_s eσ9)); have : ((σ.1 655 a0) : Int32).toInt ≤ (0 : Int32).toInt := iv_le.mp c20; have : (0 : Int32).toInt = 0 := (by decide); have : (40 : Int32).toInt = 40 := (by decide); omega)) _ (lv_sub hl [1, 0] rfl)
  · --
    have i22 : Iv (σ.1 655 a0) 1 80 := iv_lt2 (iv_nle c20) (⟨by decide, by decide⟩ : Iv 0 0 0) iz655 (by decide)
    refine lv_aload_n hx hb dX11_rule_35 rfl (lv_at hl 1 rfl) ?_
    refine lv_iconst (v := 0) hx hb dX11_rule_36 (by decide) ?_
    have i23 : Iv (σ6.1 661 a0) 40 40 := (by have := (i22).1; have := (i22).2; have := (p7_2).1; have := (p7_2).2; have := (p7_3).1; have := (p7_3).2; have := (p7_4).1; have := (p7_4).2; have := (p7_5).1; have := (p7_5).2; have := (i4).1; have := (i4).2; have := (i5).1; have := (i5).2; have : (σ9.1 658 a0).toInt = (0 : Int32).toInt := congrArg Int32.toInt (show σ9.1 658 a0 = 0 from ((kp_i eσ9 (by decide)).trans ((kp_i eσ8 (by decide)).trans ((kp_c p7_0 (by decide)).trans (kp_s eσ1))))); have : (σ9.1 660 a0).toInt = ((σ6.1 660 a0) : Int32).toInt := congrArg Int32.toInt (show σ9.1 660 a0 = (σ6.1 660 a0) from ((kp_i eσ9 (by decide)).trans ((kp_i eσ8 (by decide)).trans rfl))); have : (σ9.1 661 a0).toInt = ((σ6.1 661 a0) : Int32).toInt := congrArg Int32.toInt (show σ9.1 661 a0 = (σ6.1 661 a0) from ((kp_i eσ9 (by decide)).trans ((kp_i eσ8 (by decide)).trans rfl))); have : (σ9.1 662 a0).toInt = ((σ6.1 662 a0) : Int32).toInt := congrArg Int32.toInt (show σ9.1 662 a0 = (σ6.1 662 a0) from ((kp_i eσ9 (by decide)).trans ((kp_i eσ8 (by decide)).trans rfl))); have : (σ9.1 663 a0).toInt = ((σ6.1 663 a0) : Int32).toInt := congrArg Int32.toInt (show σ9.1 663 a0 = (σ6.1 663 a0) from ((kp_i eσ9 (by decide)).trans ((kp_i eσ8 (by decide)).trans rfl))); have : (σ9.1 655 a0).toInt = (0 : Int32).toInt := congrArg Int32.toInt (show σ9.1 655 a0 = 0 from ((kp_i eσ9 (by decide)).trans (kp_s eσ8))); have : (σ9.1 669 a0).toInt = (0 : Int32).toInt := congrArg Int32.toInt (show σ9.1 669 a0 = 0 from (kp_s eσ9)); have : (0 : Int32).toInt < ((σ.1 655 a0) : Int32).toInt := iv_lt.mp (iv_nle c20); have : (0 : Int32).toInt = 0 := (by decide); have : (40 : Int32).toInt = 40 := (by decide); exact ⟨by omega, by omega⟩)
    have z24 : (σ9.1 662 a0).toInt = ((σ6.1 662 a0) : Int32).toInt := congrArg Int32.toInt (show σ9.1 662 a0 = (σ6.1 662 a0) from ((kp_i eσ9 (by decide)).trans ((kp_i eσ8 (by decide)).trans rfl)))
    have z25 : (σ9.1 660 a0).toInt = ((σ6.1 660 a0) : Int32).toInt := congrArg Int32.toInt (show σ9.1 660 a0 = (σ6.1 660 a0) from ((kp_i eσ9 (by decide)).trans ((kp_i eσ8 (by decide)).trans rfl)))
    have z26 : (σ9.1 663 a0).toInt = ((σ6.1 663 a0) : Int32).toInt := congrArg Int32.toInt (show σ9.1 663 a0 = (σ6.1 663 a0) from ((kp_i eσ9 (by decide)).trans ((kp_i eσ8 (by decide)).trans rfl)))
    have z27 : (σ9.1 661 a0).toInt = ((σ6.1 661 a0) : Int32).toInt := congrArg Int32.toInt (show σ9.1 661 a0 = (σ6.1 661 a0) from ((kp_i eσ9 (by decide)).trans ((kp_i eσ8 (by decide)).trans rfl)))
    have er_b : oRw σ 654 a0 = σ9.2.2.1 b654 := by rw [oRw_s hF654]; exact (rw_c fr hb654 (by decide)).symm
    have i9 : (0 : Int32).toInt = 0 := by decide
    refine o_ci hw (oRunV cx hA hw q_X11_held k_m_X11_195 rfl ha0 (by decide) (As := [.int 0]) (c_X11_heldTz a0 ha0 0 (iv_w (⟨by decide, by decide⟩ : Iv 0 0 0) (by decide)) b654 (((kr_i eσ9).trans ((kr_i eσ8).trans p7_1))) hb654 (kn_iv (((kp_i eσ9 (by decide)).trans ((kp_i eσ8 (by decide)).trans rfl))) (iv_w p7_2 (by decide))) (kn_iv (((kp_i eσ9 (by decide)).trans ((kp_i eσ8 (by decide)).trans rfl))) (iv_w i23 (by decide))) (kn_iv (((kp_i eσ9 (by decide)).trans ((kp_i eσ8 (by decide)).trans rfl))) (iv_w p7_4 (by decide))) (kn_iv (((kp_i eσ9 (by decide)).trans ((kp_i eσ8 (by decide)).trans rfl))) (iv_w p7_5 (by decide)))) (by decide) rfl hl.1 rfl (Nat.le_of_ble_eq_true rfl) dX11_rule_37 (by decide)) (fun v29 σ28 H locs hp hw => ?_)
    obtain ⟨p29_0, p29_1, p29_2⟩ := hp
    have fr := oFr_tr fr p29_0 (by decide)
    have i30 : Iv (σ28.1 662 a0) 0 200 := o_fb (j := 662) hw ha0 rfl
    have i31 : Iv (σ28.1 663 a0) (-1) 200 := o_fb (j := 663) hw ha0 rfl
    refine lv_pop hx hb dX11_rule_40 rfl ?_
    refine lv_aload_n hx hb dX11_rule_41 rfl (lv_at hl 1 rfl) ?_
    refine g_662 cx hw ha0 k_f_X11_120 dX11_rule_42 (fun v32 e32 i32 => ?_)
    rw [show v32 = (σ28.1 662 a0) from e32.trans rfl]
    refine lv_iload_n hx hb dX11_rule_45 rfl (lv_at hl 0 rfl) ?_
    refine lv_icmp_ge (tgt := 57) hx hb dX11_rule_46 (by decide) (fun c33 => ?_) (fun c33 => ?_)
    · --
      have i34 : Iv (σ28.1 662 a0) 1 200 := iv_le2 c33 i22 i30 (by decide)
      refine lv_aload_n hx hb dX11_rule_57 rfl (lv_at hl 1 rfl) ?_
      refine o_ci hw (oRunV cx hA hw q_X11_fine k_m_X11_126 rfl ha0 (by decide) (As := []) (c_X11_fine a0 ha0) (by decide) rfl hl.1 rfl (Nat.le_of_ble_eq_true rfl) dX11_rule_58 (by decide)) (fun v36 σ35 H locs hp hw => ?_)
      obtain ⟨p36_0, p36_1, p36_2⟩ := hp
      rw [p36_0] at hw
      refine lv_if_ne (tgt := 71) hx hb dX11_rule_61 (by decide) (fun c37 => ?_) (fun c37 => ?_)
      · --
        have i38 : Iv v36 1 1 := iv_ne1 c37 p36_1 (⟨by decide, by decide⟩ : Iv 0 0 0) (by decide)
        have i39 : Iv (σ28.1 663 a0) (-1) (-1) := (fun h => (by have := nz_ti h; have := (i22).1; have := (i22).2; have := (p36_1).1; have := (p36_1).2; have := (p7_2).1; have := (p7_2).2; have := (i23).1; have := (i23).2; have := (i34).1; have := (i34).2; have := (i31).1; have := (i31).2; have := (i4).1; have := (i4).2; have := (i5).1; have := (i5).2; have := (p7_4).1; have := (p7_4).2; have := (p7_5).1; have := (p7_5).2; have : (σ28.1 658 a0).toInt = (0 : Int32).toInt := congrArg Int32.toInt (show σ28.1 658 a0 = 0 from ((kp_c p29_0 (by decide)).trans ((kp_i eσ9 (by decide)).trans ((kp_i eσ8 (by decide)).trans ((kp_c p7_0 (by decide)).trans (kp_s eσ1)))))); have : (σ28.1 660 a0).toInt = ((σ6.1 660 a0) : Int32).toInt := congrArg Int32.toInt (show σ28.1 660 a0 = (σ6.1 660 a0) from ((kp_c p29_0 (by decide)).trans ((kp_i eσ9 (by decide)).trans ((kp_i eσ8 (by decide)).trans rfl)))); have : (σ28.1 661 a0).toInt = ((σ6.1 661 a0) : Int32).toInt := congrArg Int32.toInt (show σ28.1 661 a0 = (σ6.1 661 a0) from ((kp_c p29_0 (by decide)).trans ((kp_i eσ9 (by decide)).trans ((kp_i eσ8 (by decide)).trans rfl)))); have : (σ28.1 655 a0).toInt = (0 : Int32).toInt := congrArg Int32.toInt (show σ28.1 655 a0 = 0 from ((kp_c p29_0 (by decide)).trans ((kp_i eσ9 (by decide)).trans (kp_s eσ8)))); have : (σ28.1 669 a0).toInt = (0 : Int32).toInt := congrArg Int32.toInt (show σ28.1 669 a0 = 0 from ((kp_c p29_0 (by decide)).trans (kp_s eσ9))); have : (0 : Int32).toInt < ((σ.1 655 a0) : Int32).toInt := iv_lt.mp (iv_nle c20); have : ((σ.1 655 a0) : Int32).toInt ≤ ((σ28.1 662 a0) : Int32).toInt := iv_le.mp c33; have : (0 : Int32).toInt = 0 := (by decide); have : (40 : Int32).toInt = 40 := (by decide); exact ⟨by omega, by omega⟩)) c37
        exact J_71 σ28 _ _ hw fr (kn_iv (((kp_c p29_0 (by decide)).trans ((kp_i eσ9 (by decide)).trans (kp_s eσ8)))) (iv_w (⟨by decide, by decide⟩ : Iv 0 0 0) (by decide))) (kn_iv (((kp_c p29_0 (by decide)).trans ((kp_i eσ9 (by decide)).trans ((kp_i eσ8 (by decide)).trans rfl)))) (iv_w p7_2 (by decide))) (kn_iv (((kp_c p29_0 (by decide)).trans ((kp_i eσ9 (by decide)).trans ((kp_i eσ8 (by decide)).trans rfl)))) (iv_w i23 (by decide))) (kn_iv (rfl) (iv_w i34 (by decide))) (kn_iv (rfl) (iv_w i39 (by decide))) (((kr_c p29_0 (by decide)).trans ((kr_i eσ9).trans ((kr_i eσ8).trans p7_1)))) (by have := (i22).1; have := (i22).2; have := (p7_2).1; have := (p7_2).2; have := (i23).1; have := (i23).2; have := (i34).1; have := (i34).2; have := (i39).1; have := (i39).2; have := (i4).1; have := (i4).2; have := (i5).1; have := (i5).2; have := (p7_4).1; have := (p7_4).2; have := (p7_5).1; have := (p7_5).2; have := (i38).1; have := (i38).2; have : (σ28.1 658 a0).toInt = (0 : Int32).toInt := congrArg Int32.toInt (show σ28.1 658 a0 = 0 from ((kp_c p29_0 (by decide)).trans ((kp_i eσ9 (by decide)).trans ((kp_i eσ8 (by decide)).trans ((kp_c p7_0 (by decide)).trans (kp_s eσ1)))))); have : (σ28.1 660 a0).toInt = ((σ6.1 660 a0) : Int32).toInt := congrArg Int32.toInt (show σ28.1 660 a0 = (σ6.1 660 a0) from ((kp_c p29_0 (by decide)).trans ((kp_i eσ9 (by decide)).trans ((kp_i eσ8 (by decide)).trans rfl)))); have : (σ28.1 661 a0).toInt = ((σ6.1 661 a0) : Int32).toInt := congrArg Int32.toInt (show σ28.1 661 a0 = (σ6.1 661 a0) from ((kp_c p29_0 (by decide)).trans ((kp_i eσ9 (by decide)).trans ((kp_i eσ8 (by decide)).trans rfl)))); have : (σ28.1 655 a0).toInt = (0 : Int32).toInt := congrArg Int32.toInt (show σ28.1 655 a0 = 0 from ((kp_c p29_0 (by decide)).trans ((kp_i eσ9 (by decide)).trans (kp_s eσ8)))); have : (σ28.1 669 a0).toInt = (0 : Int32).toInt := congrArg Int32.toInt (show σ28.1 669 a0 = 0 from ((kp_c p29_0 (by decide)).trans (kp_s eσ9))); have : (0 : Int32).toInt < ((σ.1 655 a0) : Int32).toInt := iv_lt.mp (iv_nle c20); have : ((σ.1 655 a0) : Int32).toInt ≤ ((σ28.1 662 a0) : Int32).toInt := iv_le.mp c33; have : (0 : Int32).toInt = 0 := (by decide); have : (40 : Int32).toInt = 40 := (by decide); omega) (by have q9 := rq_rule (T := (fun i => oRw σ 654 a0 i &&& 255)) (n := (σ.1 655 a0).toInt) (q := (σ28.1 662 a0).toInt) (wr := (σ28.1 663 a0).toInt) (wr' := (σ28.1 663 a0).toInt) (fun i => (iv_and (v := oRw σ 654 a0 i &&& 255) rfl (⟨by decide, by decide⟩ : Iv 255 255 255) (by decide : (0 : Int) ≤ 255 ∧ (0 : Int) ≤ 0 ∧ (255 : Int) ≤ 255)).1) (rqH_conv p29_2 (by rw [er_b]) (by have := (i22).1; have := (i22).2; have := (p7_2).1; have := (p7_2).2; have := (i23).1; have := (i23).2; have := (i34).1; have := (i34).2; have := (i39).1; have := (i39).2; have := (i4).1; have := (i4).2; have := (i5).1; have := (i5).2; have := (p7_4).1; have := (p7_4).2; have := (p7_5).1; have := (p7_5).2; have := (i38).1; have := (i38).2; have : (σ28.1 658 a0).toInt = (0 : Int32).toInt := congrArg Int32.toInt (show σ28.1 658 a0 = 0 from ((kp_c p29_0 (by decide)).trans ((kp_i eσ9 (by decide)).trans ((kp_i eσ8 (by decide)).trans ((kp_c p7_0 (by decide)).trans (kp_s eσ1)))))); have : (σ28.1 660 a0).toInt = ((σ6.1 660 a0) : Int32).toInt := congrArg Int32.toInt (show σ28.1 660 a0 = (σ6.1 660 a0) from ((kp_c p29_0 (by decide)).trans ((kp_i eσ9 (by decide)).trans ((kp_i eσ8 (by decide)).trans rfl)))); have : (σ28.1 661 a0).toInt = ((σ6.1 661 a0) : Int32).toInt := congrArg Int32.toInt (show σ28.1 661 a0 = (σ6.1 661 a0) from ((kp_c p29_0 (by decide)).trans ((kp_i eσ9 (by decide)).trans ((kp_i eσ8 (by decide)).trans rfl)))); have : (σ28.1 655 a0).toInt = (0 : Int32).toInt := congrArg Int32.toInt (show σ28.1 655 a0 = 0 from ((kp_c p29_0 (by decide)).trans ((kp_i eσ9 (by decide)).trans (kp_s eσ8)))); have : (σ28.1 669 a0).toInt = (0 : Int32).toInt := congrArg Int32.toInt (show σ28.1 669 a0 = 0 from ((kp_c p29_0 (by decide)).trans (kp_s eσ9))); have : (0 : Int32).toInt < ((σ.1 655 a0) : Int32).toInt := iv_lt.mp (iv_nle c20); have : ((σ.1 655 a0) : Int32).toInt ≤ ((σ28.1 662 a0) : Int32).toInt := iv_le.mp c33; have : (0 : Int32).toInt = 0 := (by decide); have : (40 : Int32).toInt = 40 := (by decide); omega)) (by have := (i22).1; have := (i22).2; have := (p7_2).1; have := (p7_2).2; have := (i23).1; have := (i23).2; have := (i34).1; have := (i34).2; have := (i39).1; have := (i39).2; have := (i4).1; have := (i4).2; have := (i5).1; have := (i5).2; have := (p7_4).1; have := (p7_4).2; have := (p7_5).1; have := (p7_5).2; have := (i38).1; have := (i38).2; have : (σ28.1 658 a0).toInt = (0 : Int32).toInt := congrArg Int32.toInt (show σ28.1 658 a0 = 0 from ((kp_c p29_0 (by decide)).trans ((kp_i eσ9 (by decide)).trans ((kp_i eσ8 (by decide)).trans ((kp_c p7_0 (by decide)).trans (kp_s eσ1)))))); have : (σ28.1 660 a0).toInt = ((σ6.1 660 a0) : Int32).toInt := congrArg Int32.toInt (show σ28.1 660 a0 = (σ6.1 660 a0) from ((kp_c p29_0 (by decide)).trans ((kp_i eσ9 (by decide)).trans ((kp_i eσ8 (by decide)).trans rfl)))); have : (σ28.1 661 a0).toInt = ((σ6.1 661 a0) : Int32).toInt := congrArg Int32.toInt (show σ28.1 661 a0 = (σ6.1 661 a0) from ((kp_c p29_0 (by decide)).trans ((kp_i eσ9 (by decide)).trans ((kp_i eσ8 (by decide)).trans rfl)))); have : (σ28.1 655 a0).toInt = (0 : Int32).toInt := congrArg Int32.toInt (show σ28.1 655 a0 = 0 from ((kp_c p29_0 (by decide)).trans ((kp_i eσ9 (by decide)).trans (kp_s eσ8)))); have : (σ28.1 669 a0).toInt = (0 : Int32).toInt := congrArg Int32.toInt (show σ28.1 669 a0 = 0 from ((kp_c p29_0 (by decide)).trans (kp_s eσ9))); have : (0 : Int32).toInt < ((σ.1 655 a0) : Int32).toInt := iv_lt.mp (iv_nle c20); have : ((σ.1 655 a0) : Int32).toInt ≤ ((σ28.1 662 a0) : Int32).toInt := iv_le.mp c33; have : (0 : Int32).toInt = 0 := (by decide); have : (40 : Int32).toInt = 40 := (by decide); omega) (by have := (i22).1; have := (i22).2; have := (p7_2).1; have := (p7_2).2; have := (i23).1; have := (i23).2; have := (i34).1; have := (i34).2; have := (i39).1; have := (i39).2; have := (i4).1; have := (i4).2; have := (i5).1; have := (i5).2; have := (p7_4).1; have := (p7_4).2; have := (p7_5).1; have := (p7_5).2; have := (i38).1; have := (i38).2; have : (σ28.1 658 a0).toInt = (0 : Int32).toInt := congrArg Int32.toInt (show σ28.1 658 a0 = 0 from ((kp_c p29_0 (by decide)).trans ((kp_i eσ9 (by decide)).trans ((kp_i eσ8 (by decide)).trans ((kp_c p7_0 (by decide)).trans (kp_s eσ1)))))); have : (σ28.1 660 a0).toInt = ((σ6.1 660 a0) : Int32).toInt := congrArg Int32.toInt (show σ28.1 660 a0 = (σ6.1 660 a0) from ((kp_c p29_0 (by decide)).trans ((kp_i eσ9 (by decide)).trans ((kp_i eσ8 (by decide)).trans rfl)))); have : (σ28.1 661 a0).toInt = ((σ6.1 661 a0) : Int32).toInt := congrArg Int32.toInt (show σ28.1 661 a0 = (σ6.1 661 a0) from ((kp_c p29_0 (by decide)).trans ((kp_i eσ9 (by decide)).trans ((kp_i eσ8 (by decide)).trans rfl)))); have : (σ28.1 655 a0).toInt = (0 : Int32).toInt := congrArg Int32.toInt (show σ28.1 655 a0 = 0 from ((kp_c p29_0 (by decide)).trans ((kp_i eσ9 (by decide)).trans (kp_s eσ8)))); have : (σ28.1 669 a0).toInt = (0 : Int32).toInt := congrArg Int32.toInt (show σ28.1 669 a0 = 0 from ((kp_c p29_0 (by decide)).trans (kp_s eσ9))); have : (0 : Int32).toInt < ((σ.1 655 a0) : Int32).toInt := iv_lt.mp (iv_nle c20); have : ((σ.1 655 a0) : Int32).toInt ≤ ((σ28.1 662 a0) : Int32).toInt := iv_le.mp c33; have : (0 : Int32).toInt = 0 := (by decide); have : (40 : Int32).toInt = 40 := (by decide); omega) (by have := (i22).1; have := (i22).2; have := (p7_2).1; have := (p7_2).2; have := (i23).1; have := (i23).2; have := (i34).1; have := (i34).2; have := (i39).1; have := (i39).2; have := (i4).1; have := (i4).2; have := (i5).1; have := (i5).2; have := (p7_4).1; have := (p7_4).2; have := (p7_5).1; have := (p7_5).2; have := (i38).1; have := (i38).2; have : (σ28.1 658 a0).toInt = (0 : Int32).toInt := congrArg Int32.toInt (show σ28.1 658 a0 = 0 from ((kp_c p29_0 (by decide)).trans ((kp_i eσ9 (by decide)).trans ((kp_i eσ8 (by decide)).trans ((kp_c p7_0 (by decide)).trans (kp_s eσ1)))))); have : (σ28.1 660 a0).toInt = ((σ6.1 660 a0) : Int32).toInt := congrArg Int32.toInt (show σ28.1 660 a0 = (σ6.1 660 a0) from ((kp_c p29_0 (by decide)).trans ((kp_i eσ9 (by decide)).trans ((kp_i eσ8 (by decide)).trans rfl)))); have : (σ28.1 661 a0).toInt = ((σ6.1 661 a0) : Int32).toInt := congrArg Int32.toInt (show σ28.1 661 a0 = (σ6.1 661 a0) from ((kp_c p29_0 (by decide)).trans ((kp_i eσ9 (by decide)).trans ((kp_i eσ8 (by decide)).trans rfl)))); have : (σ28.1 655 a0).toInt = (0 : Int32).toInt := congrArg Int32.toInt (show σ28.1 655 a0 = 0 from ((kp_c p29_0 (by decide)).trans ((kp_i eσ9 (by decide)).trans (kp_s eσ8)))); have : (σ28.1 669 a0).toInt = (0 : Int32).toInt := congrArg Int32.toInt (show σ28.1 669 a0 = 0 from ((kp_c p29_0 (by decide)).trans (kp_s eσ9))); have : (0 : Int32).toInt < ((σ.1 655 a0) : Int32).toInt := iv_lt.mp (iv_nle c20); have : ((σ.1 655 a0) : Int32).toInt ≤ ((σ28.1 662 a0) : Int32).toInt := iv_le.mp c33; have : (0 : Int32).toInt = 0 := (by decide); have : (40 : Int32).toInt = 40 := (by decide); omega); exact Or.inr (by have := (i22).1; have := (i22).2; have := (p7_2).1; have := (p7_2).2; have := (i23).1; have := (i23).2; have := (i34).1; have := (i34).2; have := (i39).1; have := (i39).2; have := (i4).1; have := (i4).2; have := (i5).1; have := (i5).2; have := (p7_4).1; have := (p7_4).2; have := (p7_5).1; have := (p7_5).2; have := (i38).1; have := (i38).2; have : (σ28.1 658 a0).toInt = (0 : Int32).toInt := congrArg Int32.toInt (show σ28.1 658 a0 = 0 from ((kp_c p29_0 (by decide)).trans ((kp_i eσ9 (by decide)).trans ((kp_i eσ8 (by decide)).trans ((kp_c p7_0 (by decide)).trans (kp_s eσ1)))))); have : (σ28.1 660 a0).toInt = ((σ6.1 660 a0) : Int32).toInt := congrArg Int32.toInt (show σ28.1 660 a0 = (σ6.1 660 a0) from ((kp_c p29_0 (by decide)).trans ((kp_i eσ9 (by decide)).trans ((kp_i eσ8 (by decide)).trans rfl)))); have : (σ28.1 661 a0).toInt = ((σ6.1 661 a0) : Int32).toInt := congrArg Int32.toInt (show σ28.1 661 a0 = (σ6.1 661 a0) from ((kp_c p29_0 (by decide)).trans ((kp_i eσ9 (by decide)).trans ((kp_i eσ8 (by decide)).trans rfl)))); have : (σ28.1 655 a0).toInt = (0 : Int32).toInt := congrArg Int32.toInt (show σ28.1 655 a0 = 0 from ((kp_c p29_0 (by decide)).trans ((kp_i eσ9 (by decide)).trans (kp_s eσ8)))); have : (σ28.1 669 a0).toInt = (0 : Int32).toInt := congrArg Int32.toInt (show σ28.1 669 a0 = 0 from ((kp_c p29_0 (by decide)).trans (kp_s eσ9))); have : (0 : Int32).toInt < ((σ.1 655 a0) : Int32).toInt := iv_lt.mp (iv_nle c20); have : ((σ.1 655 a0) : Int32).toInt ≤ ((σ28.1 662 a0) : Int32).toInt := iv_le.mp c33; have : (0 : Int32).toInt = 0 := (by decide); have : (40 : Int32).toInt = 40 := (by decide); omega)) _ (lv_sub hl [1, 0] rfl)
      · --
        have i40 : Iv (σ28.1 663 a0) 0 200 := (fun h => (by have := z_ti h; have := (i22).1; have := (i22).2; have := (p36_1).1; have := (p36_1).2; have := (p7_2).1; have := (p7_2).2; have := (i23).1; have := (i23).2; have := (i34).1; have := (i34).2; have := (i31).1; have := (i31).2; have := (i4).1; have := (i4).2; have := (i5).1; have := (i5).2; have := (p7_4).1; have := (p7_4).2; have := (p7_5).1; have := (p7_5).2; have : (σ28.1 658 a0).toInt = (0 : Int32).toInt := congrArg Int32.toInt (show σ28.1 658 a0 = 0 from ((kp_c p29_0 (by decide)).trans ((kp_i eσ9 (by decide)).trans ((kp_i eσ8 (by decide)).trans ((kp_c p7_0 (by decide)).trans (kp_s eσ1)))))); have : (σ28.1 660 a0).toInt = ((σ6.1 660 a0) : Int32).toInt := congrArg Int32.toInt (show σ28.1 660 a0 = (σ6.1 660 a0) from ((kp_c p29_0 (by decide)).trans ((kp_i eσ9 (by decide)).trans ((kp_i eσ8 (by decide)).trans rfl)))); have : (σ28.1 661 a0).toInt = ((σ6.1 661 a0) : Int32).toInt := congrArg Int32.toInt (show σ28.1 661 a0 = (σ6.1 661 a0) from ((kp_c p29_0 (by decide)).trans ((kp_i eσ9 (by decide)).trans ((kp_i eσ8 (by decide)).trans rfl)))); have : (σ28.1 655 a0).toInt = (0 : Int32).toInt := congrArg Int32.toInt (show σ28.1 655 a0 = 0 from ((kp_c p29_0 (by decide)).trans ((kp_i eσ9 (by decide)).trans (kp_s eσ8)))); have : (σ28.1 669 a0).toInt = (0 : Int32).toInt := congrArg Int32.toInt (show σ28.1 669 a0 = 0 from ((kp_c p29_0 (by decide)).trans (kp_s eσ9))); have : (0 : Int32).toInt < ((σ.1 655 a0) : Int32).toInt := iv_lt.mp (iv_nle c20); have : ((σ.1 655 a0) : Int32).toInt ≤ ((σ28.1 662 a0) : Int32).toInt := iv_le.mp c33; have : (0 : Int32).toInt = 0 := (by decide); have : (40 : Int32).toInt = 40 := (by decide); exact ⟨by omega, by omega⟩)) c37
        have i41 : Iv v36 0 0 := iv_eq1 c37 p36_1 (⟨by decide, by decide⟩ : Iv 0 0 0) (by decide)
        refine lv_iconst (v := (-1)) hx hb dX11_rule_64 (by decide) ?_
        refine lv_aload_n hx hb dX11_rule_65 rfl (lv_at hl 1 rfl) ?_
        refine g_663 cx hw ha0 k_f_X11_123 dX11_rule_66 (fun v42 e42 i42 => ?_)
        rw [show v42 = (σ28.1 663 a0) from e42.trans rfl]
        refine lv_isub hx hb dX11_rule_69 ?_
        refine lv_topi (fun v43 e43 => ?_)
        have i43 : Iv v43 (-201) (-1) := iv_sub e43 (⟨by decide, by decide⟩ : Iv (-1) (-1) (-1)) i40 (by decide)
        have x43 : v43.toInt = (-1) - (σ28.1 663 a0).toInt := by have q9 := ex_sub e43 (⟨by decide, by decide⟩ : Iv (-1) (-1) (-1)) i40 (by decide); rw [show ((-1) : Int32).toInt = (-1) from by decide] at q9; exact q9
        rw [← hQ]
        exact o_ri cx rx hw dX11_rule_70 ⟨fr, (iv_w i43 (by decide)), (kn_iv (((kp_c p29_0 (by decide)).trans ((kp_i eσ9 (by decide)).trans (kp_s eσ8)))) (iv_w (⟨by decide, by decide⟩ : Iv 0 0 0) (by decide))), (by have q9 := rq_rule (T := (fun i => oRw σ 654 a0 i &&& 255)) (n := (σ.1 655 a0).toInt) (q := (σ28.1 662 a0).toInt) (wr := (σ28.1 663 a0).toInt) (wr' := (σ28.1 663 a0).toInt) (fun i => (iv_and (v := oRw σ 654 a0 i &&& 255) rfl (⟨by decide, by decide⟩ : Iv 255 255 255) (by decide : (0 : Int) ≤ 255 ∧ (0 : Int) ≤ 0 ∧ (255 : Int) ≤ 255)).1) (rqH_conv p29_2 (by rw [er_b]) (by have := (i22).1; have := (i22).2; have := (i43).1; have := (i43).2; have := (p7_2).1; have := (p7_2).2; have := (i23).1; have := (i23).2; have := (i34).1; have := (i34).2; have := (i40).1; have := (i40).2; have := (i4).1; have := (i4).2; have := (i5).1; have := (i5).2; have := (p7_4).1; have := (p7_4).2; have := (p7_5).1; have := (p7_5).2; have := (i41).1; have := (i41).2; have : (σ28.1 658 a0).toInt = (0 : Int32).toInt := congrArg Int32.toInt (show σ28.1 658 a0 = 0 from ((kp_c p29_0 (by decide)).trans ((kp_i eσ9 (by decide)).trans ((kp_i eσ8 (by decide)).trans ((kp_c p7_0 (by decide)).trans (kp_s eσ1)))))); have : (σ28.1 660 a0).toInt = ((σ6.1 660 a0) : Int32).toInt := congrArg Int32.toInt (show σ28.1 660 a0 = (σ6.1 660 a0) from ((kp_c p29_0 (by decide)).trans ((kp_i eσ9 (by decide)).trans ((kp_i eσ8 (by decide)).trans rfl)))); have : (σ28.1 661 a0).toInt = ((σ6.1 661 a0) : Int32).toInt := congrArg Int32.toInt (show σ28.1 661 a0 = (σ6.1 661 a0) from ((kp_c p29_0 (by decide)).trans ((kp_i eσ9 (by decide)).trans ((kp_i eσ8 (by decide)).trans rfl)))); have : (σ28.1 655 a0).toInt = (0 : Int32).toInt := congrArg Int32.toInt (show σ28.1 655 a0 = 0 from ((kp_c p29_0 (by decide)).trans ((kp_i eσ9 (by decide)).trans (kp_s eσ8)))); have : (σ28.1 669 a0).toInt = (0 : Int32).toInt := congrArg Int32.toInt (show σ28.1 669 a0 = 0 from ((kp_c p29_0 (by decide)).trans (kp_s eσ9))); have : (0 : Int32).toInt < ((σ.1 655 a0) : Int32).toInt := iv_lt.mp (iv_nle c20); have : ((σ.1 655 a0) : Int32).toInt ≤ ((σ28.1 662 a0) : Int32).toInt := iv_le.mp c33; have : (v36 : Int32).toInt = (0 : Int32).toInt := congrArg Int32.toInt c37; have : (0 : Int32).toInt = 0 := (by decide); have : (40 : Int32).toInt = 40 := (by decide); omega)) (by have := (i22).1; have := (i22).2; have := (i43).1; have := (i43).2; have := (p7_2).1; have := (p7_2).2; have := (i23).1; have := (i23).2; have := (i34).1; have := (i34).2; have := (i40).1; have := (i40).2; have := (i4).1; have := (i4).2; have := (i5).1; have := (i5).2; have := (p7_4).1; have := (p7_4).2; have := (p7_5).1; have := (p7_5).2; have := (i41).1; have := (i41).2; have : (σ28.1 658 a0).toInt = (0 : Int32).toInt := congrArg Int32.toInt (show σ28.1 658 a0 = 0 from ((kp_c p29_0 (by decide)).trans ((kp_i eσ9 (by decide)).trans ((kp_i eσ8 (by decide)).trans ((kp_c p7_0 (by decide)).trans (kp_s eσ1)))))); have : (σ28.1 660 a0).toInt = ((σ6.1 660 a0) : Int32).toInt := congrArg Int32.toInt (show σ28.1 660 a0 = (σ6.1 660 a0) from ((kp_c p29_0 (by decide)).trans ((kp_i eσ9 (by decide)).trans ((kp_i eσ8 (by decide)).trans rfl)))); have : (σ28.1 661 a0).toInt = ((σ6.1 661 a0) : Int32).toInt := congrArg Int32.toInt (show σ28.1 661 a0 = (σ6.1 661 a0) from ((kp_c p29_0 (by decide)).trans ((kp_i eσ9 (by decide)).trans ((kp_i eσ8 (by decide)).trans rfl)))); have : (σ28.1 655 a0).toInt = (0 : Int32).toInt := congrArg Int32.toInt (show σ28.1 655 a0 = 0 from ((kp_c p29_0 (by decide)).trans ((kp_i eσ9 (by decide)).trans (kp_s eσ8)))); have : (σ28.1 669 a0).toInt = (0 : Int32).toInt := congrArg Int32.toInt (show σ28.1 669 a0 = 0 from ((kp_c p29_0 (by decide)).trans (kp_s eσ9))); have : (0 : Int32).toInt < ((σ.1 655 a0) : Int32).toInt := iv_lt.mp (iv_nle c20); have : ((σ.1 655 a0) : Int32).toInt ≤ ((σ28.1 662 a0) : Int32).toInt := iv_le.mp c33; have : (v36 : Int32).toInt = (0 : Int32).toInt := congrArg Int32.toInt c37; have : (0 : Int32).toInt = 0 := (by decide); have : (40 : Int32).toInt = 40 := (by decide); omega) (by have := (i22).1; have := (i22).2; have := (i43).1; have := (i43).2; have := (p7_2).1; have := (p7_2).2; have := (i23).1; have := (i23).2; have := (i34).1; have := (i34).2; have := (i40).1; have := (i40).2; have := (i4).1; have := (i4).2; have := (i5).1; have := (i5).2; have := (p7_4).1; have := (p7_4).2; have := (p7_5).1; have := (p7_5).2; have := (i41).1; have := (i41).2; have : (σ28.1 658 a0).toInt = (0 : Int32).toInt := congrArg Int32.toInt (show σ28.1 658 a0 = 0 from ((kp_c p29_0 (by decide)).trans ((kp_i eσ9 (by decide)).trans ((kp_i eσ8 (by decide)).trans ((kp_c p7_0 (by decide)).trans (kp_s eσ1)))))); have : (σ28.1 660 a0).toInt = ((σ6.1 660 a0) : Int32).toInt := congrArg Int32.toInt (show σ28.1 660 a0 = (σ6.1 660 a0) from ((kp_c p29_0 (by decide)).trans ((kp_i eσ9 (by decide)).trans ((kp_i eσ8 (by decide)).trans rfl)))); have : (σ28.1 661 a0).toInt = ((σ6.1 661 a0) : Int32).toInt := congrArg Int32.toInt (show σ28.1 661 a0 = (σ6.1 661 a0) from ((kp_c p29_0 (by decide)).trans ((kp_i eσ9 (by decide)).trans ((kp_i eσ8 (by decide)).trans rfl)))); have : (σ28.1 655 a0).toInt = (0 : Int32).toInt := congrArg Int32.toInt (show σ28.1 655 a0 = 0 from ((kp_c p29_0 (by decide)).trans ((kp_i eσ9 (by decide)).trans (kp_s eσ8)))); have : (σ28.1 669 a0).toInt = (0 : Int32).toInt := congrArg Int32.toInt (show σ28.1 669 a0 = 0 from ((kp_c p29_0 (by decide)).trans (kp_s eσ9))); have : (0 : Int32).toInt < ((σ.1 655 a0) : Int32).toInt := iv_lt.mp (iv_nle c20); have : ((σ.1 655 a0) : Int32).toInt ≤ ((σ28.1 662 a0) : Int32).toInt := iv_le.mp c33; have : (v36 : Int32).toInt = (0 : Int32).toInt := congrArg Int32.toInt c37; have : (0 : Int32).toInt = 0 := (by decide); have : (40 : Int32).toInt = 40 := (by decide); omega) (by have := (i22).1; have := (i22).2; have := (i43).1; have := (i43).2; have := (p7_2).1; have := (p7_2).2; have := (i23).1; have := (i23).2; have := (i34).1; have := (i34).2; have := (i40).1; have := (i40).2; have := (i4).1; have := (i4).2; have := (i5).1; have := (i5).2; have := (p7_4).1; have := (p7_4).2; have := (p7_5).1; have := (p7_5).2; have := (i41).1; have := (i41).2; have : (σ28.1 658 a0).toInt = (0 : Int32).toInt := congrArg Int32.toInt (show σ28.1 658 a0 = 0 from ((kp_c p29_0 (by decide)).trans ((kp_i eσ9 (by decide)).trans ((kp_i eσ8 (by decide)).trans ((kp_c p7_0 (by decide)).trans (kp_s eσ1)))))); have : (σ28.1 660 a0).toInt = ((σ6.1 660 a0) : Int32).toInt := congrArg Int32.toInt (show σ28.1 660 a0 = (σ6.1 660 a0) from ((kp_c p29_0 (by decide)).trans ((kp_i eσ9 (by decide)).trans ((kp_i eσ8 (by decide)).trans rfl)))); have : (σ28.1 661 a0).toInt = ((σ6.1 661 a0) : Int32).toInt := congrArg Int32.toInt (show σ28.1 661 a0 = (σ6.1 661 a0) from ((kp_c p29_0 (by decide)).trans ((kp_i eσ9 (by decide)).trans ((kp_i eσ8 (by decide)).trans rfl)))); have : (σ28.1 655 a0).toInt = (0 : Int32).toInt := congrArg Int32.toInt (show σ28.1 655 a0 = 0 from ((kp_c p29_0 (by decide)).trans ((kp_i eσ9 (by decide)).trans (kp_s eσ8)))); have : (σ28.1 669 a0).toInt = (0 : Int32).toInt := congrArg Int32.toInt (show σ28.1 669 a0 = 0 from ((kp_c p29_0 (by decide)).trans (kp_s eσ9))); have : (0 : Int32).toInt < ((σ.1 655 a0) : Int32).toInt := iv_lt.mp (iv_nle c20); have : ((σ.1 655 a0) : Int32).toInt ≤ ((σ28.1 662 a0) : Int32).toInt := iv_le.mp c33; have : (v36 : Int32).toInt = (0 : Int32).toInt := congrArg Int32.toInt c37; have : (0 : Int32).toInt = 0 := (by decide); have : (40 : Int32).toInt = 40 := (by decide); omega); exact Or.inr (by have := (i22).1; have := (i22).2; have := (i43).1; have := (i43).2; have := (p7_2).1; have := (p7_2).2; have := (i23).1; have := (i23).2; have := (i34).1; have := (i34).2; have := (i40).1; have := (i40).2; have := (i4).1; have := (i4).2; have := (i5).1; have := (i5).2; have := (p7_4).1; have := (p7_4).2; have := (p7_5).1; have := (p7_5).2; have := (i41).1; have := (i41).2; have : (σ28.1 658 a0).toInt = (0 : Int32).toInt := congrArg Int32.toInt (show σ28.1 658 a0 = 0 from ((kp_c p29_0 (by decide)).trans ((kp_i eσ9 (by decide)).trans ((kp_i eσ8 (by decide)).trans ((kp_c p7_0 (by decide)).trans (kp_s eσ1)))))); have : (σ28.1 660 a0).toInt = ((σ6.1 660 a0) : Int32).toInt := congrArg Int32.toInt (show σ28.1 660 a0 = (σ6.1 660 a0) from ((kp_c p29_0 (by decide)).trans ((kp_i eσ9 (by decide)).trans ((kp_i eσ8 (by decide)).trans rfl)))); have : (σ28.1 661 a0).toInt = ((σ6.1 661 a0) : Int32).toInt := congrArg Int32.toInt (show σ28.1 661 a0 = (σ6.1 661 a0) from ((kp_c p29_0 (by decide)).trans ((kp_i eσ9 (by decide)).trans ((kp_i eσ8 (by decide)).trans rfl)))); have : (σ28.1 655 a0).toInt = (0 : Int32).toInt := congrArg Int32.toInt (show σ28.1 655 a0 = 0 from ((kp_c p29_0 (by decide)).trans ((kp_i eσ9 (by decide)).trans (kp_s eσ8)))); have : (σ28.1 669 a0).toInt = (0 : Int32).toInt := congrArg Int32.toInt (show σ28.1 669 a0 = 0 from ((kp_c p29_0 (by decide)).trans (kp_s eσ9))); have : (0 : Int32).toInt < ((σ.1 655 a0) : Int32).toInt := iv_lt.mp (iv_nle c20); have : ((σ.1 655 a0) : Int32).toInt ≤ ((σ28.1 662 a0) : Int32).toInt := iv_le.mp c33; have : (v36 : Int32).toInt = (0 : Int32).toInt := congrArg Int32.toInt c37; have : (0 : Int32).toInt = 0 := (by decide); have : (40 : Int32).toInt = 40 := (by decide); omega))⟩
    · --
      have i44 : Iv (σ28.1 662 a0) 0 79 := iv_lt1 (iv_nle c33) i30 i22 (by decide)
      refine lv_aload_n hx hb dX11_rule_49 rfl (lv_at hl 1 rfl) ?_
      refine lv_aload_n hx hb dX11_rule_50 rfl (lv_at hl 1 rfl) ?_
      refine g_662 cx hw ha0 k_f_X11_120 dX11_rule_51 (fun v45 e45 i45 => ?_)
      rw [show v45 = (σ28.1 662 a0) from e45.trans rfl]
      refine o_cv hw (oRunV cx hA hw q_X11_fault k_m_X11_138 rfl ha0 (by decide) (As := [.int (σ28.1 662 a0)]) (c_X11_fault a0 ha0 (σ28.1 662 a0) (iv_w i44 (by decide))) (by decide) rfl hl.1 rfl (Nat.le_of_ble_eq_true rfl) dX11_rule_54 (by decide)) (fun σ46 H locs hp hw => ?_)
      obtain ⟨p47_0, p47_1⟩ := hp
      have fr := oFr_tr fr p47_0 (by decide)
      have i48 : Iv (σ46.1 663 a0) (-1) 200 := o_fb (j := 663) hw ha0 rfl
      have i49 : Iv (σ46.1 663 a0) 0 200 := (by have := (i22).1; have := (i22).2; have := (p7_2).1; have := (p7_2).2; have := (i23).1; have := (i23).2; have := (i44).1; have := (i44).2; have := (i48).1; have := (i48).2; have := (i4).1; have := (i4).2; have := (i5).1; have := (i5).2; have := (p7_4).1; have := (p7_4).2; have := (p7_5).1; have := (p7_5).2; have := (i31).1; have := (i31).2; have : (σ46.1 658 a0).toInt = (0 : Int32).toInt := congrArg Int32.toInt (show σ46.1 658 a0 = 0 from ((kp_c p47_0 (by decide)).trans ((kp_c p29_0 (by decide)).trans ((kp_i eσ9 (by decide)).trans ((kp_i eσ8 (by decide)).trans ((kp_c p7_0 (by decide)).trans (kp_s eσ1))))))); have : (σ46.1 660 a0).toInt = ((σ6.1 660 a0) : Int32).toInt := congrArg Int32.toInt (show σ46.1 660 a0 = (σ6.1 660 a0) from ((kp_c p47_0 (by decide)).trans ((kp_c p29_0 (by decide)).trans ((kp_i eσ9 (by decide)).trans ((kp_i eσ8 (by decide)).trans rfl))))); have : (σ46.1 661 a0).toInt = ((σ6.1 661 a0) : Int32).toInt := congrArg Int32.toInt (show σ46.1 661 a0 = (σ6.1 661 a0) from ((kp_c p47_0 (by decide)).trans ((kp_c p29_0 (by decide)).trans ((kp_i eσ9 (by decide)).trans ((kp_i eσ8 (by decide)).trans rfl))))); have : (σ46.1 655 a0).toInt = (0 : Int32).toInt := congrArg Int32.toInt (show σ46.1 655 a0 = 0 from ((kp_c p47_0 (by decide)).trans ((kp_c p29_0 (by decide)).trans ((kp_i eσ9 (by decide)).trans (kp_s eσ8))))); have : (σ46.1 669 a0).toInt = (0 : Int32).toInt := congrArg Int32.toInt (show σ46.1 669 a0 = 0 from ((kp_c p47_0 (by decide)).trans ((kp_c p29_0 (by decide)).trans (kp_s eσ9)))); have : (σ46.1 662 a0).toInt = ((σ28.1 662 a0) : Int32).toInt := congrArg Int32.toInt (show σ46.1 662 a0 = (σ28.1 662 a0) from ((kp_c p47_0 (by decide)).trans rfl)); have : (0 : Int32).toInt < ((σ.1 655 a0) : Int32).toInt := iv_lt.mp (iv_nle c20); have : ((σ28.1 662 a0) : Int32).toInt < ((σ.1 655 a0) : Int32).toInt := iv_lt.mp (iv_nle c33); have : (0 : Int32).toInt = 0 := (by decide); have : (40 : Int32).toInt = 40 := (by decide); exact ⟨by omega, by omega⟩)
      refine lv_aload_n hx hb dX11_rule_57 rfl (lv_at hl 1 rfl) ?_
      refine o_ci hw (oRunV cx hA hw q_X11_fine k_m_X11_126 rfl ha0 (by decide) (As := []) (c_X11_fine a0 ha0) (by decide) rfl hl.1 rfl (Nat.le_of_ble_eq_true rfl) dX11_rule_58 (by decide)) (fun v51 σ50 H locs hp hw => ?_)
      obtain ⟨p51_0, p51_1, p51_2⟩ := hp
      rw [p51_0] at hw
      have i52 : Iv v51 0 0 := (by have := (i22).1; have := (i22).2; have := (p51_1).1; have := (p51_1).2; have := (p7_2).1; have := (p7_2).2; have := (i23).1; have := (i23).2; have := (i44).1; have := (i44).2; have := (i49).1; have := (i49).2; have := (i4).1; have := (i4).2; have := (i5).1; have := (i5).2; have := (p7_4).1; have := (p7_4).2; have := (p7_5).1; have := (p7_5).2; have := (i31).1; have := (i31).2; have : (σ46.1 658 a0).toInt = (0 : Int32).toInt := congrArg Int32.toInt (show σ46.1 658 a0 = 0 from ((kp_c p47_0 (by decide)).trans ((kp_c p29_0 (by decide)).trans ((kp_i eσ9 (by decide)).trans ((kp_i eσ8 (by decide)).trans ((kp_c p7_0 (by decide)).trans (kp_s eσ1))))))); have : (σ46.1 660 a0).toInt = ((σ6.1 660 a0) : Int32).toInt := congrArg Int32.toInt (show σ46.1 660 a0 = (σ6.1 660 a0) from ((kp_c p47_0 (by decide)).trans ((kp_c p29_0 (by decide)).trans ((kp_i eσ9 (by decide)).trans ((kp_i eσ8 (by decide)).trans rfl))))); have : (σ46.1 661 a0).toInt = ((σ6.1 661 a0) : Int32).toInt := congrArg Int32.toInt (show σ46.1 661 a0 = (σ6.1 661 a0) from ((kp_c p47_0 (by decide)).trans ((kp_c p29_0 (by decide)).trans ((kp_i eσ9 (by decide)).trans ((kp_i eσ8 (by decide)).trans rfl))))); have : (σ46.1 655 a0).toInt = (0 : Int32).toInt := congrArg Int32.toInt (show σ46.1 655 a0 = 0 from ((kp_c p47_0 (by decide)).trans ((kp_c p29_0 (by decide)).trans ((kp_i eσ9 (by decide)).trans (kp_s eσ8))))); have : (σ46.1 669 a0).toInt = (0 : Int32).toInt := congrArg Int32.toInt (show σ46.1 669 a0 = 0 from ((kp_c p47_0 (by decide)).trans ((kp_c p29_0 (by decide)).trans (kp_s eσ9)))); have : (σ46.1 662 a0).toInt = ((σ28.1 662 a0) : Int32).toInt := congrArg Int32.toInt (show σ46.1 662 a0 = (σ28.1 662 a0) from ((kp_c p47_0 (by decide)).trans rfl)); have : (0 : Int32).toInt < ((σ.1 655 a0) : Int32).toInt := iv_lt.mp (iv_nle c20); have : ((σ28.1 662 a0) : Int32).toInt < ((σ.1 655 a0) : Int32).toInt := iv_lt.mp (iv_nle c33); have : (0 : Int32).toInt = 0 := (by decide); have : (40 : Int32).toInt = 40 := (by decide); exact ⟨by omega, by omega⟩)
      refine lv_if_ne (tgt := 71) hx hb dX11_rule_61 (by decide) (fun c53 => ?_) (fun c53 => ?_)
      · --
        exact iv_no (iv_ne1 c53 i52 (⟨by decide, by decide⟩ : Iv 0 0 0) (by decide)) (by decide)
      · --
        refine lv_iconst (v := (-1)) hx hb dX11_rule_64 (by decide) ?_
        refine lv_aload_n hx hb dX11_rule_65 rfl (lv_at hl 1 rfl) ?_
        refine g_663 cx hw ha0 k_f_X11_123 dX11_rule_66 (fun v54 e54 i54 => ?_)
        rw [show v54 = (σ46.1 663 a0) from e54.trans rfl]
        refine lv_isub hx hb dX11_rule_69 ?_
        refine lv_topi (fun v55 e55 => ?_)
        have i55 : Iv v55 (-201) (-1) := iv_sub e55 (⟨by decide, by decide⟩ : Iv (-1) (-1) (-1)) i49 (by decide)
        have x55 : v55.toInt = (-1) - (σ46.1 663 a0).toInt := by have q9 := ex_sub e55 (⟨by decide, by decide⟩ : Iv (-1) (-1) (-1)) i49 (by decide); rw [show ((-1) : Int32).toInt = (-1) from by decide] at q9; exact q9
        rw [← hQ]
        exact o_ri cx rx hw dX11_rule_70 ⟨fr, (iv_w i55 (by decide)), (kn_iv (((kp_c p47_0 (by decide)).trans ((kp_c p29_0 (by decide)).trans ((kp_i eσ9 (by decide)).trans (kp_s eσ8))))) (iv_w (⟨by decide, by decide⟩ : Iv 0 0 0) (by decide))), (by have q9 := rq_rule (T := (fun i => oRw σ 654 a0 i &&& 255)) (n := (σ.1 655 a0).toInt) (q := (σ28.1 662 a0).toInt) (wr := (σ28.1 663 a0).toInt) (wr' := (σ46.1 663 a0).toInt) (fun i => (iv_and (v := oRw σ 654 a0 i &&& 255) rfl (⟨by decide, by decide⟩ : Iv 255 255 255) (by decide : (0 : Int) ≤ 255 ∧ (0 : Int) ≤ 0 ∧ (255 : Int) ≤ 255)).1) (rqH_conv p29_2 (by rw [er_b]) (by have := (i22).1; have := (i22).2; have := (i55).1; have := (i55).2; have := (p7_2).1; have := (p7_2).2; have := (i23).1; have := (i23).2; have := (i44).1; have := (i44).2; have := (i49).1; have := (i49).2; have := (i4).1; have := (i4).2; have := (i5).1; have := (i5).2; have := (p7_4).1; have := (p7_4).2; have := (p7_5).1; have := (p7_5).2; have := (i31).1; have := (i31).2; have := (i52).1; have := (i52).2; have : (σ46.1 658 a0).toInt = (0 : Int32).toInt := congrArg Int32.toInt (show σ46.1 658 a0 = 0 from ((kp_c p47_0 (by decide)).trans ((kp_c p29_0 (by decide)).trans ((kp_i eσ9 (by decide)).trans ((kp_i eσ8 (by decide)).trans ((kp_c p7_0 (by decide)).trans (kp_s eσ1))))))); have : (σ46.1 660 a0).toInt = ((σ6.1 660 a0) : Int32).toInt := congrArg Int32.toInt (show σ46.1 660 a0 = (σ6.1 660 a0) from ((kp_c p47_0 (by decide)).trans ((kp_c p29_0 (by decide)).trans ((kp_i eσ9 (by decide)).trans ((kp_i eσ8 (by decide)).trans rfl))))); have : (σ46.1 661 a0).toInt = ((σ6.1 661 a0) : Int32).toInt := congrArg Int32.toInt (show σ46.1 661 a0 = (σ6.1 661 a0) from ((kp_c p47_0 (by decide)).trans ((kp_c p29_0 (by decide)).trans ((kp_i eσ9 (by decide)).trans ((kp_i eσ8 (by decide)).trans rfl))))); have : (σ46.1 655 a0).toInt = (0 : Int32).toInt := congrArg Int32.toInt (show σ46.1 655 a0 = 0 from ((kp_c p47_0 (by decide)).trans ((kp_c p29_0 (by decide)).trans ((kp_i eσ9 (by decide)).trans (kp_s eσ8))))); have : (σ46.1 669 a0).toInt = (0 : Int32).toInt := congrArg Int32.toInt (show σ46.1 669 a0 = 0 from ((kp_c p47_0 (by decide)).trans ((kp_c p29_0 (by decide)).trans (kp_s eσ9)))); have : (σ46.1 662 a0).toInt = ((σ28.1 662 a0) : Int32).toInt := congrArg Int32.toInt (show σ46.1 662 a0 = (σ28.1 662 a0) from ((kp_c p47_0 (by decide)).trans rfl)); have : (0 : Int32).toInt < ((σ.1 655 a0) : Int32).toInt := iv_lt.mp (iv_nle c20); have : ((σ28.1 662 a0) : Int32).toInt < ((σ.1 655 a0) : Int32).toInt := iv_lt.mp (iv_nle c33); have : (v51 : Int32).toInt = (0 : Int32).toInt := congrArg Int32.toInt c53; have : (0 : Int32).toInt = 0 := (by decide); have : (40 : Int32).toInt = 40 := (by decide); omega)) (by have := (i22).1; have := (i22).2; have := (i55).1; have := (i55).2; have := (p7_2).1; have := (p7_2).2; have := (i23).1; have := (i23).2; have := (i44).1; have := (i44).2; have := (i49).1; have := (i49).2; have := (i4).1; have := (i4).2; have := (i5).1; have := (i5).2; have := (p7_4).1; have := (p7_4).2; have := (p7_5).1; have := (p7_5).2; have := (i31).1; have := (i31).2; have := (i52).1; have := (i52).2; have : (σ46.1 658 a0).toInt = (0 : Int32).toInt := congrArg Int32.toInt (show σ46.1 658 a0 = 0 from ((kp_c p47_0 (by decide)).trans ((kp_c p29_0 (by decide)).trans ((kp_i eσ9 (by decide)).trans ((kp_i eσ8 (by decide)).trans ((kp_c p7_0 (by decide)).trans (kp_s eσ1))))))); have : (σ46.1 660 a0).toInt = ((σ6.1 660 a0) : Int32).toInt := congrArg Int32.toInt (show σ46.1 660 a0 = (σ6.1 660 a0) from ((kp_c p47_0 (by decide)).trans ((kp_c p29_0 (by decide)).trans ((kp_i eσ9 (by decide)).trans ((kp_i eσ8 (by decide)).trans rfl))))); have : (σ46.1 661 a0).toInt = ((σ6.1 661 a0) : Int32).toInt := congrArg Int32.toInt (show σ46.1 661 a0 = (σ6.1 661 a0) from ((kp_c p47_0 (by decide)).trans ((kp_c p29_0 (by decide)).trans ((kp_i eσ9 (by decide)).trans ((kp_i eσ8 (by decide)).trans rfl))))); have : (σ46.1 655 a0).toInt = (0 : Int32).toInt := congrArg Int32.toInt (show σ46.1 655 a0 = 0 from ((kp_c p47_0 (by decide)).trans ((kp_c p29_0 (by decide)).trans ((kp_i eσ9 (by decide)).trans (kp_s eσ8))))); have : (σ46.1 669 a0).toInt = (0 : Int32).toInt := congrArg Int32.toInt (show σ46.1 669 a0 = 0 from ((kp_c p47_0 (by decide)).trans ((kp_c p29_0 (by decide)).trans (kp_s eσ9)))); have : (σ46.1 662 a0).toInt = ((σ28.1 662 a0) : Int32).toInt := congrArg Int32.toInt (show σ46.1 662 a0 = (σ28.1 662 a0) from ((kp_c p47_0 (by decide)).trans rfl)); have : (0 : Int32).toInt < ((σ.1 655 a0) : Int32).toInt := iv_lt.mp (iv_nle c20); have : ((σ28.1 662 a0) : Int32).toInt < ((σ.1 655 a0) : Int32).toInt := iv_lt.mp (iv_nle c33); have : (v51 : Int32).toInt = (0 : Int32).toInt := congrArg Int32.toInt c53; have : (0 : Int32).toInt = 0 := (by decide); have : (40 : Int32).toInt = 40 := (by decide); omega) (by have := (i22).1; have := (i22).2; have := (i55).1; have := (i55).2; have := (p7_2).1; have := (p7_2).2; have := (i23).1; have := (i23).2; have := (i44).1; have := (i44).2; have := (i49).1; have := (i49).2; have := (i4).1; have := (i4).2; have := (i5).1; have := (i5).2; have := (p7_4).1; have := (p7_4).2; have := (p7_5).1; have := (p7_5).2; have := (i31).1; have := (i31).2; have := (i52).1; have := (i52).2; have : (σ46.1 658 a0).toInt = (0 : Int32).toInt := congrArg Int32.toInt (show σ46.1 658 a0 = 0 from ((kp_c p47_0 (by decide)).trans ((kp_c p29_0 (by decide)).trans ((kp_i eσ9 (by decide)).trans ((kp_i eσ8 (by decide)).trans ((kp_c p7_0 (by decide)).trans (kp_s eσ1))))))); have : (σ46.1 660 a0).toInt = ((σ6.1 660 a0) : Int32).toInt := congrArg Int32.toInt (show σ46.1 660 a0 = (σ6.1 660 a0) from ((kp_c p47_0 (by decide)).trans ((kp_c p29_0 (by decide)).trans ((kp_i eσ9 (by decide)).trans ((kp_i eσ8 (by decide)).trans rfl))))); have : (σ46.1 661 a0).toInt = ((σ6.1 661 a0) : Int32).toInt := congrArg Int32.toInt (show σ46.1 661 a0 = (σ6.1 661 a0) from ((kp_c p47_0 (by decide)).trans ((kp_c p29_0 (by decide)).trans ((kp_i eσ9 (by decide)).trans ((kp_i eσ8 (by decide)).trans rfl))))); have : (σ46.1 655 a0).toInt = (0 : Int32).toInt := congrArg Int32.toInt (show σ46.1 655 a0 = 0 from ((kp_c p47_0 (by decide)).trans ((kp_c p29_0 (by decide)).trans ((kp_i eσ9 (by decide)).trans (kp_s eσ8))))); have : (σ46.1 669 a0).toInt = (0 : Int32).toInt := congrArg Int32.toInt (show σ46.1 669 a0 = 0 from ((kp_c p47_0 (by decide)).trans ((kp_c p29_0 (by decide)).trans (kp_s eσ9)))); have : (σ46.1 662 a0).toInt = ((σ28.1 662 a0) : Int32).toInt := congrArg Int32.toInt (show σ46.1 662 a0 = (σ28.1 662 a0) from ((kp_c p47_0 (by decide)).trans rfl)); have : (0 : Int32).toInt < ((σ.1 655 a0) : Int32).toInt := iv_lt.mp (iv_nle c20); have : ((σ28.1 662 a0) : Int32).toInt < ((σ.1 655 a0) : Int32).toInt := iv_lt.mp (iv_nle c33); have : (v51 : Int32).toInt = (0 : Int32).toInt := congrArg Int32.toInt c53; have : (0 : Int32).toInt = 0 := (by decide); have : (40 : Int32).toInt = 40 := (by decide); omega) (by have := (i22).1; have := (i22).2; have := (i55).1; have := (i55).2; have := (p7_2).1; have := (p7_2).2; have := (i23).1; have := (i23).2; have := (i44).1; have := (i44).2; have := (i49).1; have := (i49).2; have := (i4).1; have := (i4).2; have := (i5).1; have := (i5).2; have := (p7_4).1; have := (p7_4).2; have := (p7_5).1; have := (p7_5).2; have := (i31).1; have := (i31).2; have := (i52).1; have := (i52).2; have : (σ46.1 658 a0).toInt = (0 : Int32).toInt := congrArg Int32.toInt (show σ46.1 658 a0 = 0 from ((kp_c p47_0 (by decide)).trans ((kp_c p29_0 (by decide)).trans ((kp_i eσ9 (by decide)).trans ((kp_i eσ8 (by decide)).trans ((kp_c p7_0 (by decide)).trans (kp_s eσ1))))))); have : (σ46.1 660 a0).toInt = ((σ6.1 660 a0) : Int32).toInt := congrArg Int32.toInt (show σ46.1 660 a0 = (σ6.1 660 a0) from ((kp_c p47_0 (by decide)).trans ((kp_c p29_0 (by decide)).trans ((kp_i eσ9 (by decide)).trans ((kp_i eσ8 (by decide)).trans rfl))))); have : (σ46.1 661 a0).toInt = ((σ6.1 661 a0) : Int32).toInt := congrArg Int32.toInt (show σ46.1 661 a0 = (σ6.1 661 a0) from ((kp_c p47_0 (by decide)).trans ((kp_c p29_0 (by decide)).trans ((kp_i eσ9 (by decide)).trans ((kp_i eσ8 (by decide)).trans rfl))))); have : (σ46.1 655 a0).toInt = (0 : Int32).toInt := congrArg Int32.toInt (show σ46.1 655 a0 = 0 from ((kp_c p47_0 (by decide)).trans ((kp_c p29_0 (by decide)).trans ((kp_i eσ9 (by decide)).trans (kp_s eσ8))))); have : (σ46.1 669 a0).toInt = (0 : Int32).toInt := congrArg Int32.toInt (show σ46.1 669 a0 = 0 from ((kp_c p47_0 (by decide)).trans ((kp_c p29_0 (by decide)).trans (kp_s eσ9)))); have : (σ46.1 662 a0).toInt = ((σ28.1 662 a0) : Int32).toInt := congrArg Int32.toInt (show σ46.1 662 a0 = (σ28.1 662 a0) from ((kp_c p47_0 (by decide)).trans rfl)); have : (0 : Int32).toInt < ((σ.1 655 a0) : Int32).toInt := iv_lt.mp (iv_nle c20); have : ((σ28.1 662 a0) : Int32).toInt < ((σ.1 655 a0) : Int32).toInt := iv_lt.mp (iv_nle c33); have : (v51 : Int32).toInt = (0 : Int32).toInt := congrArg Int32.toInt c53; have : (0 : Int32).toInt = 0 := (by decide); have : (40 : Int32).toInt = 40 := (by decide); omega); exact Or.inr (by have := (i22).1; have := (i22).2; have := (i55).1; have := (i55).2; have := (p7_2).1; have := (p7_2).2; have := (i23).1; have := (i23).2; have := (i44).1; have := (i44).2; have := (i49).1; have := (i49).2; have := (i4).1; have := (i4).2; have := (i5).1; have := (i5).2; have := (p7_4).1; have := (p7_4).2; have := (p7_5).1; have := (p7_5).2; have := (i31).1; have := (i31).2; have := (i52).1; have := (i52).2; have : (σ46.1 658 a0).toInt = (0 : Int32).toInt := congrArg Int32.toInt (show σ46.1 658 a0 = 0 from ((kp_c p47_0 (by decide)).trans ((kp_c p29_0 (by decide)).trans ((kp_i eσ9 (by decide)).trans ((kp_i eσ8 (by decide)).trans ((kp_c p7_0 (by decide)).trans (kp_s eσ1))))))); have : (σ46.1 660 a0).toInt = ((σ6.1 660 a0) : Int32).toInt := congrArg Int32.toInt (show σ46.1 660 a0 = (σ6.1 660 a0) from ((kp_c p47_0 (by decide)).trans ((kp_c p29_0 (by decide)).trans ((kp_i eσ9 (by decide)).trans ((kp_i eσ8 (by decide)).trans rfl))))); have : (σ46.1 661 a0).toInt = ((σ6.1 661 a0) : Int32).toInt := congrArg Int32.toInt (show σ46.1 661 a0 = (σ6.1 661 a0) from ((kp_c p47_0 (by decide)).trans ((kp_c p29_0 (by decide)).trans ((kp_i eσ9 (by decide)).trans ((kp_i eσ8 (by decide)).trans rfl))))); have : (σ46.1 655 a0).toInt = (0 : Int32).toInt := congrArg Int32.toInt (show σ46.1 655 a0 = 0 from ((kp_c p47_0 (by decide)).trans ((kp_c p29_0 (by decide)).trans ((kp_i eσ9 (by decide)).trans (kp_s eσ8))))); have : (σ46.1 669 a0).toInt = (0 : Int32).toInt := congrArg Int32.toInt (show σ46.1 669 a0 = 0 from ((kp_c p47_0 (by decide)).trans ((kp_c p29_0 (by decide)).trans (kp_s eσ9)))); have : (σ46.1 662 a0).toInt = ((σ28.1 662 a0) : Int32).toInt := congrArg Int32.toInt (show σ46.1 662 a0 = (σ28.1 662 a0) from ((kp_c p47_0 (by decide)).trans rfl)); have : (0 : Int32).toInt < ((σ.1 655 a0) : Int32).toInt := iv_lt.mp (iv_nle c20); have : ((σ28.1 662 a0) : Int32).toInt < ((σ.1 655 a0) : Int32).toInt := iv_lt.mp (iv_nle c33); have : (v51 : Int32).toInt = (0 : Int32).toInt := congrArg Int32.toInt c53; have : (0 : Int32).toInt = 0 := (by decide); have : (40 : Int32).toInt = 40 := (by decide); omega))⟩
abbrev fs_X11_cell : List Nat := [658]
abbrev ts_X11_cell : List Nat := []
set_option maxHeartbeats 4000000 in
set_option maxRecDepth 100000 in
theorem c_X11_cell (a0 : Nat) (ha0 : oA L τ a0 10) (a1 : Int32) (a2 : Int32) : oMet l A L τ cy D K yX11_cell cX11_cell 3 (some .int) 2 43 [.ref a0, .int a1, .int a2] σ (va_Qi (fun r σ1 => oFr τ fs_X11_cell ts_X11_cell σ σ1) (oPo A L τ cy D) A) := by
  refine oMk (by decide) (Nat.le_of_ble_eq_true rfl) rfl ?_
  intro p e s m args below meth c ls cx rx hA hw hl
  generalize hQ : MQ below _ args s 0 0 A = Q
  have hx := cx.1.1
  have hb := cx.1.2.1
  have hml := cx.1.2.2.1
  have hown := cx.1.2.2.2.1
  have hts := cx.1.2.2.2.2
  have hl : lv_has ls 3 [(0, .ref a0), (1, .int a1), (2, .int a2)] := hl
  have fr : oFr τ fs_X11_cell ts_X11_cell σ σ := oFr_rf
  refine lv_aload_n hx hb dX11_cell_0 rfl (lv_at hl 0 rfl) ?_
  refine lv_iconst (v := 0) hx hb dX11_cell_1 (by decide) ?_
  refine p_658 cx hw ha0 k_f_X11_89 dX11_cell_2 (fun σ1 H locs eσ1 hw => ?_)
  have fr := oFr_i fr eσ1 (by decide)
  refine lv_aload_n hx hb dX11_cell_5 rfl (lv_at hl 0 rfl) ?_
  refine lv_iload_n hx hb dX11_cell_6 rfl (lv_at hl 1 rfl) ?_
  have i2 : Iv (σ1.1 641 a0) 0 8 := o_fb (j := 641) hw ha0 rfl
  have i3 : Iv (σ1.1 642 a0) 0 8 := o_fb (j := 642) hw ha0 rfl
  refine o_ci hw (oRunV cx hA hw q_X11_isCell k_m_X11_157 rfl ha0 (by decide) (As := [.int a1]) (c_X11_isCell a0 ha0 a1) (by decide) rfl hl.1 rfl (Nat.le_of_ble_eq_true rfl) dX11_cell_7 (by decide)) (fun v5 σ4 H locs hp hw => ?_)
  obtain ⟨p5_0, p5_1, p5_2, p5_3⟩ := hp
  rw [p5_0] at hw
  have J_23 : ∀ (H : Heap) (locs : List Loc), oI A L τ cy D s.heap σ1 H locs → ∀ (ls : Array Slot), lv_has ls 3 [(0, .ref a0), (1, .int a1), (2, .int a2)] → W p l e ({ frames := 2, cells := 0, slots := 0, locals := 43 } : Room) s m args below meth c H locs 0 0 Q (F0 m 23 ls []) := by
    intro  H locs hw     ls hl
    refine lv_aload_n hx hb dX11_cell_23 rfl (lv_at hl 0 rfl) ?_
    refine o_ci hw (oRunV cx hA hw q_X11_lost k_m_X11_230 rfl ha0 (by decide) (As := []) (c_X11_lost a0 ha0) (by decide) rfl hl.1 rfl (Nat.le_of_ble_eq_true rfl) dX11_cell_24 (by decide)) (fun v7 σ6 H locs hp hw => ?_)
    obtain ⟨p7_0, p7_1⟩ := hp
    have fr := oFr_tr fr p7_0 (by decide)
    rw [← hQ]
    exact o_ri cx rx hw dX11_cell_27 fr
  refine lv_if_eq (tgt := 23) hx hb dX11_cell_10 (by decide) (fun c8 => ?_) (fun c8 => ?_)
  · --
    have i9 : Iv v5 0 0 := iv_eq1 c8 p5_1 (⟨by decide, by decide⟩ : Iv 0 0 0) (by decide)
    exact J_23 _ _ hw _ (lv_sub hl [0, 1, 2] rfl)
  · --
    have i10 : Iv v5 1 1 := iv_ne1 c8 p5_1 (⟨by decide, by decide⟩ : Iv 0 0 0) (by decide)
    have i11 : Iv a1 0 63 := p5_2 c8
    refine lv_iload_n hx hb dX11_cell_13 rfl (lv_at hl 2 rfl) ?_
    refine lv_iconst (v := 0) hx hb dX11_cell_14 (by decide) ?_
    refine lv_bipush (v := 7) hx hb dX11_cell_15 (by decide) ?_
    refine o_ci hw (oRunS cx hA hw q_X11_in k_m_X11_95 (As := [.int a2, .int 0, .int 7]) (c_X11_in a2 0 7) (by decide) rfl hl.1 rfl (Nat.le_of_ble_eq_true rfl) dX11_cell_17 (by decide)) (fun v13 σ12 H locs hp hw => ?_)
    obtain ⟨p13_0, p13_1, p13_2, p13_3, p13_4⟩ := hp
    rw [p13_0] at hw
    refine lv_if_ne (tgt := 28) hx hb dX11_cell_20 (by decide) (fun c14 => ?_) (fun c14 => ?_)
    · --
      have i15 : Iv v13 1 1 := iv_ne1 c14 p13_1 (⟨by decide, by decide⟩ : Iv 0 0 0) (by decide)
      have i16 : Iv a2 0 7 := (fun h => iv_rel (p13_2 h) (⟨by decide, by decide⟩ : Iv 0 0 0) (⟨by decide, by decide⟩ : Iv 7 7 7)) c14
      refine lv_iload_n hx hb dX11_cell_28 rfl (lv_at hl 2 rfl) ?_
      by_cases q17 : a2 = 0
      · --
        refine lv_tableIn (tgt := 72) hx hb dX11_cell_29 (by rw [q17]; decide) (by rw [q17]; decide) (by rw [q17]; rfl) (by decide) ?_
        have i18 : Iv a2 0 0 := iv_eq1 q17 i16 (⟨by decide, by decide⟩ : Iv 0 0 0) (by decide)
        refine lv_aload_n hx hb dX11_cell_72 rfl (lv_at hl 0 rfl) ?_
        refine g_640 cx hw ha0 k_f_X11_9 dX11_cell_73 (fun v19 e19 h19 => ?_)
        refine lv_iconst (v := 0) hx hb dX11_cell_76 (by decide) ?_
        refine lv_iload_n hx hb dX11_cell_77 rfl (lv_at hl 1 rfl) ?_
        refine lv_iadd hx hb dX11_cell_78 ?_
        refine lv_topi (fun v20 e20 => ?_)
        have i20 : Iv v20 0 63 := iv_add e20 (⟨by decide, by decide⟩ : Iv 0 0 0) i11 (by decide)
        have x20 : v20.toInt = a1.toInt + 0 := (ex_add e20 (⟨by decide, by decide⟩ : Iv 0 0 0) i11 (by decide)).trans (Int.add_comm _ _)
        refine o_iald cx hw h19 (by decide) rfl (iv_in i20 (by decide)) dX11_cell_79 (fun v21 e21 b21 => ?_)
        rw [← hQ]
        exact o_ri cx rx hw dX11_cell_80 fr
      by_cases q22 : a2 = 1
      · --
        refine lv_tableIn (tgt := 81) hx hb dX11_cell_29 (by rw [q22]; decide) (by rw [q22]; decide) (by rw [q22]; rfl) (by decide) ?_
        have i23 : Iv a2 1 1 := iv_eq1 q22 i16 (⟨by decide, by decide⟩ : Iv 1 1 1) (by decide)
        refine lv_aload_n hx hb dX11_cell_81 rfl (lv_at hl 0 rfl) ?_
        refine g_640 cx hw ha0 k_f_X11_9 dX11_cell_82 (fun v24 e24 h24 => ?_)
        refine lv_bipush (v := 64) hx hb dX11_cell_85 (by decide) ?_
        refine lv_iload_n hx hb dX11_cell_87 rfl (lv_at hl 1 rfl) ?_
        refine lv_iadd hx hb dX11_cell_88 ?_
        refine lv_topi (fun v25 e25 => ?_)
        have i25 : Iv v25 64 127 := iv_add e25 (⟨by decide, by decide⟩ : Iv 64 64 64) i11 (by decide)
        have x25 : v25.toInt = a1.toInt + 64 := (ex_add e25 (⟨by decide, by decide⟩ : Iv 64 64 64) i11 (by decide)).trans (Int.add_comm _ _)
        refine o_iald cx hw h24 (by decide) rfl (iv_in i25 (by decide)) dX11_cell_89 (fun v26 e26 b26 => ?_)
        rw [← hQ]
        exact o_ri cx rx hw dX11_cell_90 fr
      by_cases q27 : a2 = 2
      · --
        refine lv_tableIn (tgt := 91) hx hb dX11_cell_29 (by rw [q27]; decide) (by rw [q27]; decide) (by rw [q27]; rfl) (by decide) ?_
        have i28 : Iv a2 2 2 := iv_eq1 q27 i16 (⟨by decide, by decide⟩ : Iv 2 2 2) (by decide)
        refine lv_aload_n hx hb dX11_cell_91 rfl (lv_at hl 0 rfl) ?_
        refine g_640 cx hw ha0 k_f_X11_9 dX11_cell_92 (fun v29 e29 h29 => ?_)
        refine lv_sipush (v := 128) hx hb dX11_cell_95 (by decide) ?_
        refine lv_iload_n hx hb dX11_cell_98 rfl (lv_at hl 1 rfl) ?_
        refine lv_iadd hx hb dX11_cell_99 ?_
        refine lv_topi (fun v30 e30 => ?_)
        have i30 : Iv v30 128 191 := iv_add e30 (⟨by decide, by decide⟩ : Iv 128 128 128) i11 (by decide)
        have x30 : v30.toInt = a1.toInt + 128 := (ex_add e30 (⟨by decide, by decide⟩ : Iv 128 128 128) i11 (by decide)).trans (Int.add_comm _ _)
        refine o_iald cx hw h29 (by decide) rfl (iv_in i30 (by decide)) dX11_cell_100 (fun v31 e31 b31 => ?_)
        rw [← hQ]
        exact o_ri cx rx hw dX11_cell_101 fr
      by_cases q32 : a2 = 3
      · --
        refine lv_tableIn (tgt := 102) hx hb dX11_cell_29 (by rw [q32]; decide) (by rw [q32]; decide) (by rw [q32]; rfl) (by decide) ?_
        have i33 : Iv a2 3 3 := iv_eq1 q32 i16 (⟨by decide, by decide⟩ : Iv 3 3 3) (by decide)
        refine lv_aload_n hx hb dX11_cell_102 rfl (lv_at hl 0 rfl) ?_
        refine g_643 cx hw ha0 k_f_X11_13 dX11_cell_103 (fun v34 e34 h34 => ?_)
        refine lv_iload_n hx hb dX11_cell_106 rfl (lv_at hl 1 rfl) ?_
        refine o_iald cx hw h34 (by decide) rfl (iv_in i11 (by decide)) dX11_cell_107 (fun v35 e35 b35 => ?_)
        refine lv_iconst (v := 2) hx hb dX11_cell_108 (by decide) ?_
        have J_137 : ∀ (H : Heap) (locs : List Loc), oI A L τ cy D s.heap σ1 H locs → ∀ (ls : Array Slot), lv_has ls 3 [(0, .ref a0), (1, .int a1), (2, .int a2)] → W p l e ({ frames := 2, cells := 0, slots := 0, locals := 43 } : Room) s m args below meth c H locs 0 0 Q (F0 m 137 ls []) := by
          intro  H locs hw     ls hl
          refine lv_aload_n hx hb dX11_cell_137 rfl (lv_at hl 0 rfl) ?_
          refine g_643 cx hw ha0 k_f_X11_13 dX11_cell_138 (fun v36 e36 h36 => ?_)
          rw [show v36 = v34 from Option.some.inj (e36.symm.trans (e34))]
          refine lv_iload_n hx hb dX11_cell_141 rfl (lv_at hl 1 rfl) ?_
          refine o_iald cx hw h34 (by decide) rfl (iv_in i11 (by decide)) dX11_cell_142 (fun v37 e37 b37 => ?_)
          rw [← hQ]
          exact o_ri cx rx hw dX11_cell_143 fr
        refine lv_icmp_ne (tgt := 137) hx hb dX11_cell_109 (by decide) (fun c38 => ?_) (fun c38 => ?_)
        · --
          exact J_137 _ _ hw _ (lv_sub hl [0, 1, 2] rfl)
        · --
          have i39 : Iv v35 2 2 := iv_eq1 c38 (iv_top v35) (⟨by decide, by decide⟩ : Iv 2 2 2) (by decide)
          refine lv_aload_n hx hb dX11_cell_112 rfl (lv_at hl 0 rfl) ?_
          refine g_640 cx hw ha0 k_f_X11_9 dX11_cell_113 (fun v40 e40 h40 => ?_)
          refine lv_sipush (v := 332) hx hb dX11_cell_116 (by decide) ?_
          refine o_iald cx hw h40 (by decide) rfl (iv_in (⟨by decide, by decide⟩ : Iv 332 332 332) (by decide)) dX11_cell_119 (fun v41 e41 b41 => ?_)
          refine lv_i2l hx hb dX11_cell_120 rfl ?_
          refine lv_topl (fun v42 e42 => ?_)
          refine lv_aload_n hx hb dX11_cell_121 rfl (lv_at hl 0 rfl) ?_
          refine g_644 cx hw ha0 k_f_X11_16 dX11_cell_122 (fun v43 e43 h43 => ?_)
          refine lv_iload_n hx hb dX11_cell_125 rfl (lv_at hl 1 rfl) ?_
          refine o_iald cx hw h43 (by decide) rfl (iv_in i11 (by decide)) dX11_cell_126 (fun v44 e44 b44 => ?_)
          refine o_ci hw (oRunS cx hA hw q_X11_has k_m_X11_215 (As := [.long v42, .int v44]) (c_X11_has v42 v44) (by decide) rfl hl.1 rfl (Nat.le_of_ble_eq_true rfl) dX11_cell_127 (by decide)) (fun v46 σ45 H locs hp hw => ?_)
          obtain ⟨p46_0, p46_1, p46_2⟩ := hp
          rw [p46_0] at hw
          refine lv_if_eq (tgt := 137) hx hb dX11_cell_130 (by decide) (fun c47 => ?_) (fun c47 => ?_)
          · --
            have i48 : Iv v46 0 0 := iv_eq1 c47 p46_1 (⟨by decide, by decide⟩ : Iv 0 0 0) (by decide)
            exact J_137 _ _ hw _ (lv_sub hl [0, 1, 2] rfl)
          · --
            have i49 : Iv v46 1 1 := iv_ne1 c47 p46_1 (⟨by decide, by decide⟩ : Iv 0 0 0) (by decide)
            refine lv_iconst (v := 3) hx hb dX11_cell_133 (by decide) ?_
            refine lv_goto (tgt := 143) hx hb dX11_cell_134 (by decide) ?_
            rw [← hQ]
            exact o_ri cx rx hw dX11_cell_143 fr
      by_cases q50 : a2 = 4
      · --
        refine lv_tableIn (tgt := 144) hx hb dX11_cell_29 (by rw [q50]; decide) (by rw [q50]; decide) (by rw [q50]; rfl) (by decide) ?_
        have i51 : Iv a2 4 4 := iv_eq1 q50 i16 (⟨by decide, by decide⟩ : Iv 4 4 4) (by decide)
        refine lv_aload_n hx hb dX11_cell_144 rfl (lv_at hl 0 rfl) ?_
        refine g_640 cx hw ha0 k_f_X11_9 dX11_cell_145 (fun v52 e52 h52 => ?_)
        refine lv_sipush (v := 192) hx hb dX11_cell_148 (by decide) ?_
        refine lv_iload_n hx hb dX11_cell_151 rfl (lv_at hl 1 rfl) ?_
        refine lv_iadd hx hb dX11_cell_152 ?_
        refine lv_topi (fun v53 e53 => ?_)
        have i53 : Iv v53 192 255 := iv_add e53 (⟨by decide, by decide⟩ : Iv 192 192 192) i11 (by decide)
        have x53 : v53.toInt = a1.toInt + 192 := (ex_add e53 (⟨by decide, by decide⟩ : Iv 192 192 192) i11 (by decide)).trans (Int.add_comm _ _)
        refine o_iald cx hw h52 (by decide) rfl (iv_in i53 (by decide)) dX11_cell_153 (fun v54 e54 b54 => ?_)
        rw [← hQ]
        exact o_ri cx rx hw dX11_cell_154 fr
      by_cases q55 : a2 = 5
      · --
        refine lv_tableIn (tgt := 155) hx hb dX11_cell_29 (by rw [q55]; decide) (by rw [q55]; decide) (by rw [q55]; rfl) (by decide) ?_
        have i56 : Iv a2 5 5 := iv_eq1 q55 i16 (⟨by decide, by decide⟩ : Iv 5 5 5) (by decide)
        refine lv_aload_n hx hb dX11_cell_155 rfl (lv_at hl 0 rfl) ?_
        refine g_640 cx hw ha0 k_f_X11_9 dX11_cell_156 (fun v57 e57 h57 => ?_)
        refine lv_sipush (v := 256) hx hb dX11_cell_159 (by decide) ?_
        refine lv_iload_n hx hb dX11_cell_162 rfl (lv_at hl 1 rfl) ?_
        refine lv_iadd hx hb dX11_cell_163 ?_
        refine lv_topi (fun v58 e58 => ?_)
        have i58 : Iv v58 256 319 := iv_add e58 (⟨by decide, by decide⟩ : Iv 256 256 256) i11 (by decide)
        have x58 : v58.toInt = a1.toInt + 256 := (ex_add e58 (⟨by decide, by decide⟩ : Iv 256 256 256) i11 (by decide)).trans (Int.add_comm _ _)
        refine o_iald cx hw h57 (by decide) rfl (iv_in i58 (by decide)) dX11_cell_164 (fun v59 e59 b59 => ?_)
        rw [← hQ]
        exact o_ri cx rx hw dX11_cell_165 fr
      by_cases q60 : a2 = 6
      · --
        refine lv_tableIn (tgt := 166) hx hb dX11_cell_29 (by rw [q60]; decide) (by rw [q60]; decide) (by rw [q60]; rfl) (by decide) ?_
        have i61 : Iv a2 6 6 := iv_eq1 q60 i16 (⟨by decide, by decide⟩ : Iv 6 6 6) (by decide)
        refine lv_aload_n hx hb dX11_cell_166 rfl (lv_at hl 0 rfl) ?_
        refine lv_aload_n hx hb dX11_cell_167 rfl (lv_at hl 0 rfl) ?_
        refine g_640 cx hw ha0 k_f_X11_9 dX11_cell_168 (fun v62 e62 h62 => ?_)
        refine lv_iload_n hx hb dX11_cell_171 rfl (lv_at hl 1 rfl) ?_
        refine o_ci hw (oRunV cx hA hw q_X11_isRoad k_m_X11_211 rfl ha0 (by decide) (As := [.ref v62, .int a1]) (c_X11_isRoad a0 ha0 v62 h62 a1 (iv_w i11 (by decide))) (by decide) rfl hl.1 rfl (Nat.le_of_ble_eq_true rfl) dX11_cell_172 (by decide)) (fun v64 σ63 H locs hp hw => ?_)
        obtain ⟨p64_0, p64_1⟩ := hp
        rw [p64_0] at hw
        refine lv_if_eq (tgt := 182) hx hb dX11_cell_175 (by decide) (fun c65 => ?_) (fun c65 => ?_)
        · --
          have i66 : Iv v64 0 0 := iv_eq1 c65 p64_1 (⟨by decide, by decide⟩ : Iv 0 0 0) (by decide)
          refine lv_iconst (v := 0) hx hb dX11_cell_182 (by decide) ?_
          rw [← hQ]
          exact o_ri cx rx hw dX11_cell_183 fr
        · --
          have i67 : Iv v64 1 1 := iv_ne1 c65 p64_1 (⟨by decide, by decide⟩ : Iv 0 0 0) (by decide)
          refine lv_iconst (v := 1) hx hb dX11_cell_178 (by decide) ?_
          refine lv_goto (tgt := 183) hx hb dX11_cell_179 (by decide) ?_
          rw [← hQ]
          exact o_ri cx rx hw dX11_cell_183 fr
      have q17 := iv_nt q17 (k := 0) (by decide)
      have q22 := iv_nt q22 (k := 1) (by decide)
      have q27 := iv_nt q27 (k := 2) (by decide)
      have q32 := iv_nt q32 (k := 3) (by decide)
      have q50 := iv_nt q50 (k := 4) (by decide)
      have q55 := iv_nt q55 (k := 5) (by decide)
      have q60 := iv_nt q60 (k := 6) (by decide)
      refine lv_tableOut (tgt := 184) hx hb dX11_cell_29 (by omega) (by decide) ?_
      refine lv_aload_n hx hb dX11_cell_184 rfl (lv_at hl 0 rfl) ?_
      refine lv_aload_n hx hb dX11_cell_185 rfl (lv_at hl 0 rfl) ?_
      refine g_640 cx hw ha0 k_f_X11_9 dX11_cell_186 (fun v68 e68 h68 => ?_)
      refine lv_iload_n hx hb dX11_cell_189 rfl (lv_at hl 1 rfl) ?_
      have i69 : Iv (σ1.1 647 a0) 0 6 := o_fb (j := 647) hw ha0 rfl
      refine o_ci hw (oRunV cx hA hw q_X11_herdsAt k_m_X11_233 rfl ha0 (by decide) (As := [.ref v68, .int a1]) (c_X11_herdsAt a0 ha0 v68 h68 a1) (by decide) rfl hl.1 rfl (Nat.le_of_ble_eq_true rfl) dX11_cell_190 (by decide)) (fun v71 σ70 H locs hp hw => ?_)
      obtain ⟨p71_0, p71_1, p71_2⟩ := hp
      rw [p71_0] at hw
      rw [← hQ]
      exact o_ri cx rx hw dX11_cell_193 fr
    · --
      have i72 : Iv v13 0 0 := iv_eq1 c14 p13_1 (⟨by decide, by decide⟩ : Iv 0 0 0) (by decide)
      exact J_23 _ _ hw _ (lv_sub hl [0, 1, 2] rfl)
abbrev fs_X11_herd : List Nat := [658, 659, 660, 661, 662, 663, 669]
abbrev ts_X11_herd : List Nat := [55]
set_option maxHeartbeats 4000000 in
set_option maxRecDepth 100000 in
theorem c_X11_herd (a0 : Nat) (ha0 : oA L τ a0 10) (a1 : Int32) (a2 : Int32) : oMet l A L τ cy D K yX11_herd cX11_herd 3 (some .int) 340 8548 [.ref a0, .int a1, .int a2] σ (va_Qi (fun r σ1 => oFr τ fs_X11_herd ts_X11_herd σ σ1) (oPo A L τ cy D) A) := by
  refine oMk (by decide) (Nat.le_of_ble_eq_true rfl) rfl ?_
  intro p e s m args below meth c ls cx rx hA hw hl
  generalize hQ : MQ below _ args s 0 0 A = Q
  have hx := cx.1.1
  have hb := cx.1.2.1
  have hml := cx.1.2.2.1
  have hown := cx.1.2.2.2.1
  have hts := cx.1.2.2.2.2
  have hl : lv_has ls 3 [(0, .ref a0), (1, .int a1), (2, .int a2)] := hl
  have fr : oFr τ fs_X11_herd ts_X11_herd σ σ := oFr_rf
  refine lv_aload_n hx hb dX11_herd_0 rfl (lv_at hl 0 rfl) ?_
  refine lv_iconst (v := 0) hx hb dX11_herd_1 (by decide) ?_
  refine p_658 cx hw ha0 k_f_X11_89 dX11_herd_2 (fun σ1 H locs eσ1 hw => ?_)
  have fr := oFr_i fr eσ1 (by decide)
  refine lv_aload_n hx hb dX11_herd_5 rfl (lv_at hl 0 rfl) ?_
  refine lv_iload_n hx hb dX11_herd_6 rfl (lv_at hl 1 rfl) ?_
  refine o_ci hw (oRunV cx hA hw q_X11_isHerd k_m_X11_237 rfl ha0 (by decide) (As := [.int a1]) (c_X11_isHerd a0 ha0 a1) (by decide) rfl hl.1 rfl (Nat.le_of_ble_eq_true rfl) dX11_herd_7 (by decide)) (fun v3 σ2 H locs hp hw => ?_)
  obtain ⟨p3_0, p3_1, p3_2⟩ := hp
  rw [p3_0] at hw
  have J_22 : ∀ (H : Heap) (locs : List Loc), oI A L τ cy D s.heap σ1 H locs → ∀ (ls : Array Slot), lv_has ls 3 [(0, .ref a0), (1, .int a1), (2, .int a2)] → W p l e ({ frames := 340, cells := 0, slots := 0, locals := 8548 } : Room) s m args below meth c H locs 0 0 Q (F0 m 22 ls []) := by
    intro  H locs hw     ls hl
    refine lv_aload_n hx hb dX11_herd_22 rfl (lv_at hl 0 rfl) ?_
    refine o_ci hw (oRunV cx hA hw q_X11_lost k_m_X11_230 rfl ha0 (by decide) (As := []) (c_X11_lost a0 ha0) (by decide) rfl hl.1 rfl (Nat.le_of_ble_eq_true rfl) dX11_herd_23 (by decide)) (fun v5 σ4 H locs hp hw => ?_)
    obtain ⟨p5_0, p5_1⟩ := hp
    have fr := oFr_tr fr p5_0 (by decide)
    rw [← hQ]
    exact o_ri cx rx hw dX11_herd_26 fr
  refine lv_if_eq (tgt := 22) hx hb dX11_herd_10 (by decide) (fun c6 => ?_) (fun c6 => ?_)
  · --
    have i7 : Iv v3 0 0 := iv_eq1 c6 p3_1 (⟨by decide, by decide⟩ : Iv 0 0 0) (by decide)
    exact J_22 _ _ hw _ (lv_sub hl [0, 1, 2] rfl)
  · --
    have i8 : Iv v3 1 1 := iv_ne1 c6 p3_1 (⟨by decide, by decide⟩ : Iv 0 0 0) (by decide)
    have i9 : Iv a1 0 5 := p3_2 c6
    refine lv_iload_n hx hb dX11_herd_13 rfl (lv_at hl 2 rfl) ?_
    refine lv_iconst (v := 0) hx hb dX11_herd_14 (by decide) ?_
    refine lv_iconst (v := 4) hx hb dX11_herd_15 (by decide) ?_
    refine o_ci hw (oRunS cx hA hw q_X11_in k_m_X11_95 (As := [.int a2, .int 0, .int 4]) (c_X11_in a2 0 4) (by decide) rfl hl.1 rfl (Nat.le_of_ble_eq_true rfl) dX11_herd_16 (by decide)) (fun v11 σ10 H locs hp hw => ?_)
    obtain ⟨p11_0, p11_1, p11_2, p11_3, p11_4⟩ := hp
    rw [p11_0] at hw
    refine lv_if_ne (tgt := 27) hx hb dX11_herd_19 (by decide) (fun c12 => ?_) (fun c12 => ?_)
    · --
      have i13 : Iv v11 1 1 := iv_ne1 c12 p11_1 (⟨by decide, by decide⟩ : Iv 0 0 0) (by decide)
      have i14 : Iv a2 0 4 := (fun h => iv_rel (p11_2 h) (⟨by decide, by decide⟩ : Iv 0 0 0) (⟨by decide, by decide⟩ : Iv 4 4 4)) c12
      refine lv_iload_n hx hb dX11_herd_27 rfl (lv_at hl 2 rfl) ?_
      by_cases q15 : a2 = 0
      · --
        refine lv_tableIn (tgt := 60) hx hb dX11_herd_28 (by rw [q15]; decide) (by rw [q15]; decide) (by rw [q15]; rfl) (by decide) ?_
        have i16 : Iv a2 0 0 := iv_eq1 q15 i14 (⟨by decide, by decide⟩ : Iv 0 0 0) (by decide)
        refine lv_aload_n hx hb dX11_herd_60 rfl (lv_at hl 0 rfl) ?_
        refine g_640 cx hw ha0 k_f_X11_9 dX11_herd_61 (fun v17 e17 h17 => ?_)
        refine lv_sipush (v := 320) hx hb dX11_herd_64 (by decide) ?_
        refine lv_iload_n hx hb dX11_herd_67 rfl (lv_at hl 1 rfl) ?_
        refine lv_iadd hx hb dX11_herd_68 ?_
        refine lv_topi (fun v18 e18 => ?_)
        have i18 : Iv v18 320 325 := iv_add e18 (⟨by decide, by decide⟩ : Iv 320 320 320) i9 (by decide)
        have x18 : v18.toInt = a1.toInt + 320 := (ex_add e18 (⟨by decide, by decide⟩ : Iv 320 320 320) i9 (by decide)).trans (Int.add_comm _ _)
        refine o_iald cx hw h17 (by decide) rfl (iv_in i18 (by decide)) dX11_herd_69 (fun v19 e19 b19 => ?_)
        have i19 : Iv v19 0 63 := rb_now b19 i18 (by decide)
        rw [← hQ]
        exact o_ri cx rx hw dX11_herd_70 fr
      by_cases q20 : a2 = 1
      · --
        refine lv_tableIn (tgt := 71) hx hb dX11_herd_28 (by rw [q20]; decide) (by rw [q20]; decide) (by rw [q20]; rfl) (by decide) ?_
        have i21 : Iv a2 1 1 := iv_eq1 q20 i14 (⟨by decide, by decide⟩ : Iv 1 1 1) (by decide)
        refine lv_aload_n hx hb dX11_herd_71 rfl (lv_at hl 0 rfl) ?_
        refine g_648 cx hw ha0 k_f_X11_22 dX11_herd_72 (fun v22 e22 h22 => ?_)
        refine lv_iload_n hx hb dX11_herd_75 rfl (lv_at hl 1 rfl) ?_
        refine o_iald cx hw h22 (by decide) rfl (iv_in i9 (by decide)) dX11_herd_76 (fun v23 e23 b23 => ?_)
        rw [← hQ]
        exact o_ri cx rx hw dX11_herd_77 fr
      by_cases q24 : a2 = 2
      · --
        refine lv_tableIn (tgt := 78) hx hb dX11_herd_28 (by rw [q24]; decide) (by rw [q24]; decide) (by rw [q24]; rfl) (by decide) ?_
        have i25 : Iv a2 2 2 := iv_eq1 q24 i14 (⟨by decide, by decide⟩ : Iv 2 2 2) (by decide)
        refine lv_aload_n hx hb dX11_herd_78 rfl (lv_at hl 0 rfl) ?_
        refine g_649 cx hw ha0 k_f_X11_161 dX11_herd_79 (fun v26 e26 => ?_)
        refine lv_iload_n hx hb dX11_herd_82 rfl (lv_at hl 1 rfl) ?_
        refine lv_ishr hx hb dX11_herd_83 ?_
        refine lv_topi (fun v27 e27 => ?_)
        refine lv_iconst (v := 1) hx hb dX11_herd_84 (by decide) ?_
        refine lv_iand hx hb dX11_herd_85 ?_
        refine lv_topi (fun v28 e28 => ?_)
        have i28 : Iv v28 0 1 := iv_and e28 (⟨by decide, by decide⟩ : Iv 1 1 1) (by decide)
        rw [← hQ]
        exact o_ri cx rx hw dX11_herd_86 fr
      by_cases q29 : a2 = 3
      · --
        refine lv_tableIn (tgt := 87) hx hb dX11_herd_28 (by rw [q29]; decide) (by rw [q29]; decide) (by rw [q29]; rfl) (by decide) ?_
        have i30 : Iv a2 3 3 := iv_eq1 q29 i14 (⟨by decide, by decide⟩ : Iv 3 3 3) (by decide)
        refine lv_aload_n hx hb dX11_herd_87 rfl (lv_at hl 0 rfl) ?_
        refine g_640 cx hw ha0 k_f_X11_9 dX11_herd_88 (fun v31 e31 h31 => ?_)
        refine lv_sipush (v := 326) hx hb dX11_herd_91 (by decide) ?_
        refine lv_iload_n hx hb dX11_herd_94 rfl (lv_at hl 1 rfl) ?_
        refine lv_iadd hx hb dX11_herd_95 ?_
        refine lv_topi (fun v32 e32 => ?_)
        have i32 : Iv v32 326 331 := iv_add e32 (⟨by decide, by decide⟩ : Iv 326 326 326) i9 (by decide)
        have x32 : v32.toInt = a1.toInt + 326 := (ex_add e32 (⟨by decide, by decide⟩ : Iv 326 326 326) i9 (by decide)).trans (Int.add_comm _ _)
        refine o_iald cx hw h31 (by decide) rfl (iv_in i32 (by decide)) dX11_herd_96 (fun v33 e33 b33 => ?_)
        rw [← hQ]
        exact o_ri cx rx hw dX11_herd_97 fr
      have q15 := iv_nt q15 (k := 0) (by decide)
      have q20 := iv_nt q20 (k := 1) (by decide)
      have q24 := iv_nt q24 (k := 2) (by decide)
      have q29 := iv_nt q29 (k := 3) (by decide)
      refine lv_tableOut (tgt := 98) hx hb dX11_herd_28 (by omega) (by decide) ?_
      refine lv_aload_n hx hb dX11_herd_98 rfl (lv_at hl 0 rfl) ?_
      refine lv_aload_n hx hb dX11_herd_99 rfl (lv_at hl 0 rfl) ?_
      refine g_640 cx hw ha0 k_f_X11_9 dX11_herd_100 (fun v34 e34 h34 => ?_)
      refine lv_iload_n hx hb dX11_herd_103 rfl (lv_at hl 1 rfl) ?_
      refine o_ci hw (oRunV cx hA hw q_X11_goesTo k_m_X11_240 rfl ha0 (by decide) (As := [.ref v34, .int a1]) (c_X11_goesTo a0 ha0 v34 h34 a1 (iv_w i9 (by decide))) (by decide) rfl hl.1 rfl (Nat.le_of_ble_eq_true rfl) dX11_herd_104 (by decide)) (fun v36 σ35 H locs hp hw => ?_)
      obtain ⟨p36_0, p36_1⟩ := hp
      have fr := oFr_tr fr p36_0 (by decide)
      rw [← hQ]
      exact o_ri cx rx hw dX11_herd_107 fr
    · --
      have i37 : Iv v11 0 0 := iv_eq1 c12 p11_1 (⟨by decide, by decide⟩ : Iv 0 0 0) (by decide)
      exact J_22 _ _ hw _ (lv_sub hl [0, 1, 2] rfl)
abbrev fs_X11_set : List Nat := [650, 651, 658]
abbrev ts_X11_set : List Nat := []
set_option maxHeartbeats 4000000 in
set_option maxRecDepth 100000 in
theorem c_X11_set (a0 : Nat) (ha0 : oA L τ a0 10) (a1 : Int32) (a2 : Int32) : oMet l A L τ cy D K yX11_set cX11_set 4 (some .int) 1 22 [.ref a0, .int a1, .int a2] σ (va_Qi (fun r σ1 => oFr τ fs_X11_set ts_X11_set σ σ1 ∧ ((a1.toInt = 0 ∧ 0 ≤ a2.toInt ∧ a2.toInt ≤ 99 ∧ r.toInt = (σ.1 650 a0).toInt ∧ (σ1.1 650 a0).toInt = a2.toInt ∧ (σ1.1 651 a0).toInt = (σ.1 651 a0).toInt) ∨ (a1.toInt = 1 ∧ 1 ≤ a2.toInt ∧ a2.toInt ≤ 99 ∧ r.toInt = (σ.1 651 a0).toInt ∧ (σ1.1 651 a0).toInt = a2.toInt ∧ (σ1.1 650 a0).toInt = (σ.1 650 a0).toInt) ∨ (¬ (a1.toInt = 0 ∧ 0 ≤ a2.toInt ∧ a2.toInt ≤ 99) ∧ ¬ (a1.toInt = 1 ∧ 1 ≤ a2.toInt ∧ a2.toInt ≤ 99) ∧ r.toInt = -1 ∧ (σ1.1 650 a0).toInt = (σ.1 650 a0).toInt ∧ (σ1.1 651 a0).toInt = (σ.1 651 a0).toInt))) (oPo A L τ cy D) A) := by
  refine oMk (by decide) (Nat.le_of_ble_eq_true rfl) rfl ?_
  intro p e s m args below meth c ls cx rx hA hw hl
  generalize hQ : MQ below _ args s 0 0 A = Q
  have hx := cx.1.1
  have hb := cx.1.2.1
  have hml := cx.1.2.2.1
  have hown := cx.1.2.2.2.1
  have hts := cx.1.2.2.2.2
  have hl : lv_has ls 4 [(0, .ref a0), (1, .int a1), (2, .int a2)] := hl
  have fr : oFr τ fs_X11_set ts_X11_set σ σ := oFr_rf
  have iz651 : Iv (σ.1 651 a0) (1) 99 := o_fb (j := 651) hw ha0 rfl
  refine lv_aload_n hx hb dX11_set_0 rfl (lv_at hl 0 rfl) ?_
  refine lv_iconst (v := 0) hx hb dX11_set_1 (by decide) ?_
  refine p_658 cx hw ha0 k_f_X11_89 dX11_set_2 (fun σ1 H locs eσ1 hw => ?_)
  have fr := oFr_i fr eσ1 (by decide)
  refine lv_iload_n hx hb dX11_set_5 rfl (lv_at hl 1 rfl) ?_
  refine lv_iconst (v := 0) hx hb dX11_set_6 (by decide) ?_
  refine lv_iconst (v := 1) hx hb dX11_set_7 (by decide) ?_
  refine o_ci hw (oRunS cx hA hw q_X11_in k_m_X11_95 (As := [.int a1, .int 0, .int 1]) (c_X11_in a1 0 1) (by decide) rfl hl.1 rfl (Nat.le_of_ble_eq_true rfl) dX11_set_8 (by decide)) (fun v3 σ2 H locs hp hw => ?_)
  obtain ⟨p3_0, p3_1, p3_2, p3_3, p3_4⟩ := hp
  rw [p3_0] at hw
  refine lv_if_eq (tgt := 24) hx hb dX11_set_11 (by decide) (fun c4 => ?_) (fun c4 => ?_)
  · --
    have i5 : Iv v3 0 0 := iv_eq1 c4 p3_1 (⟨by decide, by decide⟩ : Iv 0 0 0) (by decide)
    refine lv_iconst (v := (-1)) hx hb dX11_set_24 (by decide) ?_
    rw [← hQ]
    exact o_ri cx rx hw dX11_set_25 ⟨fr, (by exact (by have := (iz651).1; have := (iz651).2; have := (i5).1; have := (i5).2; have : (σ1.1 650 a0).toInt = ((σ.1 650 a0) : Int32).toInt := congrArg Int32.toInt (show σ1.1 650 a0 = (σ.1 650 a0) from ((kp_i eσ1 (by decide)).trans rfl)); have : (σ1.1 651 a0).toInt = ((σ.1 651 a0) : Int32).toInt := congrArg Int32.toInt (show σ1.1 651 a0 = (σ.1 651 a0) from ((kp_i eσ1 (by decide)).trans rfl)); have : (σ1.1 658 a0).toInt = (0 : Int32).toInt := congrArg Int32.toInt (show σ1.1 658 a0 = 0 from (kp_s eσ1)); have : (v3 : Int32).toInt = (0 : Int32).toInt := congrArg Int32.toInt c4; have : ((-1) : Int32).toInt = (-1) := (by decide); have : (0 : Int32).toInt = 0 := (by decide); have : (1 : Int32).toInt = 1 := (by decide); omega))⟩
  · --
    have i6 : Iv v3 1 1 := iv_ne1 c4 p3_1 (⟨by decide, by decide⟩ : Iv 0 0 0) (by decide)
    have i7 : Iv a1 0 1 := (fun h => iv_rel (p3_2 h) (⟨by decide, by decide⟩ : Iv 0 0 0) (⟨by decide, by decide⟩ : Iv 1 1 1)) c4
    refine lv_iload_n hx hb dX11_set_14 rfl (lv_at hl 2 rfl) ?_
    refine lv_iload_n hx hb dX11_set_15 rfl (lv_at hl 1 rfl) ?_
    refine lv_bipush (v := 99) hx hb dX11_set_16 (by decide) ?_
    refine o_ci hw (oRunS cx hA hw q_X11_in k_m_X11_95 (As := [.int a2, .int a1, .int 99]) (c_X11_in a2 a1 99) (by decide) rfl hl.1 rfl (Nat.le_of_ble_eq_true rfl) dX11_set_18 (by decide)) (fun v9 σ8 H locs hp hw => ?_)
    obtain ⟨p9_0, p9_1, p9_2, p9_3, p9_4⟩ := hp
    rw [p9_0] at hw
    refine lv_if_ne (tgt := 26) hx hb dX11_set_21 (by decide) (fun c10 => ?_) (fun c10 => ?_)
    · --
      have i11 : Iv v9 1 1 := iv_ne1 c10 p9_1 (⟨by decide, by decide⟩ : Iv 0 0 0) (by decide)
      have l12 : a1.toInt ≤ a2.toInt + 0 := le_of (p9_2 c10).1
      have i13 : Iv a2 0 99 := (fun h => iv_rel (p9_2 h) i7 (⟨by decide, by decide⟩ : Iv 99 99 99)) c10
      refine lv_iload_n hx hb dX11_set_26 rfl (lv_at hl 1 rfl) ?_
      refine lv_if_ne (tgt := 37) hx hb dX11_set_27 (by decide) (fun c14 => ?_) (fun c14 => ?_)
      · --
        have i15 : Iv a1 1 1 := iv_ne1 c14 i7 (⟨by decide, by decide⟩ : Iv 0 0 0) (by decide)
        have i16 : Iv a2 1 99 := iv_lel l12 i15 i13 (by decide)
        refine lv_aload_n hx hb dX11_set_37 rfl (lv_at hl 0 rfl) ?_
        refine g_651 cx hw ha0 k_f_X11_29 dX11_set_38 (fun v17 e17 i17 => ?_)
        rw [show v17 = (σ.1 651 a0) from e17.trans ((kp_i eσ1 (by decide)).trans rfl)]
        refine lv_istore_n (lv' := [(3, .int (σ.1 651 a0)), (0, .ref a0), (1, .int a1), (2, .int a2)]) hx hb dX11_set_41 rfl hl (by decide) rfl (fun ls hl => ?_)
        refine lv_iload_n hx hb dX11_set_42 rfl (lv_at hl 2 rfl) ?_
        refine lv_if_ne (tgt := 54) hx hb dX11_set_43 (by decide) (fun c18 => ?_) (fun c18 => ?_)
        · --
          refine lv_aload_n hx hb dX11_set_54 rfl (lv_at hl 1 rfl) ?_
          refine lv_iload_n hx hb dX11_set_55 rfl (lv_at hl 3 rfl) ?_
          refine p_651 cx hw ha0 (iv_w i16 (by decide)) k_f_X11_29 dX11_set_56 (fun σ19 H locs eσ19 hw => ?_)
          have fr := oFr_i fr eσ19 (by decide)
          refine lv_iload_n hx hb dX11_set_59 rfl (lv_at hl 0 rfl) ?_
          rw [← hQ]
          exact o_ri cx rx hw dX11_set_60 ⟨fr, (by exact (by have := (i15).1; have := (i15).2; have := (i16).1; have := (i16).2; have := (iz651).1; have := (iz651).2; have := (i6).1; have := (i6).2; have := (i11).1; have := (i11).2; have : (σ19.1 650 a0).toInt = ((σ.1 650 a0) : Int32).toInt := congrArg Int32.toInt (show σ19.1 650 a0 = (σ.1 650 a0) from ((kp_i eσ19 (by decide)).trans ((kp_i eσ1 (by decide)).trans rfl))); have : (σ19.1 658 a0).toInt = (0 : Int32).toInt := congrArg Int32.toInt (show σ19.1 658 a0 = 0 from ((kp_i eσ19 (by decide)).trans (kp_s eσ1))); have : (σ19.1 651 a0).toInt = (a2 : Int32).toInt := congrArg Int32.toInt (show σ19.1 651 a0 = a2 from (kp_s eσ19)); have : (0 : Int32).toInt = 0 := (by decide); have : (1 : Int32).toInt = 1 := (by decide); have : (99 : Int32).toInt = 99 := (by decide); omega))⟩
        · --
          exact iv_no (iv_eq1 (lo := 1) (hi := 0) c18 i15 (⟨by decide, by decide⟩ : Iv 0 0 0) (by decide)) (by decide)
      · --
        have i20 : Iv a1 0 0 := iv_eq1 c14 i7 (⟨by decide, by decide⟩ : Iv 0 0 0) (by decide)
        refine lv_aload_n hx hb dX11_set_30 rfl (lv_at hl 0 rfl) ?_
        refine g_650 cx hw ha0 k_f_X11_25 dX11_set_31 (fun v21 e21 => ?_)
        rw [show v21 = (σ.1 650 a0) from e21.trans ((kp_i eσ1 (by decide)).trans rfl)]
        refine lv_goto (tgt := 41) hx hb dX11_set_34 (by decide) ?_
        refine lv_istore_n (lv' := [(3, .int (σ.1 650 a0)), (0, .ref a0), (1, .int a1), (2, .int a2)]) hx hb dX11_set_41 rfl hl (by decide) rfl (fun ls hl => ?_)
        refine lv_iload_n hx hb dX11_set_42 rfl (lv_at hl 2 rfl) ?_
        refine lv_if_ne (tgt := 54) hx hb dX11_set_43 (by decide) (fun c22 => ?_) (fun c22 => ?_)
        · --
          exact iv_no (iv_ne1 c22 i20 (⟨by decide, by decide⟩ : Iv 0 0 0) (by decide)) (by decide)
        · --
          refine lv_aload_n hx hb dX11_set_46 rfl (lv_at hl 1 rfl) ?_
          refine lv_iload_n hx hb dX11_set_47 rfl (lv_at hl 3 rfl) ?_
          refine p_650 cx hw ha0 k_f_X11_25 dX11_set_48 (fun σ23 H locs eσ23 hw => ?_)
          have fr := oFr_i fr eσ23 (by decide)
          refine lv_goto (tgt := 59) hx hb dX11_set_51 (by decide) ?_
          refine lv_iload_n hx hb dX11_set_59 rfl (lv_at hl 0 rfl) ?_
          rw [← hQ]
          exact o_ri cx rx hw dX11_set_60 ⟨fr, (by exact (by have := (i20).1; have := (i20).2; have := (i13).1; have := (i13).2; have := (iz651).1; have := (iz651).2; have := (i6).1; have := (i6).2; have := (i11).1; have := (i11).2; have : (σ23.1 651 a0).toInt = ((σ.1 651 a0) : Int32).toInt := congrArg Int32.toInt (show σ23.1 651 a0 = (σ.1 651 a0) from ((kp_i eσ23 (by decide)).trans ((kp_i eσ1 (by decide)).trans rfl))); have : (σ23.1 658 a0).toInt = (0 : Int32).toInt := congrArg Int32.toInt (show σ23.1 658 a0 = 0 from ((kp_i eσ23 (by decide)).trans (kp_s eσ1))); have : (σ23.1 650 a0).toInt = (a2 : Int32).toInt := congrArg Int32.toInt (show σ23.1 650 a0 = a2 from (kp_s eσ23)); have : (a1 : Int32).toInt = (0 : Int32).toInt := congrArg Int32.toInt c14; have : (a1 : Int32).toInt = (0 : Int32).toInt := congrArg Int32.toInt c22; have : (0 : Int32).toInt = 0 := (by decide); have : (1 : Int32).toInt = 1 := (by decide); have : (99 : Int32).toInt = 99 := (by decide); omega))⟩
    · --
      have i24 : Iv v9 0 0 := iv_eq1 c10 p9_1 (⟨by decide, by decide⟩ : Iv 0 0 0) (by decide)
      refine lv_iconst (v := (-1)) hx hb dX11_set_24 (by decide) ?_
      rw [← hQ]
      exact o_ri cx rx hw dX11_set_25 ⟨fr, (by exact (by have := (i7).1; have := (i7).2; have := (iz651).1; have := (iz651).2; have := (i6).1; have := (i6).2; have := (i24).1; have := (i24).2; have : (σ1.1 650 a0).toInt = ((σ.1 650 a0) : Int32).toInt := congrArg Int32.toInt (show σ1.1 650 a0 = (σ.1 650 a0) from ((kp_i eσ1 (by decide)).trans rfl)); have : (σ1.1 651 a0).toInt = ((σ.1 651 a0) : Int32).toInt := congrArg Int32.toInt (show σ1.1 651 a0 = (σ.1 651 a0) from ((kp_i eσ1 (by decide)).trans rfl)); have : (σ1.1 658 a0).toInt = (0 : Int32).toInt := congrArg Int32.toInt (show σ1.1 658 a0 = 0 from (kp_s eσ1)); have : (v9 : Int32).toInt = (0 : Int32).toInt := congrArg Int32.toInt c10; have : ((-1) : Int32).toInt = (-1) := (by decide); have : (0 : Int32).toInt = 0 := (by decide); have : (1 : Int32).toInt = 1 := (by decide); have : (99 : Int32).toInt = 99 := (by decide); omega))⟩
abbrev fs_X11_sheet : List Nat := [658]
abbrev ts_X11_sheet : List Nat := [69]
set_option maxHeartbeats 4000000 in
set_option maxRecDepth 100000 in
theorem c_X11_sheet (a0 : Nat) (ha0 : oA L τ a0 10) (a1 : Int32) (a2 : Int32) (a3 : Int32) (a4 : Int32) : oMet l A L τ cy D K yX11_sheet cX11_sheet 9 (some .int) 1 40 [.ref a0, .int a1, .int a2, .int a3, .int a4] σ (va_Qi (fun r σ1 => oFr τ fs_X11_sheet ts_X11_sheet σ σ1) (oPo A L τ cy D) A) := by
  refine oMk (by decide) (Nat.le_of_ble_eq_true rfl) rfl ?_
  intro p e s m args below meth c ls cx rx hA hw hl
  generalize hQ : MQ below _ args s 0 0 A = Q
  have hx := cx.1.1
  have hb := cx.1.2.1
  have hml := cx.1.2.2.1
  have hown := cx.1.2.2.2.1
  have hts := cx.1.2.2.2.2
  have hl : lv_has ls 9 [(0, .ref a0), (1, .int a1), (2, .int a2), (3, .int a3), (4, .int a4)] := hl
  have fr : oFr τ fs_X11_sheet ts_X11_sheet σ σ := oFr_rf
  refine lv_aload_n hx hb dX11_sheet_0 rfl (lv_at hl 0 rfl) ?_
  refine lv_iconst (v := 0) hx hb dX11_sheet_1 (by decide) ?_
  refine p_658 cx hw ha0 k_f_X11_89 dX11_sheet_2 (fun σ1 H locs eσ1 hw => ?_)
  have fr := oFr_i fr eσ1 (by decide)
  refine lv_iload_n hx hb dX11_sheet_5 rfl (lv_at hl 1 rfl) ?_
  refine lv_iconst (v := 0) hx hb dX11_sheet_6 (by decide) ?_
  refine lv_iconst (v := 3) hx hb dX11_sheet_7 (by decide) ?_
  refine o_ci hw (oRunS cx hA hw q_X11_in k_m_X11_95 (As := [.int a1, .int 0, .int 3]) (c_X11_in a1 0 3) (by decide) rfl hl.1 rfl (Nat.le_of_ble_eq_true rfl) dX11_sheet_8 (by decide)) (fun v3 σ2 H locs hp hw => ?_)
  obtain ⟨p3_0, p3_1, p3_2, p3_3, p3_4⟩ := hp
  rw [p3_0] at hw
  refine lv_if_eq (tgt := 20) hx hb dX11_sheet_11 (by decide) (fun c4 => ?_) (fun c4 => ?_)
  · --
    have i5 : Iv v3 0 0 := iv_eq1 c4 p3_1 (⟨by decide, by decide⟩ : Iv 0 0 0) (by decide)
    refine lv_iconst (v := (-1)) hx hb dX11_sheet_20 (by decide) ?_
    rw [← hQ]
    exact o_ri cx rx hw dX11_sheet_21 fr
  · --
    have i6 : Iv v3 1 1 := iv_ne1 c4 p3_1 (⟨by decide, by decide⟩ : Iv 0 0 0) (by decide)
    have i7 : Iv a1 0 3 := (fun h => iv_rel (p3_2 h) (⟨by decide, by decide⟩ : Iv 0 0 0) (⟨by decide, by decide⟩ : Iv 3 3 3)) c4
    refine lv_iload_n hx hb dX11_sheet_14 rfl (lv_at hl 2 rfl) ?_
    refine lv_bipush (v := 6) hx hb dX11_sheet_15 (by decide) ?_
    refine lv_icmp_le (tgt := 22) hx hb dX11_sheet_17 (by decide) (fun c8 => ?_) (fun c8 => ?_)
    · --
      have i9 : Iv a2 (-2147483648) 6 := iv_le1 c8 (iv_top a2) (⟨by decide, by decide⟩ : Iv 6 6 6) (by decide)
      refine lv_iload_n hx hb dX11_sheet_22 rfl (lv_at hl 1 rfl) ?_
      refine lv_iconst (v := 3) hx hb dX11_sheet_23 (by decide) ?_
      have J_34 : ∀ (H : Heap) (locs : List Loc), oI A L τ cy D s.heap σ1 H locs → ∀ (ls : Array Slot), lv_has ls 9 [(0, .ref a0), (1, .int a1), (2, .int a2), (3, .int a3), (4, .int a4)] → W p l e ({ frames := 1, cells := 0, slots := 0, locals := 40 } : Room) s m args below meth c H locs 0 0 Q (F0 m 34 ls []) := by
        intro  H locs hw     ls hl
        refine lv_iconst (v := 0) hx hb dX11_sheet_34 (by decide) ?_
        refine lv_istore (lv' := [(5, .int 0), (0, .ref a0), (1, .int a1), (2, .int a2), (3, .int a3), (4, .int a4)]) hx hb dX11_sheet_35 hl (by decide) rfl (fun ls hl => ?_)
        refine lv_iload_n hx hb dX11_sheet_37 rfl (lv_at hl 4 rfl) ?_
        refine lv_istore (lv' := [(6, .int a3), (5, .int 0), (0, .ref a0), (1, .int a1), (2, .int a2), (3, .int a3), (4, .int a4)]) hx hb dX11_sheet_38 hl (by decide) rfl (fun ls hl => ?_)
        refine lv_iconst (v := 0) hx hb dX11_sheet_40 (by decide) ?_
        refine lv_istore (lv' := [(7, .int 0), (6, .int a3), (5, .int 0), (0, .ref a0), (1, .int a1), (2, .int a2), (3, .int a3), (4, .int a4)]) hx hb dX11_sheet_41 hl (by decide) rfl (fun ls hl => ?_)
        have frE_43 := fr
        have J_43 : ∀ n43 : Nat, ∀ (j43_5 : Int32) (j43_6 : Int32) (j43_7 : Int32) (ij43_7 : Iv j43_7 0 6), ∀ (σ_43 : oSt) (H : Heap) (locs : List Loc), oI A L τ cy D s.heap σ_43 H locs → oFr τ fs_X11_sheet ts_X11_sheet σ σ_43 → (6 - j43_7.toInt).toNat < n43 → ∀ (ls : Array Slot), lv_has ls 9 [(0, .ref a0), (1, .int a1), (2, .int a2), (3, .int a3), (4, .int a4), (5, .int j43_5), (6, .int j43_6), (7, .int j43_7)] → W p l e ({ frames := 1, cells := 0, slots := 0, locals := 40 } : Room) s m args below meth c H locs 0 0 Q (F0 m 43 ls []) := by
          intro n43
          induction n43 with
          | zero => intro j43_5 j43_6 j43_7 ij43_7 σ_43 H locs hw fr   hn_43   ls hl; exact absurd hn_43 (Nat.not_lt_zero _)
          | succ n43 ih_43 =>
            intro j43_5 j43_6 j43_7 ij43_7 σ_43 H locs hw fr   hn_43   ls hl
            have fr_43 := fr
            refine lv_iload hx hb dX11_sheet_43 (lv_at hl 7 rfl) ?_
            refine lv_aload_n hx hb dX11_sheet_45 rfl (lv_at hl 0 rfl) ?_
            refine g_647 cx hw ha0 k_f_X11_105 dX11_sheet_46 (fun v10 e10 i10 => ?_)
            refine lv_icmp_ge (tgt := 135) hx hb dX11_sheet_49 (by decide) (fun c11 => ?_) (fun c11 => ?_)
            · --
              refine lv_iload_n hx hb dX11_sheet_135 rfl (lv_at hl 1 rfl) ?_
              refine lv_iconst (v := 3) hx hb dX11_sheet_136 (by decide) ?_
              refine lv_icmp_ne (tgt := 145) hx hb dX11_sheet_137 (by decide) (fun c12 => ?_) (fun c12 => ?_)
              · --
                have i13 : Iv a1 0 2 := iv_ne2 c12 i7 (⟨by decide, by decide⟩ : Iv 3 3 3) (by decide)
                refine lv_iload hx hb dX11_sheet_145 (lv_at hl 5 rfl) ?_
                rw [← hQ]
                exact o_ri cx rx hw dX11_sheet_147 fr
              · --
                have i14 : Iv a1 3 3 := iv_eq1 c12 i7 (⟨by decide, by decide⟩ : Iv 3 3 3) (by decide)
                refine lv_bipush (v := (-3)) hx hb dX11_sheet_140 (by decide) ?_
                refine lv_goto (tgt := 147) hx hb dX11_sheet_142 (by decide) ?_
                rw [← hQ]
                exact o_ri cx rx hw dX11_sheet_147 fr
            · --
              have i15 : Iv j43_7 0 5 := iv_lt1 (iv_nle c11) ij43_7 i10 (by decide)
              have i16 : Iv v10 1 6 := iv_lt2 (iv_nle c11) ij43_7 i10 (by decide)
              refine lv_iload_n hx hb dX11_sheet_52 rfl (lv_at hl 1 rfl) ?_
              have J_75 : ∀ (k75_0 : Int32), ∀ (H : Heap) (locs : List Loc), oI A L τ cy D s.heap σ_43 H locs → ∀ (ls : Array Slot), lv_has ls 9 [(0, .ref a0), (1, .int a1), (2, .int a2), (3, .int a3), (4, .int a4), (5, .int j43_5), (6, .int j43_6), (7, .int j43_7)] → W p l e ({ frames := 1, cells := 0, slots := 0, locals := 40 } : Room) s m args below meth c H locs 0 0 Q (F0 m 75 ls [.int k75_0]) := by
                intro k75_0 H locs hw     ls hl
                refine lv_istore (lv' := [(8, .int k75_0), (0, .ref a0), (1, .int a1), (2, .int a2), (3, .int a3), (4, .int a4), (5, .int j43_5), (6, .int j43_6), (7, .int j43_7)]) hx hb dX11_sheet_75 hl (by decide) rfl (fun ls hl => ?_)
                refine lv_aload_n hx hb dX11_sheet_77 rfl (lv_at hl 1 rfl) ?_
                refine g_648 cx hw ha0 k_f_X11_22 dX11_sheet_78 (fun v17 e17 h17 => ?_)
                refine lv_iload hx hb dX11_sheet_81 (lv_at hl 8 rfl) ?_
                refine lv_iload_n hx hb dX11_sheet_83 rfl (lv_at hl 2 rfl) ?_
                refine lv_iconst (v := 3) hx hb dX11_sheet_84 (by decide) ?_
                have J_109 : ∀ (k109_2 : Int32) (ik109_2 : Iv k109_2 0 9), ∀ (H : Heap) (locs : List Loc), oI A L τ cy D s.heap σ_43 H locs → ∀ (ls : Array Slot), lv_has ls 9 [(0, .ref a0), (1, .int a1), (2, .int a2), (3, .int a3), (4, .int a4), (5, .int j43_5), (6, .int j43_6), (7, .int j43_7), (8, .int k75_0)] → W p l e ({ frames := 1, cells := 0, slots := 0, locals := 40 } : Room) s m args below meth c H locs 0 0 Q (F0 m 109 ls [.int k109_2, .int j43_7, .ref v17]) := by
                  intro k109_2 ik109_2 H locs hw     ls hl
                  refine o_iast cx hw h17 (by decide) rfl (iv_in i15 (by decide)) trivial dX11_sheet_109 (fun σ18 H locs eσ18 hw => ?_)
                  have fr := oFr_p fr eσ18 h17 (by decide)
                  refine lv_iload hx hb dX11_sheet_110 (lv_at hl 5 rfl) ?_
                  refine lv_aload_n hx hb dX11_sheet_112 rfl (lv_at hl 0 rfl) ?_
                  refine g_648 cx hw ha0 k_f_X11_22 dX11_sheet_113 (fun v19 e19 h19 => ?_)
                  rw [show v19 = v17 from Option.some.inj (e19.symm.trans (((kr_p eσ18).trans e17)))]
                  refine lv_iload hx hb dX11_sheet_116 (lv_at hl 7 rfl) ?_
                  refine o_iald cx hw h17 (by decide) rfl (iv_in i15 (by decide)) dX11_sheet_118 (fun v20 e20 b20 => ?_)
                  refine lv_iadd hx hb dX11_sheet_119 ?_
                  refine lv_topi (fun v21 e21 => ?_)
                  refine lv_istore (lv' := [(5, .int v21), (0, .ref a0), (1, .int a1), (2, .int a2), (3, .int a3), (4, .int a4), (6, .int j43_6), (7, .int j43_7), (8, .int k75_0)]) hx hb dX11_sheet_120 hl (by decide) rfl (fun ls hl => ?_)
                  refine lv_iload hx hb dX11_sheet_122 (lv_at hl 6 rfl) ?_
                  refine lv_iload hx hb dX11_sheet_124 (lv_at hl 5 rfl) ?_
                  refine lv_iadd hx hb dX11_sheet_126 ?_
                  refine lv_topi (fun v22 e22 => ?_)
                  refine lv_istore (lv' := [(6, .int v22), (5, .int v21), (0, .ref a0), (1, .int a1), (2, .int a2), (3, .int a3), (4, .int a4), (7, .int j43_7), (8, .int k75_0)]) hx hb dX11_sheet_127 hl (by decide) rfl (fun ls hl => ?_)
                  obtain ⟨v23, e23⟩ : ∃ y : Int32, y = j43_7 + 1 := ⟨_, rfl⟩
                  have i23 : Iv v23 1 6 := iv_add e23 i15 (⟨by decide, by decide⟩ : Iv 1 1 1) (by decide)
                  have x23 : v23.toInt = j43_7.toInt + 1 := ex_add e23 i15 (⟨by decide, by decide⟩ : Iv 1 1 1) (by decide)
                  refine lv_iinc (v := v23) (lv' := [(7, .int v23), (6, .int v22), (5, .int v21), (0, .ref a0), (1, .int a1), (2, .int a2), (3, .int a3), (4, .int a4), (8, .int k75_0)]) hx hb dX11_sheet_129 hl (k := 7) rfl (by rw [e23]; rfl) (by decide) rfl (fun ls hl => ?_)
                  refine lv_goto (tgt := 43) hx hb dX11_sheet_132 (by decide) ?_
                  exact ih_43 v21 v22 v23 (iv_w i23 (by decide)) σ18 _ _ hw fr (ms_up x23 (by decide) (iv_w (a' := 0) (b' := 6) i23 (by decide)).2 hn_43) _ (lv_sub hl [3, 4, 5, 6, 7, 2, 1, 0] rfl)
                have J_94 : ∀ (H : Heap) (locs : List Loc), oI A L τ cy D s.heap σ_43 H locs → ∀ (ls : Array Slot), lv_has ls 9 [(0, .ref a0), (1, .int a1), (2, .int a2), (3, .int a3), (4, .int a4), (5, .int j43_5), (6, .int j43_6), (7, .int j43_7), (8, .int k75_0)] → W p l e ({ frames := 1, cells := 0, slots := 0, locals := 40 } : Room) s m args below meth c H locs 0 0 Q (F0 m 94 ls [.int j43_7, .ref v17]) := by
                  intro  H locs hw     ls hl
                  refine lv_iconst (v := 0) hx hb dX11_sheet_94 (by decide) ?_
                  refine lv_goto (tgt := 109) hx hb dX11_sheet_95 (by decide) ?_
                  exact J_109 0 (iv_w (⟨by decide, by decide⟩ : Iv 0 0 0) (by decide)) _ _ hw _ (lv_sub hl [0, 1, 2, 3, 4, 5, 6, 7, 8] rfl)
                refine lv_icmp_eq (tgt := 94) hx hb dX11_sheet_85 (by decide) (fun c24 => ?_) (fun c24 => ?_)
                · --
                  have i25 : Iv a1 3 3 := iv_eq1 c24 i7 (⟨by decide, by decide⟩ : Iv 3 3 3) (by decide)
                  exact J_94 _ _ hw _ (lv_sub hl [1, 2, 3, 4, 5, 6, 7, 8, 0] rfl)
                · --
                  have i26 : Iv a1 0 2 := iv_ne2 c24 i7 (⟨by decide, by decide⟩ : Iv 3 3 3) (by decide)
                  refine lv_iload hx hb dX11_sheet_88 (lv_at hl 8 rfl) ?_
                  refine lv_iload_n hx hb dX11_sheet_90 rfl (lv_at hl 3 rfl) ?_
                  refine lv_icmp_lt (tgt := 98) hx hb dX11_sheet_91 (by decide) (fun c27 => ?_) (fun c27 => ?_)
                  · --
                    have i28 : Iv a2 1 6 := iv_lt2 c27 i15 i9 (by decide)
                    refine lv_iconst (v := 0) hx hb dX11_sheet_98 (by decide) ?_
                    refine lv_bipush (v := 9) hx hb dX11_sheet_99 (by decide) ?_
                    refine lv_iload hx hb dX11_sheet_101 (lv_at hl 0 rfl) ?_
                    refine va_mmin hx hb (hml.trans hl.1.symm) hown (hts _ k_m_X11_243) (hts _ k_s_J9_min_7cf53) (hts _ k_i_J9) (hts _ k_code_J9_min_7cf53) (by decide) (Nat.le_of_ble_eq_true rfl) (by decide) (by decide) dX11_sheet_103 ?_
                    refine lv_topi (fun v29 e29 => ?_)
                    have i29 : Iv v29 (-2147483648) 9 := iv_min e29 (⟨by decide, by decide⟩ : Iv 9 9 9) (iv_top k75_0) (by decide)
                    refine va_mmax hx hb (hml.trans hl.1.symm) hown (hts _ k_m_X11_248) (hts _ k_s_J9_max_7cf53) (hts _ k_i_J9) (hts _ k_code_J9_max_7cf53) (by decide) (Nat.le_of_ble_eq_true rfl) (by decide) (by decide) dX11_sheet_106 ?_
                    refine lv_topi (fun v30 e30 => ?_)
                    have i30 : Iv v30 0 9 := iv_max e30 (⟨by decide, by decide⟩ : Iv 0 0 0) i29 (by decide)
                    exact J_109 v30 i30 _ _ hw _ (lv_sub hl [1, 2, 3, 4, 5, 6, 7, 8, 0] rfl)
                  · --
                    have i31 : Iv a2 (-2147483648) 5 := iv_le1 (iv_nlt c27) i9 i15 (by decide)
                    exact J_94 _ _ hw _ (lv_sub hl [1, 2, 3, 4, 5, 6, 7, 8, 0] rfl)
              refine lv_if_ne (tgt := 62) hx hb dX11_sheet_53 (by decide) (fun c32 => ?_) (fun c32 => ?_)
              · --
                have i33 : Iv a1 1 3 := iv_ne1 c32 i7 (⟨by decide, by decide⟩ : Iv 0 0 0) (by decide)
                refine lv_iload_n hx hb dX11_sheet_62 rfl (lv_at hl 1 rfl) ?_
                refine lv_iconst (v := 1) hx hb dX11_sheet_63 (by decide) ?_
                refine lv_icmp_ne (tgt := 73) hx hb dX11_sheet_64 (by decide) (fun c34 => ?_) (fun c34 => ?_)
                · --
                  have i35 : Iv a1 2 3 := iv_ne1 c34 i33 (⟨by decide, by decide⟩ : Iv 1 1 1) (by decide)
                  refine lv_iload hx hb dX11_sheet_73 (lv_at hl 6 rfl) ?_
                  exact J_75 j43_6 _ _ hw _ (lv_sub hl [0, 1, 2, 3, 4, 5, 6, 7] rfl)
                · --
                  have i36 : Iv a1 1 1 := iv_eq1 c34 i33 (⟨by decide, by decide⟩ : Iv 1 1 1) (by decide)
                  refine lv_iload hx hb dX11_sheet_67 (lv_at hl 6 rfl) ?_
                  refine lv_i2s hx hb dX11_sheet_69 rfl ?_
                  refine lv_topi (fun v37 e37 => ?_)
                  refine lv_goto (tgt := 75) hx hb dX11_sheet_70 (by decide) ?_
                  exact J_75 v37 _ _ hw _ (lv_sub hl [0, 1, 2, 3, 4, 5, 6, 7] rfl)
              · --
                have i38 : Iv a1 0 0 := iv_eq1 c32 i7 (⟨by decide, by decide⟩ : Iv 0 0 0) (by decide)
                refine lv_iload hx hb dX11_sheet_56 (lv_at hl 6 rfl) ?_
                refine lv_i2b hx hb dX11_sheet_58 rfl ?_
                refine lv_topi (fun v39 e39 => ?_)
                refine lv_goto (tgt := 75) hx hb dX11_sheet_59 (by decide) ?_
                exact J_75 v39 _ _ hw _ (lv_sub hl [0, 1, 2, 3, 4, 5, 6, 7] rfl)
        exact J_43 _ 0 a3 0 (iv_w (⟨by decide, by decide⟩ : Iv 0 0 0) (by decide)) σ1 _ _ hw fr (Nat.lt_succ_self _) _ (lv_sub hl [3, 4, 5, 6, 7, 2, 1, 0] rfl)
      refine lv_icmp_ge (tgt := 34) hx hb dX11_sheet_24 (by decide) (fun c40 => ?_) (fun c40 => ?_)
      · --
        have i41 : Iv a1 3 3 := iv_le2 c40 (⟨by decide, by decide⟩ : Iv 3 3 3) i7 (by decide)
        exact J_34 _ _ hw _ (lv_sub hl [0, 1, 2, 3, 4] rfl)
      · --
        have i42 : Iv a1 0 2 := iv_lt1 (iv_nle c40) i7 (⟨by decide, by decide⟩ : Iv 3 3 3) (by decide)
        refine lv_iload_n hx hb dX11_sheet_27 rfl (lv_at hl 2 rfl) ?_
        refine lv_if_ge (tgt := 34) hx hb dX11_sheet_28 (by decide) (fun c43 => ?_) (fun c43 => ?_)
        · --
          have i44 : Iv a2 0 6 := iv_le2 c43 (⟨by decide, by decide⟩ : Iv 0 0 0) i9 (by decide)
          exact J_34 _ _ hw _ (lv_sub hl [0, 1, 2, 3, 4] rfl)
        · --
          have i45 : Iv a2 (-2147483648) (-1) := iv_lt1 (iv_nle c43) i9 (⟨by decide, by decide⟩ : Iv 0 0 0) (by decide)
          refine lv_bipush (v := (-2)) hx hb dX11_sheet_31 (by decide) ?_
          rw [← hQ]
          exact o_ri cx rx hw dX11_sheet_33 fr
    · --
      have i46 : Iv a2 7 2147483647 := iv_lt2 (iv_nle c8) (⟨by decide, by decide⟩ : Iv 6 6 6) (iv_top a2) (by decide)
      refine lv_iconst (v := (-1)) hx hb dX11_sheet_20 (by decide) ?_
      rw [← hQ]
      exact o_ri cx rx hw dX11_sheet_21 fr
abbrev fs_X11_salt : List Nat := [658, 672]
abbrev ts_X11_salt : List Nat := [48, 56]
set_option maxHeartbeats 4000000 in
set_option maxRecDepth 100000 in
theorem c_X11_salt (a0 : Nat) (ha0 : oA L τ a0 10) (a1 : Int32) (a2 : Int32) : oMet l A L τ cy D K yX11_salt cX11_salt 3 (some .int) 4 90 [.ref a0, .int a1, .int a2] σ (va_Qi (fun r σ1 => oFr τ fs_X11_salt ts_X11_salt σ σ1) (oPo A L τ cy D) A) := by
  refine oMk (by decide) (Nat.le_of_ble_eq_true rfl) rfl ?_
  intro p e s m args below meth c ls cx rx hA hw hl
  generalize hQ : MQ below _ args s 0 0 A = Q
  have hx := cx.1.1
  have hb := cx.1.2.1
  have hml := cx.1.2.2.1
  have hown := cx.1.2.2.2.1
  have hts := cx.1.2.2.2.2
  have hl : lv_has ls 3 [(0, .ref a0), (1, .int a1), (2, .int a2)] := hl
  have fr : oFr τ fs_X11_salt ts_X11_salt σ σ := oFr_rf
  refine lv_aload_n hx hb dX11_salt_0 rfl (lv_at hl 0 rfl) ?_
  refine lv_iconst (v := 0) hx hb dX11_salt_1 (by decide) ?_
  refine p_658 cx hw ha0 k_f_X11_89 dX11_salt_2 (fun σ1 H locs eσ1 hw => ?_)
  have fr := oFr_i fr eσ1 (by decide)
  refine lv_aload_n hx hb dX11_salt_5 rfl (lv_at hl 0 rfl) ?_
  refine lv_bipush (v := 64) hx hb dX11_salt_6 (by decide) ?_
  refine lv_iload_n hx hb dX11_salt_8 rfl (lv_at hl 1 rfl) ?_
  refine lv_iload_n hx hb dX11_salt_9 rfl (lv_at hl 2 rfl) ?_
  refine o_ci hw (oRunV cx hA hw q_X11_layOn k_m_X11_262 rfl ha0 (by decide) (As := [.int 64, .int a1, .int a2]) (c_X11_layOn a0 ha0 64 (iv_w (⟨by decide, by decide⟩ : Iv 64 64 64) (by decide)) a1 a2) (by decide) rfl hl.1 rfl (Nat.le_of_ble_eq_true rfl) dX11_salt_10 (by decide)) (fun v3 σ2 H locs hp hw => ?_)
  have p3_0 := hp
  have fr := oFr_tr fr p3_0 (by decide)
  rw [← hQ]
  exact o_ri cx rx hw dX11_salt_13 fr
end OM
