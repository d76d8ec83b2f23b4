section OM
variable {l : Launch} {A : Nat → Prop} {L : List Nat} {τ : Nat → Nat} {cy : Nat → ClassId} {D : va_G} {K : (Nat → Nat) × (Nat → Nat)} {σ : oSt}
set_option maxHeartbeats 4000000 in
set_option maxRecDepth 100000 in
theorem c_X11_thingR (n : Nat) (IH1 : P_X11_thingR l A L τ cy D K n) (IH4 : P_X11_heldR l A L τ cy D K n) : P_X11_thingR l A L τ cy D K (n + 1) := by
  intro σ a0 ha0 a1 ia1 b0 hF0 hb0 hf660 hm
  refine oMk (by decide) (Nat.le_of_ble_eq_true rfl) rfl ?_
  intro p e s m args below meth c ls cx rx hA hw hl
  generalize hQ : MQ below _ args s 0 0 A = Q
  have hx := cx.1.1
  have hb := cx.1.2.1
  have hml := cx.1.2.2.1
  have hown := cx.1.2.2.2.1
  have hts := cx.1.2.2.2.2
  have hl : lv_has ls 5 [(0, .ref a0), (1, .int a1)] := hl
  have fr : oFr τ fs_X11_thingR ts_X11_thingR σ σ := oFr_rf
  refine lv_aload_n hx hb dX11_thing_0 rfl (lv_at hl 0 rfl) ?_
  refine lv_bipush (v := 45) hx hb dX11_thing_1 (by decide) ?_
  have i1 : Iv (σ.1 662 a0) 0 200 := o_fb (j := 662) hw ha0 rfl
  have i2 : Iv (σ.1 661 a0) 0 80 := o_fb (j := 661) hw ha0 rfl
  refine o_ci hw (oRunV cx hA hw q_X11_passes k_m_X11_134 rfl ha0 (by decide) (As := [.int 45]) (c_X11_passesR a0 ha0 45 (iv_w (⟨by decide, by decide⟩ : Iv 45 45 45) (by decide)) b0 (hF0) hb0 (kn_iv (rfl) (iv_w hf660 (by decide)))) (by constructor <;> (dsimp only; omega)) rfl hl.1 rfl (Nat.le_of_ble_eq_true rfl) dX11_thing_3 ⟨Nat.le_refl 0, Nat.le_refl 0⟩) (fun v4 σ3 H locs hp hw => ?_)
  obtain ⟨p4_0, p4_1, p4_2, p4_3, p4_4, p4_5⟩ := hp
  rw [p4_0] at hw
  refine lv_if_eq (tgt := 16) hx hb dX11_thing_6 (by decide) (fun c5 => ?_) (fun c5 => ?_)
  · --
    refine lv_aload_n hx hb dX11_thing_16 rfl (lv_at hl 0 rfl) ?_
    have i6 : Iv (σ.1 663 a0) (-1) 200 := o_fb (j := 663) hw ha0 rfl
    refine o_ci hw (oRunV cx hA hw q_X11_fine k_m_X11_126 rfl ha0 (by decide) (As := []) (c_X11_fine a0 ha0) (by constructor <;> (dsimp only; omega)) rfl hl.1 rfl (Nat.le_of_ble_eq_true rfl) dX11_thing_17 ⟨Nat.le_refl 0, Nat.le_refl 0⟩) (fun v8 σ7 H locs hp hw => ?_)
    obtain ⟨p8_0, p8_1, p8_2⟩ := hp
    rw [p8_0] at hw
    refine lv_if_ne (tgt := 25) hx hb dX11_thing_20 (by decide) (fun c9 => ?_) (fun c9 => ?_)
    · --
      have i10 : Iv v8 1 1 := iv_ne1 c9 p8_1 (⟨by decide, by decide⟩ : Iv 0 0 0) (by decide)
      have i11 : Iv (σ.1 663 a0) (-1) (-1) := (fun h => (by have := nz_ti h; have := (ia1).1; have := (ia1).2; have := (p8_1).1; have := (p8_1).2; have := (hf660).1; have := (hf660).2; have := (i1).1; have := (i1).2; have := (i2).1; have := (i2).2; have := (i6).1; have := (i6).2; have := (p4_1).1; have := (p4_1).2; have : (v4 : Int32).toInt = (0 : Int32).toInt := congrArg Int32.toInt c5; have : (0 : Int32).toInt = 0 := (by decide); have : (45 : Int32).toInt = 45 := (by decide); exact ⟨by omega, by omega⟩)) c9
      refine lv_aload_n hx hb dX11_thing_25 rfl (lv_at hl 0 rfl) ?_
      refine o_ci hw (oRunV cx hA hw q_X11_here k_m_X11_130 rfl ha0 (by decide) (As := []) (c_X11_hereR a0 ha0 b0 (hF0) hb0 (kn_iv (rfl) (iv_w hf660 (by decide)))) (by constructor <;> (dsimp only; omega)) rfl hl.1 rfl (Nat.le_of_ble_eq_true rfl) dX11_thing_26 ⟨Nat.le_refl 0, Nat.le_refl 0⟩) (fun v13 σ12 H locs hp hw => ?_)
      obtain ⟨p13_0, p13_1, p13_2, p13_3, p13_4, p13_5, p13_6⟩ := hp
      rw [p13_0] at hw
      have hnv13 := congrArg Int32.toInt p13_6
      refine lv_istore_n (lv' := [(2, .int v13), (0, .ref a0), (1, .int a1)]) hx hb dX11_thing_29 rfl hl (by decide) rfl (fun ls hl => ?_)
      refine lv_iload_n hx hb dX11_thing_30 rfl (lv_at hl 0 rfl) ?_
      refine lv_bipush (v := 40) hx hb dX11_thing_31 (by decide) ?_
      refine lv_icmp_ne (tgt := 67) hx hb dX11_thing_33 (by decide) (fun c14 => ?_) (fun c14 => ?_)
      · --
        refine lv_iload_n hx hb dX11_thing_67 rfl (lv_at hl 0 rfl) ?_
        refine lv_bipush (v := 48) hx hb dX11_thing_68 (by decide) ?_
        refine lv_bipush (v := 57) hx hb dX11_thing_70 (by decide) ?_
        refine o_ci hw (oRunS cx hA hw q_X11_in k_m_X11_95 (As := [.int v13, .int 48, .int 57]) (c_X11_in v13 48 57) (by constructor <;> (dsimp only; omega)) rfl hl.1 rfl (Nat.le_of_ble_eq_true rfl) dX11_thing_72 ⟨Nat.le_refl 0, Nat.le_refl 0⟩) (fun v16 σ15 H locs hp hw => ?_)
        obtain ⟨p16_0, p16_1, p16_2, p16_3, p16_4⟩ := hp
        rw [p16_0] at hw
        refine lv_if_eq (tgt := 125) hx hb dX11_thing_75 (by decide) (fun c17 => ?_) (fun c17 => ?_)
        · --
          have i18 : Iv v16 0 0 := iv_eq1 c17 p16_1 (⟨by decide, by decide⟩ : Iv 0 0 0) (by decide)
          refine lv_iload_n hx hb dX11_thing_125 rfl (lv_at hl 0 rfl) ?_
          refine o_ci hw (oRunS cx hA hw q_X11_letterOf k_m_X11_202 (As := [.int v13]) (c_X11_letterOf v13) (by constructor <;> (dsimp only; omega)) rfl hl.1 rfl (Nat.le_of_ble_eq_true rfl) dX11_thing_126 ⟨Nat.le_refl 0, Nat.le_refl 0⟩) (fun v20 σ19 H locs hp hw => ?_)
          obtain ⟨p20_0, p20_1, p20_2, p20_3, p20_4⟩ := hp
          rw [p20_0] at hw
          refine lv_iconst (v := (-1)) hx hb dX11_thing_129 (by decide) ?_
          refine lv_icmp_ne (tgt := 143) hx hb dX11_thing_130 (by decide) (fun c21 => ?_) (fun c21 => ?_)
          · --
            have i22 : Iv v20 0 8 := iv_ne1 c21 p20_1 (⟨by decide, by decide⟩ : Iv (-1) (-1) (-1)) (by decide)
            have i23 : Iv v13 101 116 := p20_2 (ge0_iv i22 (by decide))
            have i24 : Iv v13 101 (-1) := iv_cap i23 p13_1 (by decide)
            have i25 : Iv (σ.1 662 a0) 0 39 := (fun h => kn_iv2 (rfl) (p13_2 h)) (ge0_iv i23 (by decide))
            refine lv_aload_n hx hb dX11_thing_143 rfl (lv_at hl 1 rfl) ?_
            refine lv_dup hx hb dX11_thing_144 rfl ?_
            refine g_662 cx hw ha0 k_f_X11_120 dX11_thing_145 (fun v26 e26 i26 => ?_)
            rw [show v26 = (σ.1 662 a0) from e26.trans rfl]
            refine lv_iconst (v := 1) hx hb dX11_thing_148 (by decide) ?_
            refine lv_iadd hx hb dX11_thing_149 ?_
            refine lv_topi (fun v27 e27 => ?_)
            have i27 : Iv v27 1 40 := iv_add e27 i25 (⟨by decide, by decide⟩ : Iv 1 1 1) (by decide)
            have x27 : v27.toInt = (σ.1 662 a0).toInt + 1 := ex_add e27 i25 (⟨by decide, by decide⟩ : Iv 1 1 1) (by decide)
            refine p_662 cx hw ha0 (iv_w i27 (by decide)) k_f_X11_120 dX11_thing_150 (fun σ28 H locs eσ28 hw => ?_)
            have fr := oFr_i fr eσ28 (by decide)
            refine lv_aload_n hx hb dX11_thing_153 rfl (lv_at hl 1 rfl) ?_
            refine g_669 cx hw ha0 k_f_X11_205 dX11_thing_154 (fun v29 e29 => ?_)
            have z29 : v29.toInt = (σ28.1 669 a0).toInt := congrArg Int32.toInt e29
            refine lv_if_eq (tgt := 172) hx hb dX11_thing_157 (by decide) (fun c30 => ?_) (fun c30 => ?_)
            · --
              have i31 : Iv v29 0 0 := iv_eq1 c30 (iv_top v29) (⟨by decide, by decide⟩ : Iv 0 0 0) (by decide)
              refine lv_iconst (v := 0) hx hb dX11_thing_172 (by decide) ?_
              rw [← hQ]
              exact o_ri cx rx hw dX11_thing_173 ⟨fr, (by exact (by have := (ia1).1; have := (ia1).2; have := (i24).1; have := (i24).2; have := (hf660).1; have := (hf660).2; have := (i2).1; have := (i2).2; have := (i11).1; have := (i11).2; have := (i27).1; have := (i27).2; have := (i31).1; have := (i31).2; have := (i25).1; have := (i25).2; have := (p4_1).1; have := (p4_1).2; have := (i10).1; have := (i10).2; have := (i18).1; have := (i18).2; have := (i22).1; have := (i22).2; have : (σ28.1 660 a0).toInt = ((σ.1 660 a0) : Int32).toInt := congrArg Int32.toInt (show σ28.1 660 a0 = (σ.1 660 a0) from ((kp_i eσ28 (by decide)).trans rfl)); have : (σ28.1 661 a0).toInt = ((σ.1 661 a0) : Int32).toInt := congrArg Int32.toInt (show σ28.1 661 a0 = (σ.1 661 a0) from ((kp_i eσ28 (by decide)).trans rfl)); have : (σ28.1 663 a0).toInt = ((σ.1 663 a0) : Int32).toInt := congrArg Int32.toInt (show σ28.1 663 a0 = (σ.1 663 a0) from ((kp_i eσ28 (by decide)).trans rfl)); have : (σ28.1 662 a0).toInt = (v27 : Int32).toInt := congrArg Int32.toInt (show σ28.1 662 a0 = v27 from (kp_s eσ28)); have : (σ28.1 669 a0).toInt = (v29 : Int32).toInt := congrArg Int32.toInt (show σ28.1 669 a0 = v29 from e29.symm); have : (v4 : Int32).toInt = (0 : Int32).toInt := congrArg Int32.toInt c5; have : (v16 : Int32).toInt = (0 : Int32).toInt := congrArg Int32.toInt c17; have : (v29 : Int32).toInt = (0 : Int32).toInt := congrArg Int32.toInt c30; have : (0 : Int32).toInt = 0 := (by decide); have : (45 : Int32).toInt = 45 := (by decide); have : (48 : Int32).toInt = 48 := (by decide); have : (57 : Int32).toInt = 57 := (by decide); omega)), (by exact (by have := (ia1).1; have := (ia1).2; have := (i24).1; have := (i24).2; have := (hf660).1; have := (hf660).2; have := (i2).1; have := (i2).2; have := (i11).1; have := (i11).2; have := (i27).1; have := (i27).2; have := (i31).1; have := (i31).2; have := (i25).1; have := (i25).2; have := (p4_1).1; have := (p4_1).2; have := (i10).1; have := (i10).2; have := (i18).1; have := (i18).2; have := (i22).1; have := (i22).2; have : (σ28.1 660 a0).toInt = ((σ.1 660 a0) : Int32).toInt := congrArg Int32.toInt (show σ28.1 660 a0 = (σ.1 660 a0) from ((kp_i eσ28 (by decide)).trans rfl)); have : (σ28.1 661 a0).toInt = ((σ.1 661 a0) : Int32).toInt := congrArg Int32.toInt (show σ28.1 661 a0 = (σ.1 661 a0) from ((kp_i eσ28 (by decide)).trans rfl)); have : (σ28.1 663 a0).toInt = ((σ.1 663 a0) : Int32).toInt := congrArg Int32.toInt (show σ28.1 663 a0 = (σ.1 663 a0) from ((kp_i eσ28 (by decide)).trans rfl)); have : (σ28.1 662 a0).toInt = (v27 : Int32).toInt := congrArg Int32.toInt (show σ28.1 662 a0 = v27 from (kp_s eσ28)); have : (σ28.1 669 a0).toInt = (v29 : Int32).toInt := congrArg Int32.toInt (show σ28.1 669 a0 = v29 from e29.symm); have : (v4 : Int32).toInt = (0 : Int32).toInt := congrArg Int32.toInt c5; have : (v16 : Int32).toInt = (0 : Int32).toInt := congrArg Int32.toInt c17; have : (v29 : Int32).toInt = (0 : Int32).toInt := congrArg Int32.toInt c30; have : (0 : Int32).toInt = 0 := (by decide); have : (45 : Int32).toInt = 45 := (by decide); have : (48 : Int32).toInt = 48 := (by decide); have : (57 : Int32).toInt = 57 := (by decide); omega))⟩
            · --
              refine lv_aload_n hx hb dX11_thing_160 rfl (lv_at hl 1 rfl) ?_
              refine g_670 cx hw ha0 k_f_X11_52 dX11_thing_161 (fun v32 e32 h32 => ?_)
              refine lv_iload_n hx hb dX11_thing_164 rfl (lv_at hl 0 rfl) ?_
              refine o_ci hw (oRunS cx hA hw q_X11_letterOf k_m_X11_202 (As := [.int v13]) (c_X11_letterOf v13) (by constructor <;> (dsimp only; omega)) rfl hl.1 rfl (Nat.le_of_ble_eq_true rfl) dX11_thing_165 ⟨Nat.le_refl 0, Nat.le_refl 0⟩) (fun v34 σ33 H locs hp hw => ?_)
              obtain ⟨p34_0, p34_1, p34_2, p34_3, p34_4⟩ := hp
              rw [p34_0] at hw
              have i35 : Iv v34 0 8 := kn_iv (p34_4.trans p20_4.symm) i22
              refine o_iald cx hw h32 (by decide) rfl (iv_in i35 (by decide)) dX11_thing_168 (fun v36 e36 b36 => ?_)
              refine lv_goto (tgt := 173) hx hb dX11_thing_169 (by decide) ?_
              rw [← hQ]
              exact o_ri cx rx hw dX11_thing_173 ⟨fr, (by exact (by have := (ia1).1; have := (ia1).2; have := (i24).1; have := (i24).2; have := (hf660).1; have := (hf660).2; have := (i2).1; have := (i2).2; have := (i11).1; have := (i11).2; have := (i27).1; have := (i27).2; have := (i25).1; have := (i25).2; have := (p4_1).1; have := (p4_1).2; have := (i10).1; have := (i10).2; have := (i18).1; have := (i18).2; have := (i22).1; have := (i22).2; have := (i35).1; have := (i35).2; have : (σ28.1 660 a0).toInt = ((σ.1 660 a0) : Int32).toInt := congrArg Int32.toInt (show σ28.1 660 a0 = (σ.1 660 a0) from ((kp_i eσ28 (by decide)).trans rfl)); have : (σ28.1 661 a0).toInt = ((σ.1 661 a0) : Int32).toInt := congrArg Int32.toInt (show σ28.1 661 a0 = (σ.1 661 a0) from ((kp_i eσ28 (by decide)).trans rfl)); have : (σ28.1 663 a0).toInt = ((σ.1 663 a0) : Int32).toInt := congrArg Int32.toInt (show σ28.1 663 a0 = (σ.1 663 a0) from ((kp_i eσ28 (by decide)).trans rfl)); have : (σ28.1 662 a0).toInt = (v27 : Int32).toInt := congrArg Int32.toInt (show σ28.1 662 a0 = v27 from (kp_s eσ28)); have : (σ28.1 669 a0).toInt = (v29 : Int32).toInt := congrArg Int32.toInt (show σ28.1 669 a0 = v29 from e29.symm); have : (v4 : Int32).toInt = (0 : Int32).toInt := congrArg Int32.toInt c5; have : (v16 : Int32).toInt = (0 : Int32).toInt := congrArg Int32.toInt c17; have : (v29 : Int32).toInt ≠ (0 : Int32).toInt := fun q => c30 (Int32.toInt_inj.mp q); have : (0 : Int32).toInt = 0 := (by decide); have : (45 : Int32).toInt = 45 := (by decide); have : (48 : Int32).toInt = 48 := (by decide); have : (57 : Int32).toInt = 57 := (by decide); omega)), (by exact (by have := (ia1).1; have := (ia1).2; have := (i24).1; have := (i24).2; have := (hf660).1; have := (hf660).2; have := (i2).1; have := (i2).2; have := (i11).1; have := (i11).2; have := (i27).1; have := (i27).2; have := (i25).1; have := (i25).2; have := (p4_1).1; have := (p4_1).2; have := (i10).1; have := (i10).2; have := (i18).1; have := (i18).2; have := (i22).1; have := (i22).2; have := (i35).1; have := (i35).2; have : (σ28.1 660 a0).toInt = ((σ.1 660 a0) : Int32).toInt := congrArg Int32.toInt (show σ28.1 660 a0 = (σ.1 660 a0) from ((kp_i eσ28 (by decide)).trans rfl)); have : (σ28.1 661 a0).toInt = ((σ.1 661 a0) : Int32).toInt := congrArg Int32.toInt (show σ28.1 661 a0 = (σ.1 661 a0) from ((kp_i eσ28 (by decide)).trans rfl)); have : (σ28.1 663 a0).toInt = ((σ.1 663 a0) : Int32).toInt := congrArg Int32.toInt (show σ28.1 663 a0 = (σ.1 663 a0) from ((kp_i eσ28 (by decide)).trans rfl)); have : (σ28.1 662 a0).toInt = (v27 : Int32).toInt := congrArg Int32.toInt (show σ28.1 662 a0 = v27 from (kp_s eσ28)); have : (σ28.1 669 a0).toInt = (v29 : Int32).toInt := congrArg Int32.toInt (show σ28.1 669 a0 = v29 from e29.symm); have : (v4 : Int32).toInt = (0 : Int32).toInt := congrArg Int32.toInt c5; have : (v16 : Int32).toInt = (0 : Int32).toInt := congrArg Int32.toInt c17; have : (v29 : Int32).toInt ≠ (0 : Int32).toInt := fun q => c30 (Int32.toInt_inj.mp q); have : (0 : Int32).toInt = 0 := (by decide); have : (45 : Int32).toInt = 45 := (by decide); have : (48 : Int32).toInt = 48 := (by decide); have : (57 : Int32).toInt = 57 := (by decide); omega))⟩
          · --
            have i37 : Iv v20 (-1) (-1) := iv_eq1 c21 p20_1 (⟨by decide, by decide⟩ : Iv (-1) (-1) (-1)) (by decide)
            refine lv_aload_n hx hb dX11_thing_133 rfl (lv_at hl 1 rfl) ?_
            refine lv_aload_n hx hb dX11_thing_134 rfl (lv_at hl 1 rfl) ?_
            refine g_662 cx hw ha0 k_f_X11_120 dX11_thing_135 (fun v38 e38 i38 => ?_)
            rw [show v38 = (σ.1 662 a0) from e38.trans rfl]
            refine o_cv hw (oRunV cx hA hw q_X11_fault k_m_X11_138 rfl ha0 (by decide) (As := [.int (σ.1 662 a0)]) (c_X11_fault a0 ha0 (σ.1 662 a0) (iv_w i1 (by decide))) (by constructor <;> (dsimp only; omega)) rfl hl.1 rfl (Nat.le_of_ble_eq_true rfl) dX11_thing_138 ⟨Nat.le_refl 0, Nat.le_refl 0⟩) (fun σ39 H locs hp hw => ?_)
            obtain ⟨p40_0, p40_1⟩ := hp
            have fr := oFr_tr fr p40_0 (by decide)
            have i41 : Iv (σ39.1 663 a0) (-1) 200 := o_fb (j := 663) hw ha0 rfl
            have i42 : Iv (σ39.1 663 a0) 0 200 := (by have := (ia1).1; have := (ia1).2; have := (p13_1).1; have := (p13_1).2; have := (hf660).1; have := (hf660).2; have := (i1).1; have := (i1).2; have := (i2).1; have := (i2).2; have := (i41).1; have := (i41).2; have := (p4_1).1; have := (p4_1).2; have := (i11).1; have := (i11).2; have := (i10).1; have := (i10).2; have := (i18).1; have := (i18).2; have := (i37).1; have := (i37).2; have : (σ39.1 660 a0).toInt = ((σ.1 660 a0) : Int32).toInt := congrArg Int32.toInt (show σ39.1 660 a0 = (σ.1 660 a0) from ((kp_c p40_0 (by decide)).trans rfl)); have : (σ39.1 662 a0).toInt = ((σ.1 662 a0) : Int32).toInt := congrArg Int32.toInt (show σ39.1 662 a0 = (σ.1 662 a0) from ((kp_c p40_0 (by decide)).trans rfl)); have : (σ39.1 661 a0).toInt = ((σ.1 661 a0) : Int32).toInt := congrArg Int32.toInt (show σ39.1 661 a0 = (σ.1 661 a0) from ((kp_c p40_0 (by decide)).trans rfl)); have : (v4 : Int32).toInt = (0 : Int32).toInt := congrArg Int32.toInt c5; have : (v16 : Int32).toInt = (0 : Int32).toInt := congrArg Int32.toInt c17; have : (v20 : Int32).toInt = ((-1) : Int32).toInt := congrArg Int32.toInt c21; have : ((-1) : Int32).toInt = (-1) := (by decide); have : (0 : Int32).toInt = 0 := (by decide); have : (45 : Int32).toInt = 45 := (by decide); have : (48 : Int32).toInt = 48 := (by decide); have : (57 : Int32).toInt = 57 := (by decide); exact ⟨by omega, by omega⟩)
            refine lv_iconst (v := 0) hx hb dX11_thing_141 (by decide) ?_
            rw [← hQ]
            exact o_ri cx rx hw dX11_thing_142 ⟨fr, (by exact (by have := (ia1).1; have := (ia1).2; have := (p13_1).1; have := (p13_1).2; have := (hf660).1; have := (hf660).2; have := (i1).1; have := (i1).2; have := (i2).1; have := (i2).2; have := (i42).1; have := (i42).2; have := (p4_1).1; have := (p4_1).2; have := (i11).1; have := (i11).2; have := (i10).1; have := (i10).2; have := (i18).1; have := (i18).2; have := (i37).1; have := (i37).2; have : (σ39.1 660 a0).toInt = ((σ.1 660 a0) : Int32).toInt := congrArg Int32.toInt (show σ39.1 660 a0 = (σ.1 660 a0) from ((kp_c p40_0 (by decide)).trans rfl)); have : (σ39.1 662 a0).toInt = ((σ.1 662 a0) : Int32).toInt := congrArg Int32.toInt (show σ39.1 662 a0 = (σ.1 662 a0) from ((kp_c p40_0 (by decide)).trans rfl)); have : (σ39.1 661 a0).toInt = ((σ.1 661 a0) : Int32).toInt := congrArg Int32.toInt (show σ39.1 661 a0 = (σ.1 661 a0) from ((kp_c p40_0 (by decide)).trans rfl)); have : (v4 : Int32).toInt = (0 : Int32).toInt := congrArg Int32.toInt c5; have : (v16 : Int32).toInt = (0 : Int32).toInt := congrArg Int32.toInt c17; have : (v20 : Int32).toInt = ((-1) : Int32).toInt := congrArg Int32.toInt c21; have : ((-1) : Int32).toInt = (-1) := (by decide); have : (0 : Int32).toInt = 0 := (by decide); have : (45 : Int32).toInt = 45 := (by decide); have : (48 : Int32).toInt = 48 := (by decide); have : (57 : Int32).toInt = 57 := (by decide); omega)), (by exact (by have := (ia1).1; have := (ia1).2; have := (p13_1).1; have := (p13_1).2; have := (hf660).1; have := (hf660).2; have := (i1).1; have := (i1).2; have := (i2).1; have := (i2).2; have := (i42).1; have := (i42).2; have := (p4_1).1; have := (p4_1).2; have := (i11).1; have := (i11).2; have := (i10).1; have := (i10).2; have := (i18).1; have := (i18).2; have := (i37).1; have := (i37).2; have : (σ39.1 660 a0).toInt = ((σ.1 660 a0) : Int32).toInt := congrArg Int32.toInt (show σ39.1 660 a0 = (σ.1 660 a0) from ((kp_c p40_0 (by decide)).trans rfl)); have : (σ39.1 662 a0).toInt = ((σ.1 662 a0) : Int32).toInt := congrArg Int32.toInt (show σ39.1 662 a0 = (σ.1 662 a0) from ((kp_c p40_0 (by decide)).trans rfl)); have : (σ39.1 661 a0).toInt = ((σ.1 661 a0) : Int32).toInt := congrArg Int32.toInt (show σ39.1 661 a0 = (σ.1 661 a0) from ((kp_c p40_0 (by decide)).trans rfl)); have : (v4 : Int32).toInt = (0 : Int32).toInt := congrArg Int32.toInt c5; have : (v16 : Int32).toInt = (0 : Int32).toInt := congrArg Int32.toInt c17; have : (v20 : Int32).toInt = ((-1) : Int32).toInt := congrArg Int32.toInt c21; have : ((-1) : Int32).toInt = (-1) := (by decide); have : (0 : Int32).toInt = 0 := (by decide); have : (45 : Int32).toInt = 45 := (by decide); have : (48 : Int32).toInt = 48 := (by decide); have : (57 : Int32).toInt = 57 := (by decide); omega))⟩
        · --
          have i43 : Iv v16 1 1 := iv_ne1 c17 p16_1 (⟨by decide, by decide⟩ : Iv 0 0 0) (by decide)
          have i44 : Iv v13 48 57 := (fun h => iv_rel (p16_2 h) (⟨by decide, by decide⟩ : Iv 48 48 48) (⟨by decide, by decide⟩ : Iv 57 57 57)) c17
          have i45 : Iv v13 48 (-1) := iv_cap i44 p13_1 (by decide)
          have i46 : Iv (σ.1 662 a0) 0 39 := (fun h => kn_iv2 (rfl) (p13_2 h)) (ge0_iv i44 (by decide))
          refine lv_iconst (v := 0) hx hb dX11_thing_78 (by decide) ?_
          refine lv_istore_n (lv' := [(3, .int 0), (2, .int v13), (0, .ref a0), (1, .int a1)]) hx hb dX11_thing_79 rfl hl (by decide) rfl (fun ls hl => ?_)
          refine lv_iconst (v := 0) hx hb dX11_thing_80 (by decide) ?_
          refine lv_istore (lv' := [(4, .int 0), (3, .int 0), (2, .int v13), (0, .ref a0), (1, .int a1)]) hx hb dX11_thing_81 hl (by decide) rfl (fun ls hl => ?_)
          have frE_83 := fr
          have J_83 : ∀ n83 : Nat, ∀ (j83_3 : Int32) (j83_4 : Int32) (ij83_4 : Iv j83_4 0 3), ∀ (σ_83 : oSt) (H : Heap) (locs : List Loc), oI A L τ cy D s.heap σ_83 H locs → oFr τ fs_X11_thingR ts_X11_thingR σ σ_83 → Iv (σ_83.1 662 a0) 0 200 → Iv (σ_83.1 663 a0) (-1) 200 → (3 - j83_4.toInt).toNat < n83 → ((σ.1 662 a0).toInt ≤ (σ_83.1 662 a0).toInt) → ((σ.1 662 a0).toInt ≤ (σ.1 661 a0).toInt → (σ_83.1 662 a0).toInt ≤ (σ.1 661 a0).toInt) → ∀ (ls : Array Slot), lv_has ls 5 [(0, .ref a0), (1, .int a1), (2, .int v13), (3, .int j83_3), (4, .int j83_4)] → W p l e ({ frames := 4 * (n + 1) + 10, cells := 0, slots := 0, locals := 100 * (n + 1) + 300 } : Room) s m args below meth c H locs 0 0 Q (F0 m 83 ls []) := by
            intro n83
            induction n83 with
            | zero => intro j83_3 j83_4 ij83_4 σ_83 H locs hw fr f83_662_a0 f83_663_a0  hn_83 mo_83 to_83  ls hl; exact absurd hn_83 (Nat.not_lt_zero _)
            | succ n83 ih_83 =>
              intro j83_3 j83_4 ij83_4 σ_83 H locs hw fr f83_662_a0 f83_663_a0  hn_83 mo_83 to_83  ls hl
              have fr_83 := fr
              refine lv_iload hx hb dX11_thing_83 (lv_at hl 4 rfl) ?_
              refine lv_iconst (v := 3) hx hb dX11_thing_85 (by decide) ?_
              refine lv_icmp_ge (tgt := 123) hx hb dX11_thing_86 (by decide) (fun c47 => ?_) (fun c47 => ?_)
              · --
                have i48 : Iv j83_4 3 3 := iv_le2 c47 (⟨by decide, by decide⟩ : Iv 3 3 3) ij83_4 (by decide)
                refine lv_iload_n hx hb dX11_thing_123 rfl (lv_at hl 3 rfl) ?_
                rw [← hQ]
                exact o_ri cx rx hw dX11_thing_124 ⟨fr, (by exact (by have := (ia1).1; have := (ia1).2; have := (i45).1; have := (i45).2; have := (i48).1; have := (i48).2; have := (hf660).1; have := (hf660).2; have := (i2).1; have := (i2).2; have := (f83_662_a0).1; have := (f83_662_a0).2; have := (f83_663_a0).1; have := (f83_663_a0).2; have := (i46).1; have := (i46).2; have := (p4_1).1; have := (p4_1).2; have := (i11).1; have := (i11).2; have := (i10).1; have := (i10).2; have := (i43).1; have := (i43).2; have : (σ_83.1 660 a0).toInt = ((σ.1 660 a0) : Int32).toInt := congrArg Int32.toInt (show σ_83.1 660 a0 = (σ.1 660 a0) from (kp_c fr_83 (by decide))); have : (σ_83.1 661 a0).toInt = ((σ.1 661 a0) : Int32).toInt := congrArg Int32.toInt (show σ_83.1 661 a0 = (σ.1 661 a0) from ((kp_c fr_83 (by decide)).trans ((kp_c frE_83 (by decide)).symm.trans (rfl)))); have : (v4 : Int32).toInt = (0 : Int32).toInt := congrArg Int32.toInt c5; have : (3 : Int32).toInt ≤ (j83_4 : Int32).toInt := iv_le.mp c47; have : (0 : Int32).toInt = 0 := (by decide); have : (3 : Int32).toInt = 3 := (by decide); have : (45 : Int32).toInt = 45 := (by decide); have : (48 : Int32).toInt = 48 := (by decide); have : (57 : Int32).toInt = 57 := (by decide); omega)), (by exact (by have := (ia1).1; have := (ia1).2; have := (i45).1; have := (i45).2; have := (i48).1; have := (i48).2; have := (hf660).1; have := (hf660).2; have := (i2).1; have := (i2).2; have := (f83_662_a0).1; have := (f83_662_a0).2; have := (f83_663_a0).1; have := (f83_663_a0).2; have := (i46).1; have := (i46).2; have := (p4_1).1; have := (p4_1).2; have := (i11).1; have := (i11).2; have := (i10).1; have := (i10).2; have := (i43).1; have := (i43).2; have : (σ_83.1 660 a0).toInt = ((σ.1 660 a0) : Int32).toInt := congrArg Int32.toInt (show σ_83.1 660 a0 = (σ.1 660 a0) from (kp_c fr_83 (by decide))); have : (σ_83.1 661 a0).toInt = ((σ.1 661 a0) : Int32).toInt := congrArg Int32.toInt (show σ_83.1 661 a0 = (σ.1 661 a0) from ((kp_c fr_83 (by decide)).trans ((kp_c frE_83 (by decide)).symm.trans (rfl)))); have : (v4 : Int32).toInt = (0 : Int32).toInt := congrArg Int32.toInt c5; have : (3 : Int32).toInt ≤ (j83_4 : Int32).toInt := iv_le.mp c47; have : (0 : Int32).toInt = 0 := (by decide); have : (3 : Int32).toInt = 3 := (by decide); have : (45 : Int32).toInt = 45 := (by decide); have : (48 : Int32).toInt = 48 := (by decide); have : (57 : Int32).toInt = 57 := (by decide); omega))⟩
              · --
                have i49 : Iv j83_4 0 2 := iv_lt1 (iv_nle c47) ij83_4 (⟨by decide, by decide⟩ : Iv 3 3 3) (by decide)
                refine lv_aload_n hx hb dX11_thing_89 rfl (lv_at hl 0 rfl) ?_
                have z50 : (σ_83.1 660 a0).toInt = ((σ.1 660 a0) : Int32).toInt := congrArg Int32.toInt (show σ_83.1 660 a0 = (σ.1 660 a0) from (kp_c fr_83 (by decide)))
                have z51 : (σ_83.1 661 a0).toInt = ((σ.1 661 a0) : Int32).toInt := congrArg Int32.toInt (show σ_83.1 661 a0 = (σ.1 661 a0) from ((kp_c fr_83 (by decide)).trans ((kp_c frE_83 (by decide)).symm.trans (rfl))))
                refine o_ci hw (oRunV cx hA hw q_X11_here k_m_X11_130 rfl ha0 (by decide) (As := []) (c_X11_hereR a0 ha0 b0 (((kr_c fr_83 (by decide)).trans ((kr_c frE_83 (by decide)).symm.trans (hF0)))) hb0 (kn_iv ((kp_c fr_83 (by decide))) (iv_w hf660 (by decide)))) (by constructor <;> (dsimp only; omega)) rfl hl.1 rfl (Nat.le_of_ble_eq_true rfl) dX11_thing_90 ⟨Nat.le_refl 0, Nat.le_refl 0⟩) (fun v53 σ52 H locs hp hw => ?_)
                obtain ⟨p53_0, p53_1, p53_2, p53_3, p53_4, p53_5, p53_6⟩ := hp
                rw [p53_0] at hw
                have hnv53 := congrArg Int32.toInt p53_6
                refine lv_bipush (v := 48) hx hb dX11_thing_93 (by decide) ?_
                refine lv_bipush (v := 57) hx hb dX11_thing_95 (by decide) ?_
                refine o_ci hw (oRunS cx hA hw q_X11_in k_m_X11_95 (As := [.int v53, .int 48, .int 57]) (c_X11_in v53 48 57) (by constructor <;> (dsimp only; omega)) rfl hl.1 rfl (Nat.le_of_ble_eq_true rfl) dX11_thing_97 ⟨Nat.le_refl 0, Nat.le_refl 0⟩) (fun v55 σ54 H locs hp hw => ?_)
                obtain ⟨p55_0, p55_1, p55_2, p55_3, p55_4⟩ := hp
                rw [p55_0] at hw
                refine lv_if_eq (tgt := 123) hx hb dX11_thing_100 (by decide) (fun c56 => ?_) (fun c56 => ?_)
                · --
                  have i57 : Iv v55 0 0 := iv_eq1 c56 p55_1 (⟨by decide, by decide⟩ : Iv 0 0 0) (by decide)
                  refine lv_iload_n hx hb dX11_thing_123 rfl (lv_at hl 3 rfl) ?_
                  rw [← hQ]
                  exact o_ri cx rx hw dX11_thing_124 ⟨fr, (by exact (by have := (ia1).1; have := (ia1).2; have := (i45).1; have := (i45).2; have := (i49).1; have := (i49).2; have := (hf660).1; have := (hf660).2; have := (i2).1; have := (i2).2; have := (f83_662_a0).1; have := (f83_662_a0).2; have := (f83_663_a0).1; have := (f83_663_a0).2; have := (i46).1; have := (i46).2; have := (p4_1).1; have := (p4_1).2; have := (i11).1; have := (i11).2; have := (i10).1; have := (i10).2; have := (i43).1; have := (i43).2; have := (p53_1).1; have := (p53_1).2; have := (i57).1; have := (i57).2; have : (σ_83.1 660 a0).toInt = ((σ.1 660 a0) : Int32).toInt := congrArg Int32.toInt (show σ_83.1 660 a0 = (σ.1 660 a0) from (kp_c fr_83 (by decide))); have : (σ_83.1 661 a0).toInt = ((σ.1 661 a0) : Int32).toInt := congrArg Int32.toInt (show σ_83.1 661 a0 = (σ.1 661 a0) from ((kp_c fr_83 (by decide)).trans ((kp_c frE_83 (by decide)).symm.trans (rfl)))); have : (v4 : Int32).toInt = (0 : Int32).toInt := congrArg Int32.toInt c5; have : (j83_4 : Int32).toInt < (3 : Int32).toInt := iv_lt.mp (iv_nle c47); have : (v55 : Int32).toInt = (0 : Int32).toInt := congrArg Int32.toInt c56; have : (0 : Int32).toInt = 0 := (by decide); have : (3 : Int32).toInt = 3 := (by decide); have : (45 : Int32).toInt = 45 := (by decide); have : (48 : Int32).toInt = 48 := (by decide); have : (57 : Int32).toInt = 57 := (by decide); omega)), (by exact (by have := (ia1).1; have := (ia1).2; have := (i45).1; have := (i45).2; have := (i49).1; have := (i49).2; have := (hf660).1; have := (hf660).2; have := (i2).1; have := (i2).2; have := (f83_662_a0).1; have := (f83_662_a0).2; have := (f83_663_a0).1; have := (f83_663_a0).2; have := (i46).1; have := (i46).2; have := (p4_1).1; have := (p4_1).2; have := (i11).1; have := (i11).2; have := (i10).1; have := (i10).2; have := (i43).1; have := (i43).2; have := (p53_1).1; have := (p53_1).2; have := (i57).1; have := (i57).2; have : (σ_83.1 660 a0).toInt = ((σ.1 660 a0) : Int32).toInt := congrArg Int32.toInt (show σ_83.1 660 a0 = (σ.1 660 a0) from (kp_c fr_83 (by decide))); have : (σ_83.1 661 a0).toInt = ((σ.1 661 a0) : Int32).toInt := congrArg Int32.toInt (show σ_83.1 661 a0 = (σ.1 661 a0) from ((kp_c fr_83 (by decide)).trans ((kp_c frE_83 (by decide)).symm.trans (rfl)))); have : (v4 : Int32).toInt = (0 : Int32).toInt := congrArg Int32.toInt c5; have : (j83_4 : Int32).toInt < (3 : Int32).toInt := iv_lt.mp (iv_nle c47); have : (v55 : Int32).toInt = (0 : Int32).toInt := congrArg Int32.toInt c56; have : (0 : Int32).toInt = 0 := (by decide); have : (3 : Int32).toInt = 3 := (by decide); have : (45 : Int32).toInt = 45 := (by decide); have : (48 : Int32).toInt = 48 := (by decide); have : (57 : Int32).toInt = 57 := (by decide); omega))⟩
                · --
                  have i58 : Iv v55 1 1 := iv_ne1 c56 p55_1 (⟨by decide, by decide⟩ : Iv 0 0 0) (by decide)
                  have i59 : Iv v53 48 57 := (fun h => iv_rel (p55_2 h) (⟨by decide, by decide⟩ : Iv 48 48 48) (⟨by decide, by decide⟩ : Iv 57 57 57)) c56
                  have i60 : Iv (σ_83.1 662 a0) 0 39 := (fun h => kn_iv2 (rfl) (p53_2 h)) (ge0_iv i59 (by decide))
                  refine lv_bipush (v := 10) hx hb dX11_thing_103 (by decide) ?_
                  refine lv_iload_n hx hb dX11_thing_105 rfl (lv_at hl 3 rfl) ?_
                  refine lv_imul hx hb dX11_thing_106 ?_
                  refine lv_topi (fun v61 e61 => ?_)
                  refine lv_aload_n hx hb dX11_thing_107 rfl (lv_at hl 0 rfl) ?_
                  refine lv_bipush (v := 48) hx hb dX11_thing_108 (by decide) ?_
                  refine lv_bipush (v := 10) hx hb dX11_thing_110 (by decide) ?_
                  have z62 : (σ_83.1 660 a0).toInt = ((σ.1 660 a0) : Int32).toInt := congrArg Int32.toInt (show σ_83.1 660 a0 = (σ.1 660 a0) from (kp_c fr_83 (by decide)))
                  have z63 : (σ_83.1 661 a0).toInt = ((σ.1 661 a0) : Int32).toInt := congrArg Int32.toInt (show σ_83.1 661 a0 = (σ.1 661 a0) from ((kp_c fr_83 (by decide)).trans ((kp_c frE_83 (by decide)).symm.trans (rfl))))
                  refine o_ci hw (oRunV cx hA hw q_X11_oneOf k_m_X11_171 rfl ha0 (by decide) (As := [.int 48, .int 10]) (c_X11_oneOfR a0 ha0 48 (iv_w (⟨by decide, by decide⟩ : Iv 48 48 48) (by decide)) 10 (iv_w (⟨by decide, by decide⟩ : Iv 10 10 10) (by decide)) b0 (((kr_c fr_83 (by decide)).trans ((kr_c frE_83 (by decide)).symm.trans (hF0)))) hb0 (kn_iv ((kp_c fr_83 (by decide))) (iv_w hf660 (by decide)))) (by constructor <;> (dsimp only; omega)) rfl hl.1 rfl (Nat.le_of_ble_eq_true rfl) dX11_thing_112 ⟨Nat.le_refl 0, Nat.le_refl 0⟩) (fun v65 σ64 H locs hp hw => ?_)
                  obtain ⟨p65_0, p65_1, p65_2, p65_3, p65_4, p65_5, p65_6, p65_7⟩ := hp
                  have fr := oFr_tr fr p65_0 (by decide)
                  have i66 : Iv (σ64.1 662 a0) 0 200 := o_fb (j := 662) hw ha0 rfl
                  have i67 : Iv (σ64.1 663 a0) (-1) 200 := o_fb (j := 663) hw ha0 rfl
                  have i68 : Iv v65 0 9 := iv_lt0 p65_2 (⟨by decide, by decide⟩ : Iv 10 10 10) (by decide)
                  refine lv_iadd hx hb dX11_thing_115 ?_
                  refine lv_topi (fun v69 e69 => ?_)
                  refine lv_istore_n (lv' := [(3, .int v69), (0, .ref a0), (1, .int a1), (2, .int v13), (4, .int j83_4)]) hx hb dX11_thing_116 rfl hl (by decide) rfl (fun ls hl => ?_)
                  obtain ⟨v70, e70⟩ : ∃ y : Int32, y = j83_4 + 1 := ⟨_, rfl⟩
                  have i70 : Iv v70 1 3 := iv_add e70 i49 (⟨by decide, by decide⟩ : Iv 1 1 1) (by decide)
                  have x70 : v70.toInt = j83_4.toInt + 1 := ex_add e70 i49 (⟨by decide, by decide⟩ : Iv 1 1 1) (by decide)
                  refine lv_iinc (v := v70) (lv' := [(4, .int v70), (3, .int v69), (0, .ref a0), (1, .int a1), (2, .int v13)]) hx hb dX11_thing_117 hl (k := 4) rfl (by rw [e70]; rfl) (by decide) rfl (fun ls hl => ?_)
                  refine lv_goto (tgt := 83) hx hb dX11_thing_120 (by decide) ?_
                  exact ih_83 v69 v70 (iv_w i70 (by decide)) σ64 _ _ hw fr (kn_iv (rfl) (iv_w i66 (by decide))) (kn_iv (rfl) (iv_w i67 (by decide))) (ms_up x70 (by decide) (iv_w (a' := 0) (b' := 3) i70 (by decide)).2 hn_83) (by have := (ia1).1; have := (ia1).2; have := (i45).1; have := (i45).2; have := (i70).1; have := (i70).2; have := (hf660).1; have := (hf660).2; have := (i2).1; have := (i2).2; have := (i66).1; have := (i66).2; have := (i67).1; have := (i67).2; have := (i46).1; have := (i46).2; have := (p4_1).1; have := (p4_1).2; have := (i11).1; have := (i11).2; have := (i10).1; have := (i10).2; have := (i43).1; have := (i43).2; have := (i49).1; have := (i49).2; have := (i59).1; have := (i59).2; have := (i58).1; have := (i58).2; have := (i60).1; have := (i60).2; have := (i68).1; have := (i68).2; have : (σ64.1 660 a0).toInt = ((σ.1 660 a0) : Int32).toInt := congrArg Int32.toInt (show σ64.1 660 a0 = (σ.1 660 a0) from ((kp_c p65_0 (by decide)).trans (kp_c fr_83 (by decide)))); have : (σ64.1 661 a0).toInt = ((σ.1 661 a0) : Int32).toInt := congrArg Int32.toInt (show σ64.1 661 a0 = (σ.1 661 a0) from ((kp_c p65_0 (by decide)).trans ((kp_c fr_83 (by decide)).trans ((kp_c frE_83 (by decide)).symm.trans (rfl))))); have : (v4 : Int32).toInt = (0 : Int32).toInt := congrArg Int32.toInt c5; have : (j83_4 : Int32).toInt < (3 : Int32).toInt := iv_lt.mp (iv_nle c47); have : (0 : Int32).toInt = 0 := (by decide); have : (10 : Int32).toInt = 10 := (by decide); have : (3 : Int32).toInt = 3 := (by decide); have : (45 : Int32).toInt = 45 := (by decide); have : (48 : Int32).toInt = 48 := (by decide); have : (57 : Int32).toInt = 57 := (by decide); omega) (by have := (ia1).1; have := (ia1).2; have := (i45).1; have := (i45).2; have := (i70).1; have := (i70).2; have := (hf660).1; have := (hf660).2; have := (i2).1; have := (i2).2; have := (i66).1; have := (i66).2; have := (i67).1; have := (i67).2; have := (i46).1; have := (i46).2; have := (p4_1).1; have := (p4_1).2; have := (i11).1; have := (i11).2; have := (i10).1; have := (i10).2; have := (i43).1; have := (i43).2; have := (i49).1; have := (i49).2; have := (i59).1; have := (i59).2; have := (i58).1; have := (i58).2; have := (i60).1; have := (i60).2; have := (i68).1; have := (i68).2; have : (σ64.1 660 a0).toInt = ((σ.1 660 a0) : Int32).toInt := congrArg Int32.toInt (show σ64.1 660 a0 = (σ.1 660 a0) from ((kp_c p65_0 (by decide)).trans (kp_c fr_83 (by decide)))); have : (σ64.1 661 a0).toInt = ((σ.1 661 a0) : Int32).toInt := congrArg Int32.toInt (show σ64.1 661 a0 = (σ.1 661 a0) from ((kp_c p65_0 (by decide)).trans ((kp_c fr_83 (by decide)).trans ((kp_c frE_83 (by decide)).symm.trans (rfl))))); have : (v4 : Int32).toInt = (0 : Int32).toInt := congrArg Int32.toInt c5; have : (j83_4 : Int32).toInt < (3 : Int32).toInt := iv_lt.mp (iv_nle c47); have : (0 : Int32).toInt = 0 := (by decide); have : (10 : Int32).toInt = 10 := (by decide); have : (3 : Int32).toInt = 3 := (by decide); have : (45 : Int32).toInt = 45 := (by decide); have : (48 : Int32).toInt = 48 := (by decide); have : (57 : Int32).toInt = 57 := (by decide); omega) _ (lv_sub hl [2, 3, 4, 1, 0] rfl)
          exact J_83 _ 0 0 (iv_w (⟨by decide, by decide⟩ : Iv 0 0 0) (by decide)) σ _ _ hw fr (kn_iv (rfl) (iv_w i46 (by decide))) (kn_iv (rfl) (iv_w i11 (by decide))) (Nat.lt_succ_self _) (by have := (ia1).1; have := (ia1).2; have := (i45).1; have := (i45).2; have := (hf660).1; have := (hf660).2; have := (i46).1; have := (i46).2; have := (i2).1; have := (i2).2; have := (i11).1; have := (i11).2; have := (p4_1).1; have := (p4_1).2; have := (i10).1; have := (i10).2; have := (i43).1; have := (i43).2; have : (v4 : Int32).toInt = (0 : Int32).toInt := congrArg Int32.toInt c5; have : (0 : Int32).toInt = 0 := (by decide); have : (45 : Int32).toInt = 45 := (by decide); have : (48 : Int32).toInt = 48 := (by decide); have : (57 : Int32).toInt = 57 := (by decide); omega) (by have := (ia1).1; have := (ia1).2; have := (i45).1; have := (i45).2; have := (hf660).1; have := (hf660).2; have := (i46).1; have := (i46).2; have := (i2).1; have := (i2).2; have := (i11).1; have := (i11).2; have := (p4_1).1; have := (p4_1).2; have := (i10).1; have := (i10).2; have := (i43).1; have := (i43).2; have : (v4 : Int32).toInt = (0 : Int32).toInt := congrArg Int32.toInt c5; have : (0 : Int32).toInt = 0 := (by decide); have : (45 : Int32).toInt = 45 := (by decide); have : (48 : Int32).toInt = 48 := (by decide); have : (57 : Int32).toInt = 57 := (by decide); omega) _ (lv_sub hl [3, 4, 2, 1, 0] rfl)
      · --
        exact iv_no (iv_eq1 (lo := 40) (hi := (-1)) c14 p13_1 (⟨by decide, by decide⟩ : Iv 40 40 40) (by decide)) (by decide)
    · --
      have i71 : Iv (σ.1 663 a0) 0 200 := (fun h => (by have := z_ti h; have := (ia1).1; have := (ia1).2; have := (p8_1).1; have := (p8_1).2; have := (hf660).1; have := (hf660).2; have := (i1).1; have := (i1).2; have := (i2).1; have := (i2).2; have := (i6).1; have := (i6).2; have := (p4_1).1; have := (p4_1).2; have : (v4 : Int32).toInt = (0 : Int32).toInt := congrArg Int32.toInt c5; have : (0 : Int32).toInt = 0 := (by decide); have : (45 : Int32).toInt = 45 := (by decide); exact ⟨by omega, by omega⟩)) c9
      have i72 : Iv v8 0 0 := iv_eq1 c9 p8_1 (⟨by decide, by decide⟩ : Iv 0 0 0) (by decide)
      refine lv_iconst (v := 0) hx hb dX11_thing_23 (by decide) ?_
      rw [← hQ]
      exact o_ri cx rx hw dX11_thing_24 ⟨fr, (by exact (by have := (ia1).1; have := (ia1).2; have := (hf660).1; have := (hf660).2; have := (i1).1; have := (i1).2; have := (i2).1; have := (i2).2; have := (i71).1; have := (i71).2; have := (p4_1).1; have := (p4_1).2; have := (i72).1; have := (i72).2; have : (v4 : Int32).toInt = (0 : Int32).toInt := congrArg Int32.toInt c5; have : (v8 : Int32).toInt = (0 : Int32).toInt := congrArg Int32.toInt c9; have : (0 : Int32).toInt = 0 := (by decide); have : (45 : Int32).toInt = 45 := (by decide); omega)), (by exact (by have := (ia1).1; have := (ia1).2; have := (hf660).1; have := (hf660).2; have := (i1).1; have := (i1).2; have := (i2).1; have := (i2).2; have := (i71).1; have := (i71).2; have := (p4_1).1; have := (p4_1).2; have := (i72).1; have := (i72).2; have : (v4 : Int32).toInt = (0 : Int32).toInt := congrArg Int32.toInt c5; have : (v8 : Int32).toInt = (0 : Int32).toInt := congrArg Int32.toInt c9; have : (0 : Int32).toInt = 0 := (by decide); have : (45 : Int32).toInt = 45 := (by decide); omega))⟩
  · --
    exact iv_no (iv_ne1 c5 p4_1 (⟨by decide, by decide⟩ : Iv 0 0 0) (by decide)) (by decide)
set_option maxHeartbeats 4000000 in
set_option maxRecDepth 100000 in
theorem c_X11_productR (n : Nat) (IH1 : P_X11_thingR l A L τ cy D K n) : P_X11_productR l A L τ cy D K (n) := by
  intro σ a0 ha0 a1 ia1 b0 hF0 hb0 hf660 hm
  refine oMk (by decide) (Nat.le_of_ble_eq_true rfl) rfl ?_
  intro p e s m args below meth c ls cx rx hA hw hl
  generalize hQ : MQ below _ args s 0 0 A = Q
  have hx := cx.1.1
  have hb := cx.1.2.1
  have hml := cx.1.2.2.1
  have hown := cx.1.2.2.2.1
  have hts := cx.1.2.2.2.2
  have hl : lv_has ls 5 [(0, .ref a0), (1, .int a1)] := hl
  have fr : oFr τ fs_X11_productR ts_X11_productR σ σ := oFr_rf
  refine lv_aload_n hx hb dX11_product_0 rfl (lv_at hl 0 rfl) ?_
  refine lv_iload_n hx hb dX11_product_1 rfl (lv_at hl 1 rfl) ?_
  have i1 : Iv (σ.1 662 a0) 0 200 := o_fb (j := 662) hw ha0 rfl
  have i2 : Iv (σ.1 663 a0) (-1) 200 := o_fb (j := 663) hw ha0 rfl
  have i3 : Iv (σ.1 661 a0) 0 80 := o_fb (j := 661) hw ha0 rfl
  refine o_ci hw (oRunV cx hA hw q_X11_thing k_m_X11_192 rfl ha0 (by decide) (As := [.int a1]) (IH1 _ a0 ha0 a1 (iv_w ia1 (by decide)) b0 (hF0) hb0 (kn_iv (rfl) (iv_w hf660 (by decide))) (by have := (ia1).1; have := (ia1).2; have := (hf660).1; have := (hf660).2; have := (i1).1; have := (i1).2; have := (i2).1; have := (i2).2; have := (i3).1; have := (i3).2; omega)) (by constructor <;> (dsimp only; omega)) rfl hl.1 rfl (Nat.le_of_ble_eq_true rfl) dX11_product_2 ⟨Nat.le_refl 0, Nat.le_refl 0⟩) (fun v5 σ4 H locs hp hw => ?_)
  obtain ⟨p5_0, p5_1, p5_2⟩ := hp
  have fr := oFr_tr fr p5_0 (by decide)
  have i6 : Iv (σ4.1 662 a0) 0 200 := o_fb (j := 662) hw ha0 rfl
  have i7 : Iv (σ4.1 663 a0) (-1) 200 := o_fb (j := 663) hw ha0 rfl
  refine lv_istore_n (lv' := [(2, .int v5), (0, .ref a0), (1, .int a1)]) hx hb dX11_product_5 rfl hl (by decide) rfl (fun ls hl => ?_)
  have J_6 : ∀ n6 : Nat, ∀ (H : Heap) (locs : List Loc), oI A L τ cy D s.heap σ4 H locs → ((σ4.1 660 a0).toInt - (σ4.1 662 a0).toInt).toNat < n6 → ((σ.1 662 a0).toInt ≤ (σ4.1 662 a0).toInt) → ((σ.1 662 a0).toInt ≤ (σ.1 661 a0).toInt → (σ4.1 662 a0).toInt ≤ (σ.1 661 a0).toInt) → ∀ (ls : Array Slot), lv_has ls 5 [(0, .ref a0), (1, .int a1), (2, .int v5)] → W p l e ({ frames := 4 * (n) + 11, cells := 0, slots := 0, locals := 100 * (n) + 324 } : Room) s m args below meth c H locs 0 0 Q (F0 m 6 ls []) := by
    intro n6
    induction n6 with
    | zero => intro  H locs hw  hn_6 mo_6 to_6  ls hl; exact absurd hn_6 (Nat.not_lt_zero _)
    | succ n6 ih_6 =>
      intro  H locs hw  hn_6 mo_6 to_6  ls hl
      refine lv_aload_n hx hb dX11_product_6 rfl (lv_at hl 0 rfl) ?_
      refine o_ci hw (oRunV cx hA hw q_X11_fine k_m_X11_126 rfl ha0 (by decide) (As := []) (c_X11_fine a0 ha0) (by constructor <;> (dsimp only; omega)) rfl hl.1 rfl (Nat.le_of_ble_eq_true rfl) dX11_product_7 ⟨Nat.le_refl 0, Nat.le_refl 0⟩) (fun v9 σ8 H locs hp hw => ?_)
      obtain ⟨p9_0, p9_1, p9_2⟩ := hp
      rw [p9_0] at hw
      refine lv_if_eq (tgt := 91) hx hb dX11_product_10 (by decide) (fun c10 => ?_) (fun c10 => ?_)
      · --
        have i11 : Iv (σ4.1 663 a0) 0 200 := (fun h => (by have := z_ti h; have := (ia1).1; have := (ia1).2; have := (p9_1).1; have := (p9_1).2; have := (hf660).1; have := (hf660).2; have := (i3).1; have := (i3).2; have := (i6).1; have := (i6).2; have := (i7).1; have := (i7).2; have := (i1).1; have := (i1).2; have := (i2).1; have := (i2).2; have : (σ4.1 660 a0).toInt = ((σ.1 660 a0) : Int32).toInt := congrArg Int32.toInt (show σ4.1 660 a0 = (σ.1 660 a0) from ((kp_c p5_0 (by decide)).trans rfl)); have : (σ4.1 661 a0).toInt = ((σ.1 661 a0) : Int32).toInt := congrArg Int32.toInt (show σ4.1 661 a0 = (σ.1 661 a0) from ((kp_c p5_0 (by decide)).trans rfl)); exact ⟨by omega, by omega⟩)) c10
        have i12 : Iv v9 0 0 := iv_eq1 c10 p9_1 (⟨by decide, by decide⟩ : Iv 0 0 0) (by decide)
        refine lv_iload_n hx hb dX11_product_91 rfl (lv_at hl 2 rfl) ?_
        rw [← hQ]
        exact o_ri cx rx hw dX11_product_92 ⟨fr, (by exact (by have := (ia1).1; have := (ia1).2; have := (hf660).1; have := (hf660).2; have := (i3).1; have := (i3).2; have := (i6).1; have := (i6).2; have := (i11).1; have := (i11).2; have := (i1).1; have := (i1).2; have := (i2).1; have := (i2).2; have := (i12).1; have := (i12).2; have : (σ4.1 660 a0).toInt = ((σ.1 660 a0) : Int32).toInt := congrArg Int32.toInt (show σ4.1 660 a0 = (σ.1 660 a0) from ((kp_c p5_0 (by decide)).trans rfl)); have : (σ4.1 661 a0).toInt = ((σ.1 661 a0) : Int32).toInt := congrArg Int32.toInt (show σ4.1 661 a0 = (σ.1 661 a0) from ((kp_c p5_0 (by decide)).trans rfl)); have : (v9 : Int32).toInt = (0 : Int32).toInt := congrArg Int32.toInt c10; have : (0 : Int32).toInt = 0 := (by decide); omega)), (by exact (by have := (ia1).1; have := (ia1).2; have := (hf660).1; have := (hf660).2; have := (i3).1; have := (i3).2; have := (i6).1; have := (i6).2; have := (i11).1; have := (i11).2; have := (i1).1; have := (i1).2; have := (i2).1; have := (i2).2; have := (i12).1; have := (i12).2; have : (σ4.1 660 a0).toInt = ((σ.1 660 a0) : Int32).toInt := congrArg Int32.toInt (show σ4.1 660 a0 = (σ.1 660 a0) from ((kp_c p5_0 (by decide)).trans rfl)); have : (σ4.1 661 a0).toInt = ((σ.1 661 a0) : Int32).toInt := congrArg Int32.toInt (show σ4.1 661 a0 = (σ.1 661 a0) from ((kp_c p5_0 (by decide)).trans rfl)); have : (v9 : Int32).toInt = (0 : Int32).toInt := congrArg Int32.toInt c10; have : (0 : Int32).toInt = 0 := (by decide); omega))⟩
      · --
        have i13 : Iv v9 1 1 := iv_ne1 c10 p9_1 (⟨by decide, by decide⟩ : Iv 0 0 0) (by decide)
        have i14 : Iv (σ4.1 663 a0) (-1) (-1) := (fun h => (by have := nz_ti h; have := (ia1).1; have := (ia1).2; have := (p9_1).1; have := (p9_1).2; have := (hf660).1; have := (hf660).2; have := (i3).1; have := (i3).2; have := (i6).1; have := (i6).2; have := (i7).1; have := (i7).2; have := (i1).1; have := (i1).2; have := (i2).1; have := (i2).2; have : (σ4.1 660 a0).toInt = ((σ.1 660 a0) : Int32).toInt := congrArg Int32.toInt (show σ4.1 660 a0 = (σ.1 660 a0) from ((kp_c p5_0 (by decide)).trans rfl)); have : (σ4.1 661 a0).toInt = ((σ.1 661 a0) : Int32).toInt := congrArg Int32.toInt (show σ4.1 661 a0 = (σ.1 661 a0) from ((kp_c p5_0 (by decide)).trans rfl)); exact ⟨by omega, by omega⟩)) c10
        refine lv_aload_n hx hb dX11_product_13 rfl (lv_at hl 0 rfl) ?_
        have z15 : (σ4.1 660 a0).toInt = ((σ.1 660 a0) : Int32).toInt := congrArg Int32.toInt (show σ4.1 660 a0 = (σ.1 660 a0) from ((kp_c p5_0 (by decide)).trans rfl))
        have z16 : (σ4.1 661 a0).toInt = ((σ.1 661 a0) : Int32).toInt := congrArg Int32.toInt (show σ4.1 661 a0 = (σ.1 661 a0) from ((kp_c p5_0 (by decide)).trans rfl))
        refine o_ci hw (oRunV cx hA hw q_X11_here k_m_X11_130 rfl ha0 (by decide) (As := []) (c_X11_hereR a0 ha0 b0 (((kr_c p5_0 (by decide)).trans hF0)) hb0 (kn_iv (((kp_c p5_0 (by decide)).trans rfl)) (iv_w hf660 (by decide)))) (by constructor <;> (dsimp only; omega)) rfl hl.1 rfl (Nat.le_of_ble_eq_true rfl) dX11_product_14 ⟨Nat.le_refl 0, Nat.le_refl 0⟩) (fun v18 σ17 H locs hp hw => ?_)
        obtain ⟨p18_0, p18_1, p18_2, p18_3, p18_4, p18_5, p18_6⟩ := hp
        rw [p18_0] at hw
        have hnv18 := congrArg Int32.toInt p18_6
        refine lv_bipush (v := 42) hx hb dX11_product_17 (by decide) ?_
        refine lv_icmp_eq (tgt := 31) hx hb dX11_product_19 (by decide) (fun c19 => ?_) (fun c19 => ?_)
        · --
          exact iv_no (iv_eq1 (lo := 42) (hi := (-1)) c19 p18_1 (⟨by decide, by decide⟩ : Iv 42 42 42) (by decide)) (by decide)
        · --
          refine lv_aload_n hx hb dX11_product_22 rfl (lv_at hl 0 rfl) ?_
          have z20 : (σ4.1 660 a0).toInt = ((σ.1 660 a0) : Int32).toInt := congrArg Int32.toInt (show σ4.1 660 a0 = (σ.1 660 a0) from ((kp_c p5_0 (by decide)).trans rfl))
          have z21 : (σ4.1 661 a0).toInt = ((σ.1 661 a0) : Int32).toInt := congrArg Int32.toInt (show σ4.1 661 a0 = (σ.1 661 a0) from ((kp_c p5_0 (by decide)).trans rfl))
          refine o_ci hw (oRunV cx hA hw q_X11_here k_m_X11_130 rfl ha0 (by decide) (As := []) (c_X11_hereR a0 ha0 b0 (((kr_c p5_0 (by decide)).trans hF0)) hb0 (kn_iv (((kp_c p5_0 (by decide)).trans rfl)) (iv_w hf660 (by decide)))) (by constructor <;> (dsimp only; omega)) rfl hl.1 rfl (Nat.le_of_ble_eq_true rfl) dX11_product_23 ⟨Nat.le_refl 0, Nat.le_refl 0⟩) (fun v23 σ22 H locs hp hw => ?_)
          obtain ⟨p23_0, p23_1, p23_2, p23_3, p23_4, p23_5, p23_6⟩ := hp
          rw [p23_0] at hw
          have hnv23 := congrArg Int32.toInt p23_6
          refine lv_bipush (v := 47) hx hb dX11_product_26 (by decide) ?_
          refine lv_icmp_ne (tgt := 91) hx hb dX11_product_28 (by decide) (fun c24 => ?_) (fun c24 => ?_)
          · --
            refine lv_iload_n hx hb dX11_product_91 rfl (lv_at hl 2 rfl) ?_
            rw [← hQ]
            exact o_ri cx rx hw dX11_product_92 ⟨fr, (by exact (by have := (ia1).1; have := (ia1).2; have := (hf660).1; have := (hf660).2; have := (i3).1; have := (i3).2; have := (i6).1; have := (i6).2; have := (i14).1; have := (i14).2; have := (i1).1; have := (i1).2; have := (i2).1; have := (i2).2; have := (i13).1; have := (i13).2; have := (p18_1).1; have := (p18_1).2; have := (p23_1).1; have := (p23_1).2; have : (σ4.1 660 a0).toInt = ((σ.1 660 a0) : Int32).toInt := congrArg Int32.toInt (show σ4.1 660 a0 = (σ.1 660 a0) from ((kp_c p5_0 (by decide)).trans rfl)); have : (σ4.1 661 a0).toInt = ((σ.1 661 a0) : Int32).toInt := congrArg Int32.toInt (show σ4.1 661 a0 = (σ.1 661 a0) from ((kp_c p5_0 (by decide)).trans rfl)); omega)), (by exact (by have := (ia1).1; have := (ia1).2; have := (hf660).1; have := (hf660).2; have := (i3).1; have := (i3).2; have := (i6).1; have := (i6).2; have := (i14).1; have := (i14).2; have := (i1).1; have := (i1).2; have := (i2).1; have := (i2).2; have := (i13).1; have := (i13).2; have := (p18_1).1; have := (p18_1).2; have := (p23_1).1; have := (p23_1).2; have : (σ4.1 660 a0).toInt = ((σ.1 660 a0) : Int32).toInt := congrArg Int32.toInt (show σ4.1 660 a0 = (σ.1 660 a0) from ((kp_c p5_0 (by decide)).trans rfl)); have : (σ4.1 661 a0).toInt = ((σ.1 661 a0) : Int32).toInt := congrArg Int32.toInt (show σ4.1 661 a0 = (σ.1 661 a0) from ((kp_c p5_0 (by decide)).trans rfl)); omega))⟩
          · --
            exact iv_no (iv_eq1 (lo := 47) (hi := (-1)) c24 p23_1 (⟨by decide, by decide⟩ : Iv 47 47 47) (by decide)) (by decide)
  exact J_6 _ _ _ hw (Nat.lt_succ_self _) (by have := (ia1).1; have := (ia1).2; have := (hf660).1; have := (hf660).2; have := (i3).1; have := (i3).2; have := (i6).1; have := (i6).2; have := (i7).1; have := (i7).2; have := (i1).1; have := (i1).2; have := (i2).1; have := (i2).2; have : (σ4.1 660 a0).toInt = ((σ.1 660 a0) : Int32).toInt := congrArg Int32.toInt (show σ4.1 660 a0 = (σ.1 660 a0) from ((kp_c p5_0 (by decide)).trans rfl)); have : (σ4.1 661 a0).toInt = ((σ.1 661 a0) : Int32).toInt := congrArg Int32.toInt (show σ4.1 661 a0 = (σ.1 661 a0) from ((kp_c p5_0 (by decide)).trans rfl)); omega) (by have := (ia1).1; have := (ia1).2; have := (hf660).1; have := (hf660).2; have := (i3).1; have := (i3).2; have := (i6).1; have := (i6).2; have := (i7).1; have := (i7).2; have := (i1).1; have := (i1).2; have := (i2).1; have := (i2).2; have : (σ4.1 660 a0).toInt = ((σ.1 660 a0) : Int32).toInt := congrArg Int32.toInt (show σ4.1 660 a0 = (σ.1 660 a0) from ((kp_c p5_0 (by decide)).trans rfl)); have : (σ4.1 661 a0).toInt = ((σ.1 661 a0) : Int32).toInt := congrArg Int32.toInt (show σ4.1 661 a0 = (σ.1 661 a0) from ((kp_c p5_0 (by decide)).trans rfl)); omega) _ (lv_sub hl [1, 2, 0] rfl)
end OM
