section OM
variable {l : Launch} {A : Nat → Prop} {L : List Nat} {τ : Nat → Nat} {cy : Nat → ClassId} {D : va_G} {K : (Nat → Nat) × (Nat → Nat)} {σ : oSt}
set_option maxHeartbeats 4000000 in
set_option maxRecDepth 100000 in
theorem c_X11_isHerd (a0 : Nat) (ha0 : oA L τ a0 10) (a1 : Int32) : oMet l A L τ cy D K yX11_isHerd cX11_isHerd 2 (some .boolean) 1 22 [.ref a0, .int a1] σ (va_Qi (fun r σ1 => σ1 = σ ∧ Iv r 0 1 ∧ (¬ r = 0 → Iv a1 0 5)) (oPo A L τ cy D) A) := by
  refine oMk (by decide) (Nat.le_of_ble_eq_true rfl) rfl ?_
  intro p e s m args below meth c ls cx rx hA hw hl
  generalize hQ : MQ below _ args s 0 0 A = Q
  have hx := cx.1.1
  have hb := cx.1.2.1
  have hml := cx.1.2.2.1
  have hown := cx.1.2.2.2.1
  have hts := cx.1.2.2.2.2
  have hl : lv_has ls 2 [(0, .ref a0), (1, .int a1)] := hl
  refine lv_iload_n hx hb dX11_isHerd_0 rfl (lv_at hl 1 rfl) ?_
  refine lv_iconst (v := 0) hx hb dX11_isHerd_1 (by decide) ?_
  refine lv_aload_n hx hb dX11_isHerd_2 rfl (lv_at hl 0 rfl) ?_
  refine g_647 cx hw ha0 k_f_X11_105 dX11_isHerd_3 (fun v1 e1 i1 => ?_)
  refine lv_iconst (v := 1) hx hb dX11_isHerd_6 (by decide) ?_
  refine lv_isub hx hb dX11_isHerd_7 ?_
  refine lv_topi (fun v2 e2 => ?_)
  have i2 : Iv v2 (-1) 5 := iv_sub e2 i1 (⟨by decide, by decide⟩ : Iv 1 1 1) (by decide)
  have x2 : v2.toInt = v1.toInt + (-1) := ex_sub e2 i1 (⟨by decide, by decide⟩ : Iv 1 1 1) (by decide)
  refine o_ci hw (oRunS cx hA hw q_X11_in k_m_X11_95 (As := [.int a1, .int 0, .int v2]) (c_X11_in a1 0 v2) (by decide) rfl hl.1 rfl (Nat.le_of_ble_eq_true rfl) dX11_isHerd_8 (by decide)) (fun v4 σ3 H locs hp hw => ?_)
  obtain ⟨p4_0, p4_1, p4_2⟩ := hp
  rw [p4_0] at hw
  rw [← hQ]
  exact o_rz cx rx hw (iv_nz01 (iv_w p4_1 (by decide))) dX11_isHerd_11 ⟨rfl, (iv_w p4_1 (by decide)), (fun h => iv_w ((fun h => iv_rel (p4_2 h) (⟨by decide, by decide⟩ : Iv 0 0 0) i2) h) (by decide))⟩
abbrev fs_X11_sign : List Nat := [655, 658]
abbrev ts_X11_sign : List Nat := [51]
set_option maxHeartbeats 4000000 in
set_option maxRecDepth 100000 in
theorem c_X11_sign (a0 : Nat) (ha0 : oA L τ a0 10) (a1 : Int32) : oMet l A L τ cy D K yX11_sign cX11_sign 3 (some .int) 0 0 [.ref a0, .int a1] σ (va_Qi (fun r σ1 => oFr τ fs_X11_sign ts_X11_sign σ σ1 ∧ Iv r (-1) 80) (oPo A L τ cy D) A) := by
  refine oMk (by decide) (Nat.le_of_ble_eq_true rfl) rfl ?_
  intro p e s m args below meth c ls cx rx hA hw hl
  generalize hQ : MQ below _ args s 0 0 A = Q
  have hx := cx.1.1
  have hb := cx.1.2.1
  have hml := cx.1.2.2.1
  have hown := cx.1.2.2.2.1
  have hts := cx.1.2.2.2.2
  have hl : lv_has ls 3 [(0, .ref a0), (1, .int a1)] := hl
  have fr : oFr τ fs_X11_sign ts_X11_sign σ σ := oFr_rf
  refine lv_aload_n hx hb dX11_sign_0 rfl (lv_at hl 0 rfl) ?_
  refine lv_iconst (v := 0) hx hb dX11_sign_1 (by decide) ?_
  refine p_658 cx hw ha0 k_f_X11_89 dX11_sign_2 (fun σ1 H locs eσ1 hw => ?_)
  have fr := oFr_i fr eσ1 (by decide)
  refine lv_aload_n hx hb dX11_sign_5 rfl (lv_at hl 0 rfl) ?_
  refine g_655 cx hw ha0 k_f_X11_108 dX11_sign_6 (fun v2 e2 i2 => ?_)
  refine lv_iconst (v := 4) hx hb dX11_sign_9 (by decide) ?_
  refine lv_iadd hx hb dX11_sign_10 ?_
  refine lv_topi (fun v3 e3 => ?_)
  have i3 : Iv v3 4 84 := iv_add e3 i2 (⟨by decide, by decide⟩ : Iv 4 4 4) (by decide)
  have x3 : v3.toInt = v2.toInt + 4 := ex_add e3 i2 (⟨by decide, by decide⟩ : Iv 4 4 4) (by decide)
  refine lv_bipush (v := 80) hx hb dX11_sign_11 (by decide) ?_
  refine lv_icmp_le (tgt := 18) hx hb dX11_sign_13 (by decide) (fun c4 => ?_) (fun c4 => ?_)
  · --
    have i5 : Iv v3 4 80 := iv_le1 c4 i3 (⟨by decide, by decide⟩ : Iv 80 80 80) (by decide)
    have i6 : Iv v2 0 76 := iv_lin x3 i5 i2 (by decide)
    refine lv_iconst (v := 3) hx hb dX11_sign_18 (by decide) ?_
    refine lv_istore_n (lv' := [(2, .int 3), (0, .ref a0), (1, .int a1)]) hx hb dX11_sign_19 rfl hl (by decide) rfl (fun ls hl => ?_)
    refine lv_iload_n hx hb dX11_sign_20 rfl (lv_at hl 0 rfl) ?_
    refine lv_if_lt (tgt := 53) hx hb dX11_sign_21 (by decide) (fun c7 => ?_) (fun c7 => ?_)
    · --
      exact iv_no (iv_lt1 (b' := 2) c7 (⟨by decide, by decide⟩ : Iv 3 3 3) (⟨by decide, by decide⟩ : Iv 0 0 0) (by decide)) (by decide)
    · --
      refine lv_aload_n hx hb dX11_sign_24 rfl (lv_at hl 1 rfl) ?_
      refine g_654 cx hw ha0 k_f_X11_32 dX11_sign_25 (fun v8 e8 h8 => ?_)
      refine lv_aload_n hx hb dX11_sign_28 rfl (lv_at hl 1 rfl) ?_
      refine lv_dup hx hb dX11_sign_29 rfl ?_
      refine g_655 cx hw ha0 k_f_X11_108 dX11_sign_30 (fun v9 e9 i9 => ?_)
      rw [show v9 = v2 from e9.trans e2.symm]
      refine lv_dup_x1 hx hb dX11_sign_33 rfl rfl ?_
      refine lv_iconst (v := 1) hx hb dX11_sign_34 (by decide) ?_
      refine lv_iadd hx hb dX11_sign_35 ?_
      refine lv_topi (fun v10 e10 => ?_)
      have i10 : Iv v10 1 77 := iv_add e10 i6 (⟨by decide, by decide⟩ : Iv 1 1 1) (by decide)
      have x10 : v10.toInt = v2.toInt + 1 := ex_add e10 i6 (⟨by decide, by decide⟩ : Iv 1 1 1) (by decide)
      refine p_655 cx hw ha0 (iv_w i10 (by decide)) k_f_X11_108 dX11_sign_36 (fun σ11 H locs eσ11 hw => ?_)
      have fr := oFr_i fr eσ11 (by decide)
      refine lv_iload_n hx hb dX11_sign_39 rfl (lv_at hl 2 rfl) ?_
      refine lv_bipush (v := 8) hx hb dX11_sign_40 (by decide) ?_
      refine lv_iload_n hx hb dX11_sign_42 rfl (lv_at hl 0 rfl) ?_
      refine lv_imul hx hb dX11_sign_43 ?_
      refine lv_topi (fun v12 e12 => ?_)
      have i12 : Iv v12 24 24 := iv_mul e12 (⟨by decide, by decide⟩ : Iv 8 8 8) (⟨by decide, by decide⟩ : Iv 3 3 3) (by decide)
      refine lv_ishr hx hb dX11_sign_44 ?_
      refine lv_topi (fun v13 e13 => ?_)
      refine lv_i2b hx hb dX11_sign_45 rfl ?_
      refine lv_topi (fun v14 e14 => ?_)
      refine o_bast cx hw h8 (by decide) rfl (iv_in i6 (by decide)) (rb_byte _) dX11_sign_46 (fun σ15 H locs eσ15 hw => ?_)
      have fr := oFr_p fr eσ15 h8 (by decide)
      refine lv_iinc (v := 2) (lv' := [(2, .int 2), (0, .ref a0), (1, .int a1)]) hx hb dX11_sign_47 hl (k := 0) rfl (by decide) (by decide) rfl (fun ls hl => ?_)
      refine lv_goto (tgt := 20) hx hb dX11_sign_50 (by decide) ?_
      refine lv_iload_n hx hb dX11_sign_20 rfl (lv_at hl 0 rfl) ?_
      refine lv_if_lt (tgt := 53) hx hb dX11_sign_21 (by decide) (fun c17 => ?_) (fun c17 => ?_)
      · --
        exact iv_no (iv_lt1 (b' := 1) c17 (⟨by decide, by decide⟩ : Iv 2 2 2) (⟨by decide, by decide⟩ : Iv 0 0 0) (by decide)) (by decide)
      · --
        refine lv_aload_n hx hb dX11_sign_24 rfl (lv_at hl 1 rfl) ?_
        refine g_654 cx hw ha0 k_f_X11_32 dX11_sign_25 (fun v18 e18 h18 => ?_)
        rw [show v18 = v8 from Option.some.inj (e18.symm.trans (((kr_p eσ15).trans ((kr_i eσ11).trans e8))))]
        refine lv_aload_n hx hb dX11_sign_28 rfl (lv_at hl 1 rfl) ?_
        refine lv_dup hx hb dX11_sign_29 rfl ?_
        refine g_655 cx hw ha0 k_f_X11_108 dX11_sign_30 (fun v19 e19 i19 => ?_)
        rw [show v19 = v10 from e19.trans ((kp_p eσ15).trans (kp_s eσ11))]
        refine lv_dup_x1 hx hb dX11_sign_33 rfl rfl ?_
        refine lv_iconst (v := 1) hx hb dX11_sign_34 (by decide) ?_
        refine lv_iadd hx hb dX11_sign_35 ?_
        refine lv_topi (fun v20 e20 => ?_)
        have i20 : Iv v20 2 78 := iv_add e20 i10 (⟨by decide, by decide⟩ : Iv 1 1 1) (by decide)
        have x20 : v20.toInt = v10.toInt + 1 := ex_add e20 i10 (⟨by decide, by decide⟩ : Iv 1 1 1) (by decide)
        refine p_655 cx hw ha0 (iv_w i20 (by decide)) k_f_X11_108 dX11_sign_36 (fun σ21 H locs eσ21 hw => ?_)
        have fr := oFr_i fr eσ21 (by decide)
        refine lv_iload_n hx hb dX11_sign_39 rfl (lv_at hl 2 rfl) ?_
        refine lv_bipush (v := 8) hx hb dX11_sign_40 (by decide) ?_
        refine lv_iload_n hx hb dX11_sign_42 rfl (lv_at hl 0 rfl) ?_
        refine lv_imul hx hb dX11_sign_43 ?_
        refine lv_topi (fun v22 e22 => ?_)
        have i22 : Iv v22 16 16 := iv_mul e22 (⟨by decide, by decide⟩ : Iv 8 8 8) (⟨by decide, by decide⟩ : Iv 2 2 2) (by decide)
        refine lv_ishr hx hb dX11_sign_44 ?_
        refine lv_topi (fun v23 e23 => ?_)
        refine lv_i2b hx hb dX11_sign_45 rfl ?_
        refine lv_topi (fun v24 e24 => ?_)
        refine o_bast cx hw h8 (by decide) rfl (iv_in i10 (by decide)) (rb_byte _) dX11_sign_46 (fun σ25 H locs eσ25 hw => ?_)
        have fr := oFr_p fr eσ25 h8 (by decide)
        refine lv_iinc (v := 1) (lv' := [(2, .int 1), (0, .ref a0), (1, .int a1)]) hx hb dX11_sign_47 hl (k := 0) rfl (by decide) (by decide) rfl (fun ls hl => ?_)
        refine lv_goto (tgt := 20) hx hb dX11_sign_50 (by decide) ?_
        refine lv_iload_n hx hb dX11_sign_20 rfl (lv_at hl 0 rfl) ?_
        refine lv_if_lt (tgt := 53) hx hb dX11_sign_21 (by decide) (fun c27 => ?_) (fun c27 => ?_)
        · --
          exact iv_no (iv_lt1 (b' := 0) c27 (⟨by decide, by decide⟩ : Iv 1 1 1) (⟨by decide, by decide⟩ : Iv 0 0 0) (by decide)) (by decide)
        · --
          refine lv_aload_n hx hb dX11_sign_24 rfl (lv_at hl 1 rfl) ?_
          refine g_654 cx hw ha0 k_f_X11_32 dX11_sign_25 (fun v28 e28 h28 => ?_)
          rw [show v28 = v8 from Option.some.inj (e28.symm.trans (((kr_p eσ25).trans ((kr_i eσ21).trans ((kr_p eσ15).trans ((kr_i eσ11).trans e8))))))]
          refine lv_aload_n hx hb dX11_sign_28 rfl (lv_at hl 1 rfl) ?_
          refine lv_dup hx hb dX11_sign_29 rfl ?_
          refine g_655 cx hw ha0 k_f_X11_108 dX11_sign_30 (fun v29 e29 i29 => ?_)
          rw [show v29 = v20 from e29.trans ((kp_p eσ25).trans (kp_s eσ21))]
          refine lv_dup_x1 hx hb dX11_sign_33 rfl rfl ?_
          refine lv_iconst (v := 1) hx hb dX11_sign_34 (by decide) ?_
          refine lv_iadd hx hb dX11_sign_35 ?_
          refine lv_topi (fun v30 e30 => ?_)
          have i30 : Iv v30 3 79 := iv_add e30 i20 (⟨by decide, by decide⟩ : Iv 1 1 1) (by decide)
          have x30 : v30.toInt = v20.toInt + 1 := ex_add e30 i20 (⟨by decide, by decide⟩ : Iv 1 1 1) (by decide)
          refine p_655 cx hw ha0 (iv_w i30 (by decide)) k_f_X11_108 dX11_sign_36 (fun σ31 H locs eσ31 hw => ?_)
          have fr := oFr_i fr eσ31 (by decide)
          refine lv_iload_n hx hb dX11_sign_39 rfl (lv_at hl 2 rfl) ?_
          refine lv_bipush (v := 8) hx hb dX11_sign_40 (by decide) ?_
          refine lv_iload_n hx hb dX11_sign_42 rfl (lv_at hl 0 rfl) ?_
          refine lv_imul hx hb dX11_sign_43 ?_
          refine lv_topi (fun v32 e32 => ?_)
          have i32 : Iv v32 8 8 := iv_mul e32 (⟨by decide, by decide⟩ : Iv 8 8 8) (⟨by decide, by decide⟩ : Iv 1 1 1) (by decide)
          refine lv_ishr hx hb dX11_sign_44 ?_
          refine lv_topi (fun v33 e33 => ?_)
          refine lv_i2b hx hb dX11_sign_45 rfl ?_
          refine lv_topi (fun v34 e34 => ?_)
          refine o_bast cx hw h8 (by decide) rfl (iv_in i20 (by decide)) (rb_byte _) dX11_sign_46 (fun σ35 H locs eσ35 hw => ?_)
          have fr := oFr_p fr eσ35 h8 (by decide)
          refine lv_iinc (v := 0) (lv' := [(2, .int 0), (0, .ref a0), (1, .int a1)]) hx hb dX11_sign_47 hl (k := 0) rfl (by decide) (by decide) rfl (fun ls hl => ?_)
          refine lv_goto (tgt := 20) hx hb dX11_sign_50 (by decide) ?_
          refine lv_iload_n hx hb dX11_sign_20 rfl (lv_at hl 0 rfl) ?_
          refine lv_if_lt (tgt := 53) hx hb dX11_sign_21 (by decide) (fun c37 => ?_) (fun c37 => ?_)
          · --
            exact iv_no (iv_lt1 (b' := (-1)) c37 (⟨by decide, by decide⟩ : Iv 0 0 0) (⟨by decide, by decide⟩ : Iv 0 0 0) (by decide)) (by decide)
          · --
            refine lv_aload_n hx hb dX11_sign_24 rfl (lv_at hl 1 rfl) ?_
            refine g_654 cx hw ha0 k_f_X11_32 dX11_sign_25 (fun v38 e38 h38 => ?_)
            rw [show v38 = v8 from Option.some.inj (e38.symm.trans (((kr_p eσ35).trans ((kr_i eσ31).trans ((kr_p eσ25).trans ((kr_i eσ21).trans ((kr_p eσ15).trans ((kr_i eσ11).trans e8))))))))]
            refine lv_aload_n hx hb dX11_sign_28 rfl (lv_at hl 1 rfl) ?_
            refine lv_dup hx hb dX11_sign_29 rfl ?_
            refine g_655 cx hw ha0 k_f_X11_108 dX11_sign_30 (fun v39 e39 i39 => ?_)
            rw [show v39 = v30 from e39.trans ((kp_p eσ35).trans (kp_s eσ31))]
            refine lv_dup_x1 hx hb dX11_sign_33 rfl rfl ?_
            refine lv_iconst (v := 1) hx hb dX11_sign_34 (by decide) ?_
            refine lv_iadd hx hb dX11_sign_35 ?_
            refine lv_topi (fun v40 e40 => ?_)
            have i40 : Iv v40 4 80 := iv_add e40 i30 (⟨by decide, by decide⟩ : Iv 1 1 1) (by decide)
            have x40 : v40.toInt = v30.toInt + 1 := ex_add e40 i30 (⟨by decide, by decide⟩ : Iv 1 1 1) (by decide)
            refine p_655 cx hw ha0 (iv_w i40 (by decide)) k_f_X11_108 dX11_sign_36 (fun σ41 H locs eσ41 hw => ?_)
            have fr := oFr_i fr eσ41 (by decide)
            refine lv_iload_n hx hb dX11_sign_39 rfl (lv_at hl 2 rfl) ?_
            refine lv_bipush (v := 8) hx hb dX11_sign_40 (by decide) ?_
            refine lv_iload_n hx hb dX11_sign_42 rfl (lv_at hl 0 rfl) ?_
            refine lv_imul hx hb dX11_sign_43 ?_
            refine lv_topi (fun v42 e42 => ?_)
            have i42 : Iv v42 0 0 := iv_mul e42 (⟨by decide, by decide⟩ : Iv 8 8 8) (⟨by decide, by decide⟩ : Iv 0 0 0) (by decide)
            refine lv_ishr hx hb dX11_sign_44 ?_
            refine lv_topi (fun v43 e43 => ?_)
            refine lv_i2b hx hb dX11_sign_45 rfl ?_
            refine lv_topi (fun v44 e44 => ?_)
            refine o_bast cx hw h8 (by decide) rfl (iv_in i30 (by decide)) (rb_byte _) dX11_sign_46 (fun σ45 H locs eσ45 hw => ?_)
            have fr := oFr_p fr eσ45 h8 (by decide)
            refine lv_iinc (v := (-1)) (lv' := [(2, .int (-1)), (0, .ref a0), (1, .int a1)]) hx hb dX11_sign_47 hl (k := 0) rfl (by decide) (by decide) rfl (fun ls hl => ?_)
            refine lv_goto (tgt := 20) hx hb dX11_sign_50 (by decide) ?_
            refine lv_iload_n hx hb dX11_sign_20 rfl (lv_at hl 0 rfl) ?_
            refine lv_if_lt (tgt := 53) hx hb dX11_sign_21 (by decide) (fun c47 => ?_) (fun c47 => ?_)
            · --
              refine lv_aload_n hx hb dX11_sign_53 rfl (lv_at hl 1 rfl) ?_
              refine g_655 cx hw ha0 k_f_X11_108 dX11_sign_54 (fun v48 e48 i48 => ?_)
              rw [show v48 = v40 from e48.trans ((kp_p eσ45).trans (kp_s eσ41))]
              rw [← hQ]
              exact o_ri cx rx hw dX11_sign_57 ⟨fr, (iv_w i40 (by decide))⟩
            · --
              exact iv_no (iv_le1 (b' := (-1)) (iv_nlt c47) (⟨by decide, by decide⟩ : Iv 0 0 0) (⟨by decide, by decide⟩ : Iv (-1) (-1) (-1)) (by decide)) (by decide)
  · --
    have i49 : Iv v3 81 84 := iv_lt2 (iv_nle c4) (⟨by decide, by decide⟩ : Iv 80 80 80) i3 (by decide)
    have i50 : Iv v2 77 80 := iv_lin x3 i49 i2 (by decide)
    refine lv_iconst (v := (-1)) hx hb dX11_sign_16 (by decide) ?_
    rw [← hQ]
    exact o_ri cx rx hw dX11_sign_17 ⟨fr, (iv_w (⟨by decide, by decide⟩ : Iv (-1) (-1) (-1)) (by decide))⟩
abbrev fs_X11_end : List Nat := [655, 658]
abbrev ts_X11_end : List Nat := []
set_option maxHeartbeats 4000000 in
set_option maxRecDepth 100000 in
theorem c_X11_end (a0 : Nat) (ha0 : oA L τ a0 10) (a1 : Int32) : oMet l A L τ cy D K yX11_end cX11_end 2 (some .boolean) 1 22 [.ref a0, .int a1] σ (va_Qi (fun r σ1 => oFr τ fs_X11_end ts_X11_end σ σ1 ∧ Iv r 0 1) (oPo A L τ cy D) A) := by
  refine oMk (by decide) (Nat.le_of_ble_eq_true rfl) rfl ?_
  intro p e s m args below meth c ls cx rx hA hw hl
  generalize hQ : MQ below _ args s 0 0 A = Q
  have hx := cx.1.1
  have hb := cx.1.2.1
  have hml := cx.1.2.2.1
  have hown := cx.1.2.2.2.1
  have hts := cx.1.2.2.2.2
  have hl : lv_has ls 2 [(0, .ref a0), (1, .int a1)] := hl
  have fr : oFr τ fs_X11_end ts_X11_end σ σ := oFr_rf
  refine lv_aload_n hx hb dX11_end_0 rfl (lv_at hl 0 rfl) ?_
  refine lv_iconst (v := 0) hx hb dX11_end_1 (by decide) ?_
  refine p_658 cx hw ha0 k_f_X11_89 dX11_end_2 (fun σ1 H locs eσ1 hw => ?_)
  have fr := oFr_i fr eσ1 (by decide)
  refine lv_iload_n hx hb dX11_end_5 rfl (lv_at hl 1 rfl) ?_
  refine lv_iconst (v := 0) hx hb dX11_end_6 (by decide) ?_
  refine lv_aload_n hx hb dX11_end_7 rfl (lv_at hl 0 rfl) ?_
  refine g_655 cx hw ha0 k_f_X11_108 dX11_end_8 (fun v2 e2 i2 => ?_)
  refine o_ci hw (oRunS cx hA hw q_X11_in k_m_X11_95 (As := [.int a1, .int 0, .int v2]) (c_X11_in a1 0 v2) (by decide) rfl hl.1 rfl (Nat.le_of_ble_eq_true rfl) dX11_end_11 (by decide)) (fun v4 σ3 H locs hp hw => ?_)
  obtain ⟨p4_0, p4_1, p4_2⟩ := hp
  rw [p4_0] at hw
  refine lv_if_ne (tgt := 19) hx hb dX11_end_14 (by decide) (fun c5 => ?_) (fun c5 => ?_)
  · --
    have i6 : Iv v4 1 1 := iv_ne1 c5 p4_1 (⟨by decide, by decide⟩ : Iv 0 0 0) (by decide)
    have l7 : a1.toInt ≤ v2.toInt + 0 := le_of (p4_2 c5).2
    have i8 : Iv a1 0 80 := (fun h => iv_rel (p4_2 h) (⟨by decide, by decide⟩ : Iv 0 0 0) i2) c5
    refine lv_aload_n hx hb dX11_end_19 rfl (lv_at hl 0 rfl) ?_
    refine lv_iload_n hx hb dX11_end_20 rfl (lv_at hl 1 rfl) ?_
    refine p_655 cx hw ha0 (iv_w i8 (by decide)) k_f_X11_108 dX11_end_21 (fun σ9 H locs eσ9 hw => ?_)
    have fr := oFr_i fr eσ9 (by decide)
    refine lv_iconst (v := 1) hx hb dX11_end_24 (by decide) ?_
    rw [← hQ]
    exact o_rz cx rx hw (iv_nz01 (iv_w (⟨by decide, by decide⟩ : Iv 1 1 1) (by decide))) dX11_end_25 ⟨fr, (iv_w (⟨by decide, by decide⟩ : Iv 1 1 1) (by decide))⟩
  · --
    have i10 : Iv v4 0 0 := iv_eq1 c5 p4_1 (⟨by decide, by decide⟩ : Iv 0 0 0) (by decide)
    refine lv_iconst (v := 0) hx hb dX11_end_17 (by decide) ?_
    rw [← hQ]
    exact o_rz cx rx hw (iv_nz01 (iv_w (⟨by decide, by decide⟩ : Iv 0 0 0) (by decide))) dX11_end_18 ⟨fr, (iv_w (⟨by decide, by decide⟩ : Iv 0 0 0) (by decide))⟩
abbrev fs_X11_beginT : List Nat := [659, 660, 661, 662, 663]
abbrev ts_X11_beginT : List Nat := []
set_option maxHeartbeats 4000000 in
set_option maxRecDepth 100000 in
theorem c_X11_beginT (a0 : Nat) (ha0 : oA L τ a0 10) (a1 : Nat) (ha1 : oA L τ a1 51) (a2 : Int32) (ia2 : Iv a2 0 80) (a3 : Int32) (ia3 : Iv a3 0 80) : oMet l A L τ cy D K yX11_begin cX11_begin 4 none 0 0 [.ref a0, .ref a1, .int a2, .int a3] σ (va_Qv (fun σ1 => oFr τ fs_X11_beginT ts_X11_beginT σ σ1 ∧ σ1.2.2.2.2 659 a0 = some a1 ∧ Iv (σ1.1 660 a0) 0 80 ∧ Iv (σ1.1 661 a0) 0 80 ∧ Iv (σ1.1 662 a0) 0 0 ∧ Iv (σ1.1 663 a0) (-1) (-1)) (oPo A L τ cy D) A) := by
  refine oMk (by decide) (Nat.le_of_ble_eq_true rfl) rfl ?_
  intro p e s m args below meth c ls cx rx hA hw hl
  generalize hQ : MQ below _ args s 0 0 A = Q
  have hx := cx.1.1
  have hb := cx.1.2.1
  have hml := cx.1.2.2.1
  have hown := cx.1.2.2.2.1
  have hts := cx.1.2.2.2.2
  have hl : lv_has ls 4 [(0, .ref a0), (1, .ref a1), (2, .int a2), (3, .int a3)] := hl
  have fr : oFr τ fs_X11_beginT ts_X11_beginT σ σ := oFr_rf
  refine lv_aload_n hx hb dX11_begin_0 rfl (lv_at hl 0 rfl) ?_
  refine lv_aload_n hx hb dX11_begin_1 rfl (lv_at hl 1 rfl) ?_
  refine p_659 cx hw ha0 ha1 k_f_X11_111 dX11_begin_2 (fun σ1 H locs eσ1 hw => ?_)
  have fr := oFr_r fr eσ1 (by decide)
  refine lv_aload_n hx hb dX11_begin_5 rfl (lv_at hl 0 rfl) ?_
  refine lv_iload_n hx hb dX11_begin_6 rfl (lv_at hl 2 rfl) ?_
  refine p_660 cx hw ha0 (iv_w ia2 (by decide)) k_f_X11_114 dX11_begin_7 (fun σ2 H locs eσ2 hw => ?_)
  have fr := oFr_i fr eσ2 (by decide)
  refine lv_aload_n hx hb dX11_begin_10 rfl (lv_at hl 0 rfl) ?_
  refine lv_iload_n hx hb dX11_begin_11 rfl (lv_at hl 3 rfl) ?_
  refine p_661 cx hw ha0 (iv_w ia3 (by decide)) k_f_X11_117 dX11_begin_12 (fun σ3 H locs eσ3 hw => ?_)
  have fr := oFr_i fr eσ3 (by decide)
  refine lv_aload_n hx hb dX11_begin_15 rfl (lv_at hl 0 rfl) ?_
  refine lv_iconst (v := 0) hx hb dX11_begin_16 (by decide) ?_
  refine p_662 cx hw ha0 (iv_w (⟨by decide, by decide⟩ : Iv 0 0 0) (by decide)) k_f_X11_120 dX11_begin_17 (fun σ4 H locs eσ4 hw => ?_)
  have fr := oFr_i fr eσ4 (by decide)
  refine lv_aload_n hx hb dX11_begin_20 rfl (lv_at hl 0 rfl) ?_
  refine lv_iconst (v := (-1)) hx hb dX11_begin_21 (by decide) ?_
  refine p_663 cx hw ha0 k_f_X11_123 dX11_begin_22 (fun σ5 H locs eσ5 hw => ?_)
  have fr := oFr_i fr eσ5 (by decide)
  rw [← hQ]
  exact o_rv cx rx hw dX11_begin_25 ⟨fr, (((kr_i eσ5).trans ((kr_i eσ4).trans ((kr_i eσ3).trans ((kr_i eσ2).trans (kr_s eσ1)))))), (kn_iv (((kp_i eσ5 (by decide)).trans ((kp_i eσ4 (by decide)).trans ((kp_i eσ3 (by decide)).trans (kp_s eσ2))))) (iv_w ia2 (by decide))), (kn_iv (((kp_i eσ5 (by decide)).trans ((kp_i eσ4 (by decide)).trans (kp_s eσ3)))) (iv_w ia3 (by decide))), (kn_iv (((kp_i eσ5 (by decide)).trans (kp_s eσ4))) (iv_w (⟨by decide, by decide⟩ : Iv 0 0 0) (by decide))), (kn_iv ((kp_s eσ5)) (iv_w (⟨by decide, by decide⟩ : Iv (-1) (-1) (-1)) (by decide)))⟩
abbrev fs_X11_beginR : List Nat := [659, 660, 661, 662, 663]
abbrev ts_X11_beginR : List Nat := []
set_option maxHeartbeats 4000000 in
set_option maxRecDepth 100000 in
theorem c_X11_beginR (a0 : Nat) (ha0 : oA L τ a0 10) (a1 : Nat) (ha1 : oA L τ a1 54) (a2 : Int32) (ia2 : Iv a2 0 40) (a3 : Int32) (ia3 : Iv a3 0 80) : oMet l A L τ cy D K yX11_begin cX11_begin 4 none 0 0 [.ref a0, .ref a1, .int a2, .int a3] σ (va_Qv (fun σ1 => oFr τ fs_X11_beginR ts_X11_beginR σ σ1 ∧ σ1.2.2.2.2 659 a0 = some a1 ∧ Iv (σ1.1 660 a0) 0 40 ∧ Iv (σ1.1 661 a0) 0 80 ∧ Iv (σ1.1 662 a0) 0 0 ∧ Iv (σ1.1 663 a0) (-1) (-1)) (oPo A L τ cy D) A) := by
  refine oMk (by decide) (Nat.le_of_ble_eq_true rfl) rfl ?_
  intro p e s m args below meth c ls cx rx hA hw hl
  generalize hQ : MQ below _ args s 0 0 A = Q
  have hx := cx.1.1
  have hb := cx.1.2.1
  have hml := cx.1.2.2.1
  have hown := cx.1.2.2.2.1
  have hts := cx.1.2.2.2.2
  have hl : lv_has ls 4 [(0, .ref a0), (1, .ref a1), (2, .int a2), (3, .int a3)] := hl
  have fr : oFr τ fs_X11_beginR ts_X11_beginR σ σ := oFr_rf
  refine lv_aload_n hx hb dX11_begin_0 rfl (lv_at hl 0 rfl) ?_
  refine lv_aload_n hx hb dX11_begin_1 rfl (lv_at hl 1 rfl) ?_
  refine p_659 cx hw ha0 ha1 k_f_X11_111 dX11_begin_2 (fun σ1 H locs eσ1 hw => ?_)
  have fr := oFr_r fr eσ1 (by decide)
  refine lv_aload_n hx hb dX11_begin_5 rfl (lv_at hl 0 rfl) ?_
  refine lv_iload_n hx hb dX11_begin_6 rfl (lv_at hl 2 rfl) ?_
  refine p_660 cx hw ha0 (iv_w ia2 (by decide)) k_f_X11_114 dX11_begin_7 (fun σ2 H locs eσ2 hw => ?_)
  have fr := oFr_i fr eσ2 (by decide)
  refine lv_aload_n hx hb dX11_begin_10 rfl (lv_at hl 0 rfl) ?_
  refine lv_iload_n hx hb dX11_begin_11 rfl (lv_at hl 3 rfl) ?_
  refine p_661 cx hw ha0 (iv_w ia3 (by decide)) k_f_X11_117 dX11_begin_12 (fun σ3 H locs eσ3 hw => ?_)
  have fr := oFr_i fr eσ3 (by decide)
  refine lv_aload_n hx hb dX11_begin_15 rfl (lv_at hl 0 rfl) ?_
  refine lv_iconst (v := 0) hx hb dX11_begin_16 (by decide) ?_
  refine p_662 cx hw ha0 (iv_w (⟨by decide, by decide⟩ : Iv 0 0 0) (by decide)) k_f_X11_120 dX11_begin_17 (fun σ4 H locs eσ4 hw => ?_)
  have fr := oFr_i fr eσ4 (by decide)
  refine lv_aload_n hx hb dX11_begin_20 rfl (lv_at hl 0 rfl) ?_
  refine lv_iconst (v := (-1)) hx hb dX11_begin_21 (by decide) ?_
  refine p_663 cx hw ha0 k_f_X11_123 dX11_begin_22 (fun σ5 H locs eσ5 hw => ?_)
  have fr := oFr_i fr eσ5 (by decide)
  rw [← hQ]
  exact o_rv cx rx hw dX11_begin_25 ⟨fr, (((kr_i eσ5).trans ((kr_i eσ4).trans ((kr_i eσ3).trans ((kr_i eσ2).trans (kr_s eσ1)))))), (kn_iv (((kp_i eσ5 (by decide)).trans ((kp_i eσ4 (by decide)).trans ((kp_i eσ3 (by decide)).trans (kp_s eσ2))))) (iv_w ia2 (by decide))), (kn_iv (((kp_i eσ5 (by decide)).trans ((kp_i eσ4 (by decide)).trans (kp_s eσ3)))) (iv_w ia3 (by decide))), (kn_iv (((kp_i eσ5 (by decide)).trans (kp_s eσ4))) (iv_w (⟨by decide, by decide⟩ : Iv 0 0 0) (by decide))), (kn_iv ((kp_s eσ5)) (iv_w (⟨by decide, by decide⟩ : Iv (-1) (-1) (-1)) (by decide)))⟩
set_option maxHeartbeats 4000000 in
set_option maxRecDepth 100000 in
theorem c_X11_hereT (a0 : Nat) (ha0 : oA L τ a0 10) (b0 : Nat) (hF0 : σ.2.2.2.2 659 a0 = some b0) (hb0 : oA L τ b0 51) (hf660 : Iv (σ.1 660 a0) 0 80) : oMet l A L τ cy D K yX11_here cX11_here 1 (some .int) 0 0 [.ref a0] σ (va_Qi (fun r σ1 => σ1 = σ ∧ Iv r (-1) 255 ∧ (0 ≤ r → Iv (σ.1 662 a0) 0 79) ∧ (r = -1 ∨ r = σ.2.2.1 b0 (σ.1 662 a0).toNatClampNeg &&& 255)) (oPo A L τ cy D) A) := by
  refine oMk (by decide) (Nat.le_of_ble_eq_true rfl) rfl ?_
  intro p e s m args below meth c ls cx rx hA hw hl
  generalize hQ : MQ below _ args s 0 0 A = Q
  have hx := cx.1.1
  have hb := cx.1.2.1
  have hml := cx.1.2.2.1
  have hown := cx.1.2.2.2.1
  have hts := cx.1.2.2.2.2
  have hl : lv_has ls 1 [(0, .ref a0)] := hl
  refine lv_aload_n hx hb dX11_here_0 rfl (lv_at hl 0 rfl) ?_
  refine g_662 cx hw ha0 k_f_X11_120 dX11_here_1 (fun v1 e1 i1 => ?_)
  refine lv_aload_n hx hb dX11_here_4 rfl (lv_at hl 0 rfl) ?_
  refine g_660 cx hw ha0 k_f_X11_114 dX11_here_5 (fun v2 e2 i2 => ?_)
  rw [show v2 = (σ.1 660 a0) from e2.trans rfl]
  refine lv_icmp_ge (tgt := 38) hx hb dX11_here_8 (by decide) (fun c3 => ?_) (fun c3 => ?_)
  · --
    refine lv_iconst (v := (-1)) hx hb dX11_here_38 (by decide) ?_
    rw [← hQ]
    exact o_ri cx rx hw dX11_here_39 ⟨rfl, (iv_w (⟨by decide, by decide⟩ : Iv (-1) (-1) (-1)) (by decide)), (fun h => iv_no (iv_le1 (b' := -1) h (⟨by decide, by decide⟩ : Iv 0 0 0) (⟨by decide, by decide⟩ : Iv (-1) (-1) (-1)) (by decide)) (by decide)), (by first | exact Or.inl rfl | (refine Or.inr ?_; subst_vars; rfl))⟩
  · --
    have i4 : Iv v1 0 79 := iv_lt1 (iv_nle c3) i1 hf660 (by decide)
    have i5 : Iv (σ.1 660 a0) 1 80 := iv_lt2 (iv_nle c3) i1 hf660 (by decide)
    refine lv_aload_n hx hb dX11_here_11 rfl (lv_at hl 0 rfl) ?_
    refine g_662 cx hw ha0 k_f_X11_120 dX11_here_12 (fun v6 e6 i6 => ?_)
    rw [show v6 = v1 from e6.trans e1.symm]
    refine lv_aload_n hx hb dX11_here_15 rfl (lv_at hl 0 rfl) ?_
    refine g_661 cx hw ha0 k_f_X11_117 dX11_here_16 (fun v7 e7 i7 => ?_)
    refine lv_icmp_ge (tgt := 38) hx hb dX11_here_19 (by decide) (fun c8 => ?_) (fun c8 => ?_)
    · --
      have i9 : Iv v7 0 79 := iv_le1 c8 i7 i4 (by decide)
      refine lv_iconst (v := (-1)) hx hb dX11_here_38 (by decide) ?_
      rw [← hQ]
      exact o_ri cx rx hw dX11_here_39 ⟨rfl, (iv_w (⟨by decide, by decide⟩ : Iv (-1) (-1) (-1)) (by decide)), (fun h => iv_no (iv_le1 (b' := -1) h (⟨by decide, by decide⟩ : Iv 0 0 0) (⟨by decide, by decide⟩ : Iv (-1) (-1) (-1)) (by decide)) (by decide)), (by first | exact Or.inl rfl | (refine Or.inr ?_; subst_vars; rfl))⟩
    · --
      have i10 : Iv v7 1 80 := iv_lt2 (iv_nle c8) i4 i7 (by decide)
      refine lv_aload_n hx hb dX11_here_22 rfl (lv_at hl 0 rfl) ?_
      refine g_659 cx hw ha0 (hF0) k_f_X11_111 dX11_here_23 ?_
      refine lv_aload_n hx hb dX11_here_26 rfl (lv_at hl 0 rfl) ?_
      refine g_662 cx hw ha0 k_f_X11_120 dX11_here_27 (fun v12 e12 i12 => ?_)
      rw [show v12 = v1 from e12.trans e1.symm]
      refine o_bald cx hw hb0 (by decide) rfl (iv_in i4 (by decide)) dX11_here_30 (fun v13 e13 b13 => ?_)
      have i13 : Iv v13 (-128) 127 := b13
      refine lv_sipush (v := 255) hx hb dX11_here_31 (by decide) ?_
      refine lv_iand hx hb dX11_here_34 ?_
      refine lv_topi (fun v14 e14 => ?_)
      have i14 : Iv v14 0 255 := iv_and e14 (⟨by decide, by decide⟩ : Iv 255 255 255) (by decide)
      refine lv_goto (tgt := 39) hx hb dX11_here_35 (by decide) ?_
      rw [← hQ]
      exact o_ri cx rx hw dX11_here_39 ⟨rfl, (iv_w i14 (by decide)), (fun _ => kn_iv (e1.symm) (iv_w i4 (by decide))), (by first | exact Or.inl rfl | (refine Or.inr ?_; subst_vars; rfl))⟩
set_option maxHeartbeats 4000000 in
set_option maxRecDepth 100000 in
theorem c_X11_hereR (a0 : Nat) (ha0 : oA L τ a0 10) (b0 : Nat) (hF0 : σ.2.2.2.2 659 a0 = some b0) (hb0 : oA L τ b0 54) (hf660 : Iv (σ.1 660 a0) 0 40) : oMet l A L τ cy D K yX11_here cX11_here 1 (some .int) 0 0 [.ref a0] σ (va_Qi (fun r σ1 => σ1 = σ ∧ Iv r (-1) 255 ∧ (0 ≤ r → Iv (σ.1 662 a0) 0 39) ∧ (r = -1 ∨ r = σ.2.2.1 b0 (σ.1 662 a0).toNatClampNeg &&& 255)) (oPo A L τ cy D) A) := by
  refine oMk (by decide) (Nat.le_of_ble_eq_true rfl) rfl ?_
  intro p e s m args below meth c ls cx rx hA hw hl
  generalize hQ : MQ below _ args s 0 0 A = Q
  have hx := cx.1.1
  have hb := cx.1.2.1
  have hml := cx.1.2.2.1
  have hown := cx.1.2.2.2.1
  have hts := cx.1.2.2.2.2
  have hl : lv_has ls 1 [(0, .ref a0)] := hl
  refine lv_aload_n hx hb dX11_here_0 rfl (lv_at hl 0 rfl) ?_
  refine g_662 cx hw ha0 k_f_X11_120 dX11_here_1 (fun v1 e1 i1 => ?_)
  refine lv_aload_n hx hb dX11_here_4 rfl (lv_at hl 0 rfl) ?_
  refine g_660 cx hw ha0 k_f_X11_114 dX11_here_5 (fun v2 e2 i2 => ?_)
  rw [show v2 = (σ.1 660 a0) from e2.trans rfl]
  refine lv_icmp_ge (tgt := 38) hx hb dX11_here_8 (by decide) (fun c3 => ?_) (fun c3 => ?_)
  · --
    refine lv_iconst (v := (-1)) hx hb dX11_here_38 (by decide) ?_
    rw [← hQ]
    exact o_ri cx rx hw dX11_here_39 ⟨rfl, (iv_w (⟨by decide, by decide⟩ : Iv (-1) (-1) (-1)) (by decide)), (fun h => iv_no (iv_le1 (b' := -1) h (⟨by decide, by decide⟩ : Iv 0 0 0) (⟨by decide, by decide⟩ : Iv (-1) (-1) (-1)) (by decide)) (by decide)), (by first | exact Or.inl rfl | (refine Or.inr ?_; subst_vars; rfl))⟩
  · --
    have i4 : Iv v1 0 39 := iv_lt1 (iv_nle c3) i1 hf660 (by decide)
    have i5 : Iv (σ.1 660 a0) 1 40 := iv_lt2 (iv_nle c3) i1 hf660 (by decide)
    refine lv_aload_n hx hb dX11_here_11 rfl (lv_at hl 0 rfl) ?_
    refine g_662 cx hw ha0 k_f_X11_120 dX11_here_12 (fun v6 e6 i6 => ?_)
    rw [show v6 = v1 from e6.trans e1.symm]
    refine lv_aload_n hx hb dX11_here_15 rfl (lv_at hl 0 rfl) ?_
    refine g_661 cx hw ha0 k_f_X11_117 dX11_here_16 (fun v7 e7 i7 => ?_)
    refine lv_icmp_ge (tgt := 38) hx hb dX11_here_19 (by decide) (fun c8 => ?_) (fun c8 => ?_)
    · --
      have i9 : Iv v7 0 39 := iv_le1 c8 i7 i4 (by decide)
      refine lv_iconst (v := (-1)) hx hb dX11_here_38 (by decide) ?_
      rw [← hQ]
      exact o_ri cx rx hw dX11_here_39 ⟨rfl, (iv_w (⟨by decide, by decide⟩ : Iv (-1) (-1) (-1)) (by decide)), (fun h => iv_no (iv_le1 (b' := -1) h (⟨by decide, by decide⟩ : Iv 0 0 0) (⟨by decide, by decide⟩ : Iv (-1) (-1) (-1)) (by decide)) (by decide)), (by first | exact Or.inl rfl | (refine Or.inr ?_; subst_vars; rfl))⟩
    · --
      have i10 : Iv v7 1 80 := iv_lt2 (iv_nle c8) i4 i7 (by decide)
      refine lv_aload_n hx hb dX11_here_22 rfl (lv_at hl 0 rfl) ?_
      refine g_659 cx hw ha0 (hF0) k_f_X11_111 dX11_here_23 ?_
      refine lv_aload_n hx hb dX11_here_26 rfl (lv_at hl 0 rfl) ?_
      refine g_662 cx hw ha0 k_f_X11_120 dX11_here_27 (fun v12 e12 i12 => ?_)
      rw [show v12 = v1 from e12.trans e1.symm]
      refine o_bald cx hw hb0 (by decide) rfl (iv_in i4 (by decide)) dX11_here_30 (fun v13 e13 b13 => ?_)
      have i13 : Iv v13 (-128) 127 := b13
      refine lv_sipush (v := 255) hx hb dX11_here_31 (by decide) ?_
      refine lv_iand hx hb dX11_here_34 ?_
      refine lv_topi (fun v14 e14 => ?_)
      have i14 : Iv v14 0 255 := iv_and e14 (⟨by decide, by decide⟩ : Iv 255 255 255) (by decide)
      refine lv_goto (tgt := 39) hx hb dX11_here_35 (by decide) ?_
      rw [← hQ]
      exact o_ri cx rx hw dX11_here_39 ⟨rfl, (iv_w i14 (by decide)), (fun _ => kn_iv (e1.symm) (iv_w i4 (by decide))), (by first | exact Or.inl rfl | (refine Or.inr ?_; subst_vars; rfl))⟩
set_option maxHeartbeats 4000000 in
set_option maxRecDepth 100000 in
theorem c_X11_fine (a0 : Nat) (ha0 : oA L τ a0 10) : oMet l A L τ cy D K yX11_fine cX11_fine 1 (some .boolean) 0 0 [.ref a0] σ (va_Qi (fun r σ1 => σ1 = σ ∧ Iv r 0 1) (oPo A L τ cy D) A) := by
  refine oMk (by decide) (Nat.le_of_ble_eq_true rfl) rfl ?_
  intro p e s m args below meth c ls cx rx hA hw hl
  generalize hQ : MQ below _ args s 0 0 A = Q
  have hx := cx.1.1
  have hb := cx.1.2.1
  have hml := cx.1.2.2.1
  have hown := cx.1.2.2.2.1
  have hts := cx.1.2.2.2.2
  have hl : lv_has ls 1 [(0, .ref a0)] := hl
  refine lv_aload_n hx hb dX11_fine_0 rfl (lv_at hl 0 rfl) ?_
  refine g_663 cx hw ha0 k_f_X11_123 dX11_fine_1 (fun v1 e1 => ?_)
  refine lv_iconst (v := (-1)) hx hb dX11_fine_4 (by decide) ?_
  refine lv_icmp_ne (tgt := 12) hx hb dX11_fine_5 (by decide) (fun c2 => ?_) (fun c2 => ?_)
  · --
    refine lv_iconst (v := 0) hx hb dX11_fine_12 (by decide) ?_
    rw [← hQ]
    exact o_rz cx rx hw (iv_nz01 (iv_w (⟨by decide, by decide⟩ : Iv 0 0 0) (by decide))) dX11_fine_13 ⟨rfl, (iv_w (⟨by decide, by decide⟩ : Iv 0 0 0) (by decide))⟩
  · --
    have i3 : Iv v1 (-1) (-1) := iv_eq1 c2 (iv_top v1) (⟨by decide, by decide⟩ : Iv (-1) (-1) (-1)) (by decide)
    refine lv_iconst (v := 1) hx hb dX11_fine_8 (by decide) ?_
    refine lv_goto (tgt := 13) hx hb dX11_fine_9 (by decide) ?_
    rw [← hQ]
    exact o_rz cx rx hw (iv_nz01 (iv_w (⟨by decide, by decide⟩ : Iv 1 1 1) (by decide))) dX11_fine_13 ⟨rfl, (iv_w (⟨by decide, by decide⟩ : Iv 1 1 1) (by decide))⟩
abbrev fs_X11_fault : List Nat := [663]
abbrev ts_X11_fault : List Nat := []
set_option maxHeartbeats 4000000 in
set_option maxRecDepth 100000 in
theorem c_X11_fault (a0 : Nat) (ha0 : oA L τ a0 10) (a1 : Int32) : oMet l A L τ cy D K yX11_fault cX11_fault 2 none 1 20 [.ref a0, .int a1] σ (va_Qv (fun σ1 => oFr τ fs_X11_fault ts_X11_fault σ σ1) (oPo A L τ cy D) A) := by
  refine oMk (by decide) (Nat.le_of_ble_eq_true rfl) rfl ?_
  intro p e s m args below meth c ls cx rx hA hw hl
  generalize hQ : MQ below _ args s 0 0 A = Q
  have hx := cx.1.1
  have hb := cx.1.2.1
  have hml := cx.1.2.2.1
  have hown := cx.1.2.2.2.1
  have hts := cx.1.2.2.2.2
  have hl : lv_has ls 2 [(0, .ref a0), (1, .int a1)] := hl
  have fr : oFr τ fs_X11_fault ts_X11_fault σ σ := oFr_rf
  refine lv_aload_n hx hb dX11_fault_0 rfl (lv_at hl 0 rfl) ?_
  refine o_ci hw (oRunV cx hA hw q_X11_fine k_m_X11_126 rfl ha0 (by decide) (As := []) (c_X11_fine a0 ha0) (by decide) rfl hl.1 rfl (Nat.le_of_ble_eq_true rfl) dX11_fault_1 (by decide)) (fun v2 σ1 H locs hp hw => ?_)
  obtain ⟨p2_0, p2_1⟩ := hp
  rw [p2_0] at hw
  refine lv_if_eq (tgt := 12) hx hb dX11_fault_4 (by decide) (fun c3 => ?_) (fun c3 => ?_)
  · --
    have i4 : Iv v2 0 0 := iv_eq1 c3 p2_1 (⟨by decide, by decide⟩ : Iv 0 0 0) (by decide)
    rw [← hQ]
    exact o_rv cx rx hw dX11_fault_12 fr
  · --
    have i5 : Iv v2 1 1 := iv_ne1 c3 p2_1 (⟨by decide, by decide⟩ : Iv 0 0 0) (by decide)
    refine lv_aload_n hx hb dX11_fault_7 rfl (lv_at hl 0 rfl) ?_
    refine lv_iload_n hx hb dX11_fault_8 rfl (lv_at hl 1 rfl) ?_
    refine p_663 cx hw ha0 k_f_X11_123 dX11_fault_9 (fun σ6 H locs eσ6 hw => ?_)
    have fr := oFr_i fr eσ6 (by decide)
    rw [← hQ]
    exact o_rv cx rx hw dX11_fault_12 fr
abbrev fs_X11_passesT : List Nat := [662]
abbrev ts_X11_passesT : List Nat := []
set_option maxHeartbeats 4000000 in
set_option maxRecDepth 100000 in
theorem c_X11_passesT (a0 : Nat) (ha0 : oA L τ a0 10) (a1 : Int32) (ia1 : Iv a1 0 65535) (b0 : Nat) (hF0 : σ.2.2.2.2 659 a0 = some b0) (hb0 : oA L τ b0 51) (hf660 : Iv (σ.1 660 a0) 0 80) : oMet l A L τ cy D K yX11_passes cX11_passes 2 (some .boolean) 1 20 [.ref a0, .int a1] σ (va_Qi (fun r σ1 => oFr τ fs_X11_passesT ts_X11_passesT σ σ1 ∧ Iv r 0 1 ∧ (¬ r = 0 → Iv (σ1.1 662 a0) 1 80)) (oPo A L τ cy D) A) := by
  refine oMk (by decide) (Nat.le_of_ble_eq_true rfl) rfl ?_
  intro p e s m args below meth c ls cx rx hA hw hl
  generalize hQ : MQ below _ args s 0 0 A = Q
  have hx := cx.1.1
  have hb := cx.1.2.1
  have hml := cx.1.2.2.1
  have hown := cx.1.2.2.2.1
  have hts := cx.1.2.2.2.2
  have hl : lv_has ls 2 [(0, .ref a0), (1, .int a1)] := hl
  have fr : oFr τ fs_X11_passesT ts_X11_passesT σ σ := oFr_rf
  refine lv_aload_n hx hb dX11_passes_0 rfl (lv_at hl 0 rfl) ?_
  refine o_ci hw (oRunV cx hA hw q_X11_fine k_m_X11_126 rfl ha0 (by decide) (As := []) (c_X11_fine a0 ha0) (by decide) rfl hl.1 rfl (Nat.le_of_ble_eq_true rfl) dX11_passes_1 (by decide)) (fun v2 σ1 H locs hp hw => ?_)
  obtain ⟨p2_0, p2_1⟩ := hp
  rw [p2_0] at hw
  refine lv_if_eq (tgt := 15) hx hb dX11_passes_4 (by decide) (fun c3 => ?_) (fun c3 => ?_)
  · --
    have i4 : Iv v2 0 0 := iv_eq1 c3 p2_1 (⟨by decide, by decide⟩ : Iv 0 0 0) (by decide)
    refine lv_iconst (v := 0) hx hb dX11_passes_15 (by decide) ?_
    rw [← hQ]
    exact o_rz cx rx hw (iv_nz01 (iv_w (⟨by decide, by decide⟩ : Iv 0 0 0) (by decide))) dX11_passes_16 ⟨fr, (iv_w (⟨by decide, by decide⟩ : Iv 0 0 0) (by decide)), (fun h => absurd rfl h)⟩
  · --
    have i5 : Iv v2 1 1 := iv_ne1 c3 p2_1 (⟨by decide, by decide⟩ : Iv 0 0 0) (by decide)
    refine lv_aload_n hx hb dX11_passes_7 rfl (lv_at hl 0 rfl) ?_
    refine o_ci hw (oRunV cx hA hw q_X11_here k_m_X11_130 rfl ha0 (by decide) (As := []) (c_X11_hereT a0 ha0 b0 (hF0) hb0 (kn_iv (rfl) (iv_w hf660 (by decide)))) (by decide) rfl hl.1 rfl (Nat.le_of_ble_eq_true rfl) dX11_passes_8 (by decide)) (fun v7 σ6 H locs hp hw => ?_)
    obtain ⟨p7_0, p7_1, p7_2, p7_3⟩ := hp
    rw [p7_0] at hw
    have i8 : Iv (σ.1 662 a0) 0 200 := o_fb (j := 662) hw ha0 rfl
    refine lv_iload_n hx hb dX11_passes_11 rfl (lv_at hl 1 rfl) ?_
    refine lv_icmp_eq (tgt := 17) hx hb dX11_passes_12 (by decide) (fun c9 => ?_) (fun c9 => ?_)
    · --
      have i10 : Iv v7 0 255 := iv_eq1 c9 p7_1 ia1 (by decide)
      have i11 : Iv (σ.1 662 a0) 0 79 := (fun h => kn_iv2 (rfl) (p7_2 h)) (ge0_iv i10 (by decide))
      have i12 : Iv a1 0 255 := iv_eq1 (Eq.symm c9) ia1 p7_1 (by decide)
      refine lv_aload_n hx hb dX11_passes_17 rfl (lv_at hl 0 rfl) ?_
      refine lv_dup hx hb dX11_passes_18 rfl ?_
      refine g_662 cx hw ha0 k_f_X11_120 dX11_passes_19 (fun v13 e13 i13 => ?_)
      rw [show v13 = (σ.1 662 a0) from e13.trans rfl]
      refine lv_iconst (v := 1) hx hb dX11_passes_22 (by decide) ?_
      refine lv_iadd hx hb dX11_passes_23 ?_
      refine lv_topi (fun v14 e14 => ?_)
      have i14 : Iv v14 1 80 := iv_add e14 i11 (⟨by decide, by decide⟩ : Iv 1 1 1) (by decide)
      have x14 : v14.toInt = (σ.1 662 a0).toInt + 1 := ex_add e14 i11 (⟨by decide, by decide⟩ : Iv 1 1 1) (by decide)
      refine p_662 cx hw ha0 (iv_w i14 (by decide)) k_f_X11_120 dX11_passes_24 (fun σ15 H locs eσ15 hw => ?_)
      have fr := oFr_i fr eσ15 (by decide)
      refine lv_iconst (v := 1) hx hb dX11_passes_27 (by decide) ?_
      rw [← hQ]
      exact o_rz cx rx hw (iv_nz01 (iv_w (⟨by decide, by decide⟩ : Iv 1 1 1) (by decide))) dX11_passes_28 ⟨fr, (iv_w (⟨by decide, by decide⟩ : Iv 1 1 1) (by decide)), (fun _ => kn_iv ((kp_s eσ15)) (iv_w i14 (by decide)))⟩
    · --
      refine lv_iconst (v := 0) hx hb dX11_passes_15 (by decide) ?_
      rw [← hQ]
      exact o_rz cx rx hw (iv_nz01 (iv_w (⟨by decide, by decide⟩ : Iv 0 0 0) (by decide))) dX11_passes_16 ⟨fr, (iv_w (⟨by decide, by decide⟩ : Iv 0 0 0) (by decide)), (fun h => absurd rfl h)⟩
abbrev fs_X11_passesR : List Nat := [662]
abbrev ts_X11_passesR : List Nat := []
set_option maxHeartbeats 4000000 in
set_option maxRecDepth 100000 in
theorem c_X11_passesR (a0 : Nat) (ha0 : oA L τ a0 10) (a1 : Int32) (ia1 : Iv a1 0 65535) (b0 : Nat) (hF0 : σ.2.2.2.2 659 a0 = some b0) (hb0 : oA L τ b0 54) (hf660 : Iv (σ.1 660 a0) 0 40) : oMet l A L τ cy D K yX11_passes cX11_passes 2 (some .boolean) 1 20 [.ref a0, .int a1] σ (va_Qi (fun r σ1 => oFr τ fs_X11_passesR ts_X11_passesR σ σ1 ∧ Iv r 0 1 ∧ (¬ r = 0 → Iv (σ1.1 662 a0) 1 40)) (oPo A L τ cy D) A) := by
  refine oMk (by decide) (Nat.le_of_ble_eq_true rfl) rfl ?_
  intro p e s m args below meth c ls cx rx hA hw hl
  generalize hQ : MQ below _ args s 0 0 A = Q
  have hx := cx.1.1
  have hb := cx.1.2.1
  have hml := cx.1.2.2.1
  have hown := cx.1.2.2.2.1
  have hts := cx.1.2.2.2.2
  have hl : lv_has ls 2 [(0, .ref a0), (1, .int a1)] := hl
  have fr : oFr τ fs_X11_passesR ts_X11_passesR σ σ := oFr_rf
  refine lv_aload_n hx hb dX11_passes_0 rfl (lv_at hl 0 rfl) ?_
  refine o_ci hw (oRunV cx hA hw q_X11_fine k_m_X11_126 rfl ha0 (by decide) (As := []) (c_X11_fine a0 ha0) (by decide) rfl hl.1 rfl (Nat.le_of_ble_eq_true rfl) dX11_passes_1 (by decide)) (fun v2 σ1 H locs hp hw => ?_)
  obtain ⟨p2_0, p2_1⟩ := hp
  rw [p2_0] at hw
  refine lv_if_eq (tgt := 15) hx hb dX11_passes_4 (by decide) (fun c3 => ?_) (fun c3 => ?_)
  · --
    have i4 : Iv v2 0 0 := iv_eq1 c3 p2_1 (⟨by decide, by decide⟩ : Iv 0 0 0) (by decide)
    refine lv_iconst (v := 0) hx hb dX11_passes_15 (by decide) ?_
    rw [← hQ]
    exact o_rz cx rx hw (iv_nz01 (iv_w (⟨by decide, by decide⟩ : Iv 0 0 0) (by decide))) dX11_passes_16 ⟨fr, (iv_w (⟨by decide, by decide⟩ : Iv 0 0 0) (by decide)), (fun h => absurd rfl h)⟩
  · --
    have i5 : Iv v2 1 1 := iv_ne1 c3 p2_1 (⟨by decide, by decide⟩ : Iv 0 0 0) (by decide)
    refine lv_aload_n hx hb dX11_passes_7 rfl (lv_at hl 0 rfl) ?_
    refine o_ci hw (oRunV cx hA hw q_X11_here k_m_X11_130 rfl ha0 (by decide) (As := []) (c_X11_hereR a0 ha0 b0 (hF0) hb0 (kn_iv (rfl) (iv_w hf660 (by decide)))) (by decide) rfl hl.1 rfl (Nat.le_of_ble_eq_true rfl) dX11_passes_8 (by decide)) (fun v7 σ6 H locs hp hw => ?_)
    obtain ⟨p7_0, p7_1, p7_2, p7_3⟩ := hp
    rw [p7_0] at hw
    have i8 : Iv (σ.1 662 a0) 0 200 := o_fb (j := 662) hw ha0 rfl
    refine lv_iload_n hx hb dX11_passes_11 rfl (lv_at hl 1 rfl) ?_
    refine lv_icmp_eq (tgt := 17) hx hb dX11_passes_12 (by decide) (fun c9 => ?_) (fun c9 => ?_)
    · --
      have i10 : Iv v7 0 255 := iv_eq1 c9 p7_1 ia1 (by decide)
      have i11 : Iv (σ.1 662 a0) 0 39 := (fun h => kn_iv2 (rfl) (p7_2 h)) (ge0_iv i10 (by decide))
      have i12 : Iv a1 0 255 := iv_eq1 (Eq.symm c9) ia1 p7_1 (by decide)
      refine lv_aload_n hx hb dX11_passes_17 rfl (lv_at hl 0 rfl) ?_
      refine lv_dup hx hb dX11_passes_18 rfl ?_
      refine g_662 cx hw ha0 k_f_X11_120 dX11_passes_19 (fun v13 e13 i13 => ?_)
      rw [show v13 = (σ.1 662 a0) from e13.trans rfl]
      refine lv_iconst (v := 1) hx hb dX11_passes_22 (by decide) ?_
      refine lv_iadd hx hb dX11_passes_23 ?_
      refine lv_topi (fun v14 e14 => ?_)
      have i14 : Iv v14 1 40 := iv_add e14 i11 (⟨by decide, by decide⟩ : Iv 1 1 1) (by decide)
      have x14 : v14.toInt = (σ.1 662 a0).toInt + 1 := ex_add e14 i11 (⟨by decide, by decide⟩ : Iv 1 1 1) (by decide)
      refine p_662 cx hw ha0 (iv_w i14 (by decide)) k_f_X11_120 dX11_passes_24 (fun σ15 H locs eσ15 hw => ?_)
      have fr := oFr_i fr eσ15 (by decide)
      refine lv_iconst (v := 1) hx hb dX11_passes_27 (by decide) ?_
      rw [← hQ]
      exact o_rz cx rx hw (iv_nz01 (iv_w (⟨by decide, by decide⟩ : Iv 1 1 1) (by decide))) dX11_passes_28 ⟨fr, (iv_w (⟨by decide, by decide⟩ : Iv 1 1 1) (by decide)), (fun _ => kn_iv ((kp_s eσ15)) (iv_w i14 (by decide)))⟩
    · --
      refine lv_iconst (v := 0) hx hb dX11_passes_15 (by decide) ?_
      rw [← hQ]
      exact o_rz cx rx hw (iv_nz01 (iv_w (⟨by decide, by decide⟩ : Iv 0 0 0) (by decide))) dX11_passes_16 ⟨fr, (iv_w (⟨by decide, by decide⟩ : Iv 0 0 0) (by decide)), (fun h => absurd rfl h)⟩
abbrev fs_X11_needT : List Nat := [662, 663]
abbrev ts_X11_needT : List Nat := []
set_option maxHeartbeats 4000000 in
set_option maxRecDepth 100000 in
theorem c_X11_needT (a0 : Nat) (ha0 : oA L τ a0 10) (a1 : Int32) (ia1 : Iv a1 0 65535) (b0 : Nat) (hF0 : σ.2.2.2.2 659 a0 = some b0) (hb0 : oA L τ b0 51) (hf660 : Iv (σ.1 660 a0) 0 80) : oMet l A L τ cy D K yX11_need cX11_need 2 none 2 41 [.ref a0, .int a1] σ (va_Qv (fun σ1 => oFr τ fs_X11_needT ts_X11_needT σ σ1) (oPo A L τ cy D) A) := by
  refine oMk (by decide) (Nat.le_of_ble_eq_true rfl) rfl ?_
  intro p e s m args below meth c ls cx rx hA hw hl
  generalize hQ : MQ below _ args s 0 0 A = Q
  have hx := cx.1.1
  have hb := cx.1.2.1
  have hml := cx.1.2.2.1
  have hown := cx.1.2.2.2.1
  have hts := cx.1.2.2.2.2
  have hl : lv_has ls 2 [(0, .ref a0), (1, .int a1)] := hl
  have fr : oFr τ fs_X11_needT ts_X11_needT σ σ := oFr_rf
  refine lv_aload_n hx hb dX11_need_0 rfl (lv_at hl 0 rfl) ?_
  refine lv_iload_n hx hb dX11_need_1 rfl (lv_at hl 1 rfl) ?_
  refine o_ci hw (oRunV cx hA hw q_X11_passes k_m_X11_134 rfl ha0 (by decide) (As := [.int a1]) (c_X11_passesT a0 ha0 a1 (iv_w ia1 (by decide)) b0 (hF0) hb0 (kn_iv (rfl) (iv_w hf660 (by decide)))) (by decide) rfl hl.1 rfl (Nat.le_of_ble_eq_true rfl) dX11_need_2 (by decide)) (fun v2 σ1 H locs hp hw => ?_)
  obtain ⟨p2_0, p2_1, p2_2⟩ := hp
  have fr := oFr_tr fr p2_0 (by decide)
  have i3 : Iv (σ1.1 662 a0) 0 200 := o_fb (j := 662) hw ha0 rfl
  refine lv_if_ne (tgt := 16) hx hb dX11_need_5 (by decide) (fun c4 => ?_) (fun c4 => ?_)
  · --
    have i5 : Iv v2 1 1 := iv_ne1 c4 p2_1 (⟨by decide, by decide⟩ : Iv 0 0 0) (by decide)
    have i6 : Iv (σ1.1 662 a0) 1 80 := (fun h => kn_iv2 (rfl) (p2_2 h)) c4
    rw [← hQ]
    exact o_rv cx rx hw dX11_need_16 fr
  · --
    have i7 : Iv v2 0 0 := iv_eq1 c4 p2_1 (⟨by decide, by decide⟩ : Iv 0 0 0) (by decide)
    refine lv_aload_n hx hb dX11_need_8 rfl (lv_at hl 0 rfl) ?_
    refine lv_aload_n hx hb dX11_need_9 rfl (lv_at hl 0 rfl) ?_
    refine g_662 cx hw ha0 k_f_X11_120 dX11_need_10 (fun v8 e8 i8 => ?_)
    rw [show v8 = (σ1.1 662 a0) from e8.trans rfl]
    refine o_cv hw (oRunV cx hA hw q_X11_fault k_m_X11_138 rfl ha0 (by decide) (As := [.int (σ1.1 662 a0)]) (c_X11_fault a0 ha0 (σ1.1 662 a0)) (by decide) rfl hl.1 rfl (Nat.le_of_ble_eq_true rfl) dX11_need_13 (by decide)) (fun σ9 H locs hp hw => ?_)
    have p10_0 := hp
    have fr := oFr_tr fr p10_0 (by decide)
    rw [← hQ]
    exact o_rv cx rx hw dX11_need_16 fr
abbrev fs_X11_needR : List Nat := [662, 663]
abbrev ts_X11_needR : List Nat := []
set_option maxHeartbeats 4000000 in
set_option maxRecDepth 100000 in
theorem c_X11_needR (a0 : Nat) (ha0 : oA L τ a0 10) (a1 : Int32) (ia1 : Iv a1 0 65535) (b0 : Nat) (hF0 : σ.2.2.2.2 659 a0 = some b0) (hb0 : oA L τ b0 54) (hf660 : Iv (σ.1 660 a0) 0 40) : oMet l A L τ cy D K yX11_need cX11_need 2 none 2 41 [.ref a0, .int a1] σ (va_Qv (fun σ1 => oFr τ fs_X11_needR ts_X11_needR σ σ1) (oPo A L τ cy D) A) := by
  refine oMk (by decide) (Nat.le_of_ble_eq_true rfl) rfl ?_
  intro p e s m args below meth c ls cx rx hA hw hl
  generalize hQ : MQ below _ args s 0 0 A = Q
  have hx := cx.1.1
  have hb := cx.1.2.1
  have hml := cx.1.2.2.1
  have hown := cx.1.2.2.2.1
  have hts := cx.1.2.2.2.2
  have hl : lv_has ls 2 [(0, .ref a0), (1, .int a1)] := hl
  have fr : oFr τ fs_X11_needR ts_X11_needR σ σ := oFr_rf
  refine lv_aload_n hx hb dX11_need_0 rfl (lv_at hl 0 rfl) ?_
  refine lv_iload_n hx hb dX11_need_1 rfl (lv_at hl 1 rfl) ?_
  refine o_ci hw (oRunV cx hA hw q_X11_passes k_m_X11_134 rfl ha0 (by decide) (As := [.int a1]) (c_X11_passesR a0 ha0 a1 (iv_w ia1 (by decide)) b0 (hF0) hb0 (kn_iv (rfl) (iv_w hf660 (by decide)))) (by decide) rfl hl.1 rfl (Nat.le_of_ble_eq_true rfl) dX11_need_2 (by decide)) (fun v2 σ1 H locs hp hw => ?_)
  obtain ⟨p2_0, p2_1, p2_2⟩ := hp
  have fr := oFr_tr fr p2_0 (by decide)
  have i3 : Iv (σ1.1 662 a0) 0 200 := o_fb (j := 662) hw ha0 rfl
  refine lv_if_ne (tgt := 16) hx hb dX11_need_5 (by decide) (fun c4 => ?_) (fun c4 => ?_)
  · --
    have i5 : Iv v2 1 1 := iv_ne1 c4 p2_1 (⟨by decide, by decide⟩ : Iv 0 0 0) (by decide)
    have i6 : Iv (σ1.1 662 a0) 1 40 := (fun h => kn_iv2 (rfl) (p2_2 h)) c4
    rw [← hQ]
    exact o_rv cx rx hw dX11_need_16 fr
  · --
    have i7 : Iv v2 0 0 := iv_eq1 c4 p2_1 (⟨by decide, by decide⟩ : Iv 0 0 0) (by decide)
    refine lv_aload_n hx hb dX11_need_8 rfl (lv_at hl 0 rfl) ?_
    refine lv_aload_n hx hb dX11_need_9 rfl (lv_at hl 0 rfl) ?_
    refine g_662 cx hw ha0 k_f_X11_120 dX11_need_10 (fun v8 e8 i8 => ?_)
    rw [show v8 = (σ1.1 662 a0) from e8.trans rfl]
    refine o_cv hw (oRunV cx hA hw q_X11_fault k_m_X11_138 rfl ha0 (by decide) (As := [.int (σ1.1 662 a0)]) (c_X11_fault a0 ha0 (σ1.1 662 a0)) (by decide) rfl hl.1 rfl (Nat.le_of_ble_eq_true rfl) dX11_need_13 (by decide)) (fun σ9 H locs hp hw => ?_)
    have p10_0 := hp
    have fr := oFr_tr fr p10_0 (by decide)
    rw [← hQ]
    exact o_rv cx rx hw dX11_need_16 fr
abbrev fs_X11_oneOfT : List Nat := [662, 663]
abbrev ts_X11_oneOfT : List Nat := []
set_option maxHeartbeats 4000000 in
set_option maxRecDepth 100000 in
theorem c_X11_oneOfT (a0 : Nat) (ha0 : oA L τ a0 10) (a1 : Int32) (ia1 : Iv a1 48 97) (a2 : Int32) (ia2 : Iv a2 0 10) (b0 : Nat) (hF0 : σ.2.2.2.2 659 a0 = some b0) (hb0 : oA L τ b0 51) (hf660 : Iv (σ.1 660 a0) 0 80) : oMet l A L τ cy D K yX11_oneOf cX11_oneOf 3 (some .int) 2 41 [.ref a0, .int a1, .int a2] σ (va_Qi (fun r σ1 => oFr τ fs_X11_oneOfT ts_X11_oneOfT σ σ1 ∧ Iv r (-225) 79 ∧ (0 ≤ r.toInt ∧ (r.toInt = 0 ∨ r.toInt < a2.toInt))) (oPo A L τ cy D) A) := by
  refine oMk (by decide) (Nat.le_of_ble_eq_true rfl) rfl ?_
  intro p e s m args below meth c ls cx rx hA hw hl
  generalize hQ : MQ below _ args s 0 0 A = Q
  have hx := cx.1.1
  have hb := cx.1.2.1
  have hml := cx.1.2.2.1
  have hown := cx.1.2.2.2.1
  have hts := cx.1.2.2.2.2
  have hl : lv_has ls 3 [(0, .ref a0), (1, .int a1), (2, .int a2)] := hl
  have fr : oFr τ fs_X11_oneOfT ts_X11_oneOfT σ σ := oFr_rf
  refine lv_aload_n hx hb dX11_oneOf_0 rfl (lv_at hl 0 rfl) ?_
  refine o_ci hw (oRunV cx hA hw q_X11_fine k_m_X11_126 rfl ha0 (by decide) (As := []) (c_X11_fine a0 ha0) (by decide) rfl hl.1 rfl (Nat.le_of_ble_eq_true rfl) dX11_oneOf_1 (by decide)) (fun v2 σ1 H locs hp hw => ?_)
  obtain ⟨p2_0, p2_1⟩ := hp
  rw [p2_0] at hw
  refine lv_if_ne (tgt := 9) hx hb dX11_oneOf_4 (by decide) (fun c3 => ?_) (fun c3 => ?_)
  · --
    have i4 : Iv v2 1 1 := iv_ne1 c3 p2_1 (⟨by decide, by decide⟩ : Iv 0 0 0) (by decide)
    refine lv_aload_n hx hb dX11_oneOf_9 rfl (lv_at hl 0 rfl) ?_
    refine o_ci hw (oRunV cx hA hw q_X11_here k_m_X11_130 rfl ha0 (by decide) (As := []) (c_X11_hereT a0 ha0 b0 (hF0) hb0 (kn_iv (rfl) (iv_w hf660 (by decide)))) (by decide) rfl hl.1 rfl (Nat.le_of_ble_eq_true rfl) dX11_oneOf_10 (by decide)) (fun v6 σ5 H locs hp hw => ?_)
    obtain ⟨p6_0, p6_1, p6_2, p6_3⟩ := hp
    rw [p6_0] at hw
    have i7 : Iv (σ.1 662 a0) 0 200 := o_fb (j := 662) hw ha0 rfl
    refine lv_iload_n hx hb dX11_oneOf_13 rfl (lv_at hl 1 rfl) ?_
    refine lv_iload_n hx hb dX11_oneOf_14 rfl (lv_at hl 1 rfl) ?_
    refine lv_iload_n hx hb dX11_oneOf_15 rfl (lv_at hl 2 rfl) ?_
    refine lv_iadd hx hb dX11_oneOf_16 ?_
    refine lv_topi (fun v8 e8 => ?_)
    have i8 : Iv v8 48 107 := iv_add e8 ia1 ia2 (by decide)
    refine lv_iconst (v := 1) hx hb dX11_oneOf_17 (by decide) ?_
    refine lv_isub hx hb dX11_oneOf_18 ?_
    refine lv_topi (fun v9 e9 => ?_)
    have i9 : Iv v9 47 106 := iv_sub e9 i8 (⟨by decide, by decide⟩ : Iv 1 1 1) (by decide)
    have x9 : v9.toInt = v8.toInt + (-1) := ex_sub e9 i8 (⟨by decide, by decide⟩ : Iv 1 1 1) (by decide)
    refine o_ci hw (oRunS cx hA hw q_X11_in k_m_X11_95 (As := [.int v6, .int a1, .int v9]) (c_X11_in v6 a1 v9) (by decide) rfl hl.1 rfl (Nat.le_of_ble_eq_true rfl) dX11_oneOf_19 (by decide)) (fun v11 σ10 H locs hp hw => ?_)
    obtain ⟨p11_0, p11_1, p11_2⟩ := hp
    rw [p11_0] at hw
    refine lv_if_ne (tgt := 35) hx hb dX11_oneOf_22 (by decide) (fun c12 => ?_) (fun c12 => ?_)
    · --
      have i13 : Iv v11 1 1 := iv_ne1 c12 p11_1 (⟨by decide, by decide⟩ : Iv 0 0 0) (by decide)
      have l14 : a1.toInt ≤ v6.toInt + 0 := le_of (p11_2 c12).1
      have l15 : v6.toInt ≤ v9.toInt + 0 := le_of (p11_2 c12).2
      have i16 : Iv v6 48 106 := (fun h => iv_rel (p11_2 h) ia1 i9) c12
      have i17 : Iv (σ.1 662 a0) 0 79 := (fun h => kn_iv2 (rfl) (p6_2 h)) (ge0_iv i16 (by decide))
      refine lv_aload_n hx hb dX11_oneOf_35 rfl (lv_at hl 0 rfl) ?_
      refine lv_dup hx hb dX11_oneOf_36 rfl ?_
      refine g_662 cx hw ha0 k_f_X11_120 dX11_oneOf_37 (fun v18 e18 i18 => ?_)
      rw [show v18 = (σ.1 662 a0) from e18.trans rfl]
      refine lv_iconst (v := 1) hx hb dX11_oneOf_40 (by decide) ?_
      refine lv_iadd hx hb dX11_oneOf_41 ?_
      refine lv_topi (fun v19 e19 => ?_)
      have i19 : Iv v19 1 80 := iv_add e19 i17 (⟨by decide, by decide⟩ : Iv 1 1 1) (by decide)
      have x19 : v19.toInt = (σ.1 662 a0).toInt + 1 := ex_add e19 i17 (⟨by decide, by decide⟩ : Iv 1 1 1) (by decide)
      refine p_662 cx hw ha0 (iv_w i19 (by decide)) k_f_X11_120 dX11_oneOf_42 (fun σ20 H locs eσ20 hw => ?_)
      have fr := oFr_i fr eσ20 (by decide)
      refine lv_aload_n hx hb dX11_oneOf_45 rfl (lv_at hl 0 rfl) ?_
      refine g_659 cx hw ha0 (((kr_i eσ20).trans hF0)) k_f_X11_111 dX11_oneOf_46 ?_
      refine lv_aload_n hx hb dX11_oneOf_49 rfl (lv_at hl 0 rfl) ?_
      refine g_662 cx hw ha0 k_f_X11_120 dX11_oneOf_50 (fun v22 e22 i22 => ?_)
      rw [show v22 = v19 from e22.trans (kp_s eσ20)]
      refine lv_iconst (v := 1) hx hb dX11_oneOf_53 (by decide) ?_
      refine lv_isub hx hb dX11_oneOf_54 ?_
      refine lv_topi (fun v23 e23 => ?_)
      have i23 : Iv v23 0 79 := iv_sub e23 i19 (⟨by decide, by decide⟩ : Iv 1 1 1) (by decide)
      have x23 : v23.toInt = v19.toInt + (-1) := ex_sub e23 i19 (⟨by decide, by decide⟩ : Iv 1 1 1) (by decide)
      refine o_bald cx hw hb0 (by decide) rfl (iv_in i23 (by decide)) dX11_oneOf_55 (fun v24 e24 b24 => ?_)
      have i24 : Iv v24 (-128) 127 := b24
      refine lv_iload_n hx hb dX11_oneOf_56 rfl (lv_at hl 1 rfl) ?_
      refine lv_isub hx hb dX11_oneOf_57 ?_
      refine lv_topi (fun v25 e25 => ?_)
      have i25 : Iv v25 (-225) 79 := iv_sub e25 i24 ia1 (by decide)
      rw [← hQ]
      exact o_ri cx rx hw dX11_oneOf_58 ⟨fr, (iv_w i25 (by decide)), (by have q1 : v23 = σ.1 662 a0 := Int32.toInt_inj.mp (by omega); have q2 : v24 = σ.2.2.1 b0 (σ.1 662 a0).toNatClampNeg := (by rw [e24, q1, eσ20]); have q3 : v6 = v24 &&& 255 := p6_3.elim (fun h => absurd i16.1 (by rw [h]; decide)) (fun h => h.trans (by rw [q2])); have q4 := by_and q3 i24; have q5 := i16.2; have q6 := i24.1; have q7 := ex_sub e25 i24 ia1 (by decide); have q8 := ex_add e8 ia1 ia2 (by decide); exact ⟨by omega, by omega⟩)⟩
    · --
      have i26 : Iv v11 0 0 := iv_eq1 c12 p11_1 (⟨by decide, by decide⟩ : Iv 0 0 0) (by decide)
      refine lv_aload_n hx hb dX11_oneOf_25 rfl (lv_at hl 0 rfl) ?_
      refine lv_aload_n hx hb dX11_oneOf_26 rfl (lv_at hl 0 rfl) ?_
      refine g_662 cx hw ha0 k_f_X11_120 dX11_oneOf_27 (fun v27 e27 i27 => ?_)
      rw [show v27 = (σ.1 662 a0) from e27.trans rfl]
      refine o_cv hw (oRunV cx hA hw q_X11_fault k_m_X11_138 rfl ha0 (by decide) (As := [.int (σ.1 662 a0)]) (c_X11_fault a0 ha0 (σ.1 662 a0)) (by decide) rfl hl.1 rfl (Nat.le_of_ble_eq_true rfl) dX11_oneOf_30 (by decide)) (fun σ28 H locs hp hw => ?_)
      have p29_0 := hp
      have fr := oFr_tr fr p29_0 (by decide)
      refine lv_iconst (v := 0) hx hb dX11_oneOf_33 (by decide) ?_
      rw [← hQ]
      exact o_ri cx rx hw dX11_oneOf_34 ⟨fr, (iv_w (⟨by decide, by decide⟩ : Iv 0 0 0) (by decide)), ⟨by decide, Or.inl (by decide)⟩⟩
  · --
    have i30 : Iv v2 0 0 := iv_eq1 c3 p2_1 (⟨by decide, by decide⟩ : Iv 0 0 0) (by decide)
    refine lv_iconst (v := 0) hx hb dX11_oneOf_7 (by decide) ?_
    rw [← hQ]
    exact o_ri cx rx hw dX11_oneOf_8 ⟨fr, (iv_w (⟨by decide, by decide⟩ : Iv 0 0 0) (by decide)), ⟨by decide, Or.inl (by decide)⟩⟩
abbrev fs_X11_oneOfR : List Nat := [662, 663]
abbrev ts_X11_oneOfR : List Nat := []
set_option maxHeartbeats 4000000 in
set_option maxRecDepth 100000 in
theorem c_X11_oneOfR (a0 : Nat) (ha0 : oA L τ a0 10) (a1 : Int32) (ia1 : Iv a1 48 97) (a2 : Int32) (ia2 : Iv a2 0 10) (b0 : Nat) (hF0 : σ.2.2.2.2 659 a0 = some b0) (hb0 : oA L τ b0 54) (hf660 : Iv (σ.1 660 a0) 0 40) : oMet l A L τ cy D K yX11_oneOf cX11_oneOf 3 (some .int) 2 41 [.ref a0, .int a1, .int a2] σ (va_Qi (fun r σ1 => oFr τ fs_X11_oneOfR ts_X11_oneOfR σ σ1 ∧ Iv r (-225) 79 ∧ (0 ≤ r.toInt ∧ (r.toInt = 0 ∨ r.toInt < a2.toInt))) (oPo A L τ cy D) A) := by
  refine oMk (by decide) (Nat.le_of_ble_eq_true rfl) rfl ?_
  intro p e s m args below meth c ls cx rx hA hw hl
  generalize hQ : MQ below _ args s 0 0 A = Q
  have hx := cx.1.1
  have hb := cx.1.2.1
  have hml := cx.1.2.2.1
  have hown := cx.1.2.2.2.1
  have hts := cx.1.2.2.2.2
  have hl : lv_has ls 3 [(0, .ref a0), (1, .int a1), (2, .int a2)] := hl
  have fr : oFr τ fs_X11_oneOfR ts_X11_oneOfR σ σ := oFr_rf
  refine lv_aload_n hx hb dX11_oneOf_0 rfl (lv_at hl 0 rfl) ?_
  refine o_ci hw (oRunV cx hA hw q_X11_fine k_m_X11_126 rfl ha0 (by decide) (As := []) (c_X11_fine a0 ha0) (by decide) rfl hl.1 rfl (Nat.le_of_ble_eq_true rfl) dX11_oneOf_1 (by decide)) (fun v2 σ1 H locs hp hw => ?_)
  obtain ⟨p2_0, p2_1⟩ := hp
  rw [p2_0] at hw
  refine lv_if_ne (tgt := 9) hx hb dX11_oneOf_4 (by decide) (fun c3 => ?_) (fun c3 => ?_)
  · --
    have i4 : Iv v2 1 1 := iv_ne1 c3 p2_1 (⟨by decide, by decide⟩ : Iv 0 0 0) (by decide)
    refine lv_aload_n hx hb dX11_oneOf_9 rfl (lv_at hl 0 rfl) ?_
    refine o_ci hw (oRunV cx hA hw q_X11_here k_m_X11_130 rfl ha0 (by decide) (As := []) (c_X11_hereR a0 ha0 b0 (hF0) hb0 (kn_iv (rfl) (iv_w hf660 (by decide)))) (by decide) rfl hl.1 rfl (Nat.le_of_ble_eq_true rfl) dX11_oneOf_10 (by decide)) (fun v6 σ5 H locs hp hw => ?_)
    obtain ⟨p6_0, p6_1, p6_2, p6_3⟩ := hp
    rw [p6_0] at hw
    have i7 : Iv (σ.1 662 a0) 0 200 := o_fb (j := 662) hw ha0 rfl
    refine lv_iload_n hx hb dX11_oneOf_13 rfl (lv_at hl 1 rfl) ?_
    refine lv_iload_n hx hb dX11_oneOf_14 rfl (lv_at hl 1 rfl) ?_
    refine lv_iload_n hx hb dX11_oneOf_15 rfl (lv_at hl 2 rfl) ?_
    refine lv_iadd hx hb dX11_oneOf_16 ?_
    refine lv_topi (fun v8 e8 => ?_)
    have i8 : Iv v8 48 107 := iv_add e8 ia1 ia2 (by decide)
    refine lv_iconst (v := 1) hx hb dX11_oneOf_17 (by decide) ?_
    refine lv_isub hx hb dX11_oneOf_18 ?_
    refine lv_topi (fun v9 e9 => ?_)
    have i9 : Iv v9 47 106 := iv_sub e9 i8 (⟨by decide, by decide⟩ : Iv 1 1 1) (by decide)
    have x9 : v9.toInt = v8.toInt + (-1) := ex_sub e9 i8 (⟨by decide, by decide⟩ : Iv 1 1 1) (by decide)
    refine o_ci hw (oRunS cx hA hw q_X11_in k_m_X11_95 (As := [.int v6, .int a1, .int v9]) (c_X11_in v6 a1 v9) (by decide) rfl hl.1 rfl (Nat.le_of_ble_eq_true rfl) dX11_oneOf_19 (by decide)) (fun v11 σ10 H locs hp hw => ?_)
    obtain ⟨p11_0, p11_1, p11_2⟩ := hp
    rw [p11_0] at hw
    refine lv_if_ne (tgt := 35) hx hb dX11_oneOf_22 (by decide) (fun c12 => ?_) (fun c12 => ?_)
    · --
      have i13 : Iv v11 1 1 := iv_ne1 c12 p11_1 (⟨by decide, by decide⟩ : Iv 0 0 0) (by decide)
      have l14 : a1.toInt ≤ v6.toInt + 0 := le_of (p11_2 c12).1
      have l15 : v6.toInt ≤ v9.toInt + 0 := le_of (p11_2 c12).2
      have i16 : Iv v6 48 106 := (fun h => iv_rel (p11_2 h) ia1 i9) c12
      have i17 : Iv (σ.1 662 a0) 0 39 := (fun h => kn_iv2 (rfl) (p6_2 h)) (ge0_iv i16 (by decide))
      refine lv_aload_n hx hb dX11_oneOf_35 rfl (lv_at hl 0 rfl) ?_
      refine lv_dup hx hb dX11_oneOf_36 rfl ?_
      refine g_662 cx hw ha0 k_f_X11_120 dX11_oneOf_37 (fun v18 e18 i18 => ?_)
      rw [show v18 = (σ.1 662 a0) from e18.trans rfl]
      refine lv_iconst (v := 1) hx hb dX11_oneOf_40 (by decide) ?_
      refine lv_iadd hx hb dX11_oneOf_41 ?_
      refine lv_topi (fun v19 e19 => ?_)
      have i19 : Iv v19 1 40 := iv_add e19 i17 (⟨by decide, by decide⟩ : Iv 1 1 1) (by decide)
      have x19 : v19.toInt = (σ.1 662 a0).toInt + 1 := ex_add e19 i17 (⟨by decide, by decide⟩ : Iv 1 1 1) (by decide)
      refine p_662 cx hw ha0 (iv_w i19 (by decide)) k_f_X11_120 dX11_oneOf_42 (fun σ20 H locs eσ20 hw => ?_)
      have fr := oFr_i fr eσ20 (by decide)
      refine lv_aload_n hx hb dX11_oneOf_45 rfl (lv_at hl 0 rfl) ?_
      refine g_659 cx hw ha0 (((kr_i eσ20).trans hF0)) k_f_X11_111 dX11_oneOf_46 ?_
      refine lv_aload_n hx hb dX11_oneOf_49 rfl (lv_at hl 0 rfl) ?_
      refine g_662 cx hw ha0 k_f_X11_120 dX11_oneOf_50 (fun v22 e22 i22 => ?_)
      rw [show v22 = v19 from e22.trans (kp_s eσ20)]
      refine lv_iconst (v := 1) hx hb dX11_oneOf_53 (by decide) ?_
      refine lv_isub hx hb dX11_oneOf_54 ?_
      refine lv_topi (fun v23 e23 => ?_)
      have i23 : Iv v23 0 39 := iv_sub e23 i19 (⟨by decide, by decide⟩ : Iv 1 1 1) (by decide)
      have x23 : v23.toInt = v19.toInt + (-1) := ex_sub e23 i19 (⟨by decide, by decide⟩ : Iv 1 1 1) (by decide)
      refine o_bald cx hw hb0 (by decide) rfl (iv_in i23 (by decide)) dX11_oneOf_55 (fun v24 e24 b24 => ?_)
      have i24 : Iv v24 (-128) 127 := b24
      refine lv_iload_n hx hb dX11_oneOf_56 rfl (lv_at hl 1 rfl) ?_
      refine lv_isub hx hb dX11_oneOf_57 ?_
      refine lv_topi (fun v25 e25 => ?_)
      have i25 : Iv v25 (-225) 79 := iv_sub e25 i24 ia1 (by decide)
      rw [← hQ]
      exact o_ri cx rx hw dX11_oneOf_58 ⟨fr, (iv_w i25 (by decide)), (by have q1 : v23 = σ.1 662 a0 := Int32.toInt_inj.mp (by omega); have q2 : v24 = σ.2.2.1 b0 (σ.1 662 a0).toNatClampNeg := (by rw [e24, q1, eσ20]); have q3 : v6 = v24 &&& 255 := p6_3.elim (fun h => absurd i16.1 (by rw [h]; decide)) (fun h => h.trans (by rw [q2])); have q4 := by_and q3 i24; have q5 := i16.2; have q6 := i24.1; have q7 := ex_sub e25 i24 ia1 (by decide); have q8 := ex_add e8 ia1 ia2 (by decide); exact ⟨by omega, by omega⟩)⟩
    · --
      have i26 : Iv v11 0 0 := iv_eq1 c12 p11_1 (⟨by decide, by decide⟩ : Iv 0 0 0) (by decide)
      refine lv_aload_n hx hb dX11_oneOf_25 rfl (lv_at hl 0 rfl) ?_
      refine lv_aload_n hx hb dX11_oneOf_26 rfl (lv_at hl 0 rfl) ?_
      refine g_662 cx hw ha0 k_f_X11_120 dX11_oneOf_27 (fun v27 e27 i27 => ?_)
      rw [show v27 = (σ.1 662 a0) from e27.trans rfl]
      refine o_cv hw (oRunV cx hA hw q_X11_fault k_m_X11_138 rfl ha0 (by decide) (As := [.int (σ.1 662 a0)]) (c_X11_fault a0 ha0 (σ.1 662 a0)) (by decide) rfl hl.1 rfl (Nat.le_of_ble_eq_true rfl) dX11_oneOf_30 (by decide)) (fun σ28 H locs hp hw => ?_)
      have p29_0 := hp
      have fr := oFr_tr fr p29_0 (by decide)
      refine lv_iconst (v := 0) hx hb dX11_oneOf_33 (by decide) ?_
      rw [← hQ]
      exact o_ri cx rx hw dX11_oneOf_34 ⟨fr, (iv_w (⟨by decide, by decide⟩ : Iv 0 0 0) (by decide)), ⟨by decide, Or.inl (by decide)⟩⟩
  · --
    have i30 : Iv v2 0 0 := iv_eq1 c3 p2_1 (⟨by decide, by decide⟩ : Iv 0 0 0) (by decide)
    refine lv_iconst (v := 0) hx hb dX11_oneOf_7 (by decide) ?_
    rw [← hQ]
    exact o_ri cx rx hw dX11_oneOf_8 ⟨fr, (iv_w (⟨by decide, by decide⟩ : Iv 0 0 0) (by decide)), ⟨by decide, Or.inl (by decide)⟩⟩
set_option maxHeartbeats 4000000 in
set_option maxRecDepth 100000 in
theorem c_X11_isGround (a0 : Int32) (a1 : Int32) : oMet l A L τ cy D K yX11_isGround cX11_isGround 2 (some .boolean) 1 22 [.int a0, .int a1] σ (va_Qi (fun r σ1 => σ1 = σ ∧ Iv r 0 1) (oPo A L τ cy D) A) := by
  refine oMk (by decide) (Nat.le_of_ble_eq_true rfl) rfl ?_
  intro p e s m args below meth c ls cx rx hA hw hl
  generalize hQ : MQ below _ args s 0 0 A = Q
  have hx := cx.1.1
  have hb := cx.1.2.1
  have hml := cx.1.2.2.1
  have hown := cx.1.2.2.2.1
  have hts := cx.1.2.2.2.2
  have hl : lv_has ls 2 [(0, .int a0), (1, .int a1)] := hl
  refine lv_iload_n hx hb dX11_isGround_0 rfl (lv_at hl 0 rfl) ?_
  refine lv_bipush (v := 48) hx hb dX11_isGround_1 (by decide) ?_
  refine lv_bipush (v := 57) hx hb dX11_isGround_3 (by decide) ?_
  refine o_ci hw (oRunS cx hA hw q_X11_in k_m_X11_95 (As := [.int a0, .int 48, .int 57]) (c_X11_in a0 48 57) (by decide) rfl hl.1 rfl (Nat.le_of_ble_eq_true rfl) dX11_isGround_5 (by decide)) (fun v2 σ1 H locs hp hw => ?_)
  obtain ⟨p2_0, p2_1, p2_2⟩ := hp
  rw [p2_0] at hw
  have J_29 : ∀ (H : Heap) (locs : List Loc), oI A L τ cy D s.heap σ H locs → ∀ (ls : Array Slot), lv_has ls 2 [(0, .int a0), (1, .int a1)] → W p l e ({ frames := 1, cells := 0, slots := 0, locals := 22 } : Room) s m args below meth c H locs 0 0 Q (F0 m 29 ls []) := by
    intro    H locs hw  ls hl
    refine lv_iconst (v := 1) hx hb dX11_isGround_29 (by decide) ?_
    refine lv_goto (tgt := 34) hx hb dX11_isGround_30 (by decide) ?_
    rw [← hQ]
    exact o_rz cx rx hw (iv_nz01 (iv_w (⟨by decide, by decide⟩ : Iv 1 1 1) (by decide))) dX11_isGround_34 ⟨rfl, (iv_w (⟨by decide, by decide⟩ : Iv 1 1 1) (by decide))⟩
  refine lv_if_ne (tgt := 29) hx hb dX11_isGround_8 (by decide) (fun c3 => ?_) (fun c3 => ?_)
  · --
    have i4 : Iv v2 1 1 := iv_ne1 c3 p2_1 (⟨by decide, by decide⟩ : Iv 0 0 0) (by decide)
    have i5 : Iv a0 48 57 := (fun h => iv_rel (p2_2 h) (⟨by decide, by decide⟩ : Iv 48 48 48) (⟨by decide, by decide⟩ : Iv 57 57 57)) c3
    exact J_29 _ _ hw _ (lv_sub hl [0, 1] rfl)
  · --
    have i6 : Iv v2 0 0 := iv_eq1 c3 p2_1 (⟨by decide, by decide⟩ : Iv 0 0 0) (by decide)
    refine lv_iload_n hx hb dX11_isGround_11 rfl (lv_at hl 0 rfl) ?_
    refine lv_bipush (v := 35) hx hb dX11_isGround_12 (by decide) ?_
    refine lv_icmp_eq (tgt := 29) hx hb dX11_isGround_14 (by decide) (fun c7 => ?_) (fun c7 => ?_)
    · --
      have i8 : Iv a0 35 35 := iv_eq1 c7 (iv_top a0) (⟨by decide, by decide⟩ : Iv 35 35 35) (by decide)
      exact J_29 _ _ hw _ (lv_sub hl [0, 1] rfl)
    · --
      refine lv_iload_n hx hb dX11_isGround_17 rfl (lv_at hl 0 rfl) ?_
      refine lv_bipush (v := 43) hx hb dX11_isGround_18 (by decide) ?_
      refine lv_icmp_ne (tgt := 33) hx hb dX11_isGround_20 (by decide) (fun c9 => ?_) (fun c9 => ?_)
      · --
        refine lv_iconst (v := 0) hx hb dX11_isGround_33 (by decide) ?_
        rw [← hQ]
        exact o_rz cx rx hw (iv_nz01 (iv_w (⟨by decide, by decide⟩ : Iv 0 0 0) (by decide))) dX11_isGround_34 ⟨rfl, (iv_w (⟨by decide, by decide⟩ : Iv 0 0 0) (by decide))⟩
      · --
        have i10 : Iv a0 43 43 := iv_eq1 c9 (iv_top a0) (⟨by decide, by decide⟩ : Iv 43 43 43) (by decide)
        refine lv_iload_n hx hb dX11_isGround_23 rfl (lv_at hl 1 rfl) ?_
        refine lv_bipush (v := 6) hx hb dX11_isGround_24 (by decide) ?_
        refine lv_icmp_ge (tgt := 33) hx hb dX11_isGround_26 (by decide) (fun c11 => ?_) (fun c11 => ?_)
        · --
          have i12 : Iv a1 6 2147483647 := iv_le2 c11 (⟨by decide, by decide⟩ : Iv 6 6 6) (iv_top a1) (by decide)
          refine lv_iconst (v := 0) hx hb dX11_isGround_33 (by decide) ?_
          rw [← hQ]
          exact o_rz cx rx hw (iv_nz01 (iv_w (⟨by decide, by decide⟩ : Iv 0 0 0) (by decide))) dX11_isGround_34 ⟨rfl, (iv_w (⟨by decide, by decide⟩ : Iv 0 0 0) (by decide))⟩
        · --
          have i13 : Iv a1 (-2147483648) 5 := iv_lt1 (iv_nle c11) (iv_top a1) (⟨by decide, by decide⟩ : Iv 6 6 6) (by decide)
          exact J_29 _ _ hw _ (lv_sub hl [0, 1] rfl)
abbrev fs_X11_readHerd : List Nat := [662, 663]
abbrev ts_X11_readHerd : List Nat := [53]
set_option maxHeartbeats 4000000 in
set_option maxRecDepth 100000 in
theorem c_X11_readHerd (a0 : Nat) (ha0 : oA L τ a0 10) (a1 : Int32) (ia1 : Iv a1 0 15) (b0 : Nat) (hF0 : σ.2.2.2.2 659 a0 = some b0) (hb0 : oA L τ b0 51) (hf660 : Iv (σ.1 660 a0) 0 80) : oMet l A L τ cy D K yX11_readHerd cX11_readHerd 5 none 3 63 [.ref a0, .int a1] σ (va_Qv (fun σ1 => oFr τ fs_X11_readHerd ts_X11_readHerd σ σ1) (oPo A L τ cy D) A) := by
  refine oMk (by decide) (Nat.le_of_ble_eq_true rfl) rfl ?_
  intro p e s m args below meth c ls cx rx hA hw hl
  generalize hQ : MQ below _ args s 0 0 A = Q
  have hx := cx.1.1
  have hb := cx.1.2.1
  have hml := cx.1.2.2.1
  have hown := cx.1.2.2.2.1
  have hts := cx.1.2.2.2.2
  have hl : lv_has ls 5 [(0, .ref a0), (1, .int a1)] := hl
  have fr : oFr τ fs_X11_readHerd ts_X11_readHerd σ σ := oFr_rf
  refine lv_aload_n hx hb dX11_readHerd_0 rfl (lv_at hl 0 rfl) ?_
  refine lv_bipush (v := 97) hx hb dX11_readHerd_1 (by decide) ?_
  refine lv_aload_n hx hb dX11_readHerd_3 rfl (lv_at hl 0 rfl) ?_
  refine g_641 cx hw ha0 k_f_X11_99 dX11_readHerd_4 (fun v1 e1 i1 => ?_)
  refine o_ci hw (oRunV cx hA hw q_X11_oneOf k_m_X11_171 rfl ha0 (by decide) (As := [.int 97, .int v1]) (c_X11_oneOfT a0 ha0 97 (iv_w (⟨by decide, by decide⟩ : Iv 97 97 97) (by decide)) v1 (iv_w i1 (by decide)) b0 (hF0) hb0 (kn_iv (rfl) (iv_w hf660 (by decide)))) (by decide) rfl hl.1 rfl (Nat.le_of_ble_eq_true rfl) dX11_readHerd_7 (by decide)) (fun v3 σ2 H locs hp hw => ?_)
  obtain ⟨p3_0, p3_1, p3_2⟩ := hp
  have fr := oFr_tr fr p3_0 (by decide)
  have i4 : Iv v3 0 7 := iv_lt0 p3_2 i1 (by decide)
  refine lv_istore_n (lv' := [(2, .int v3), (0, .ref a0), (1, .int a1)]) hx hb dX11_readHerd_10 rfl hl (by decide) rfl (fun ls hl => ?_)
  refine lv_aload_n hx hb dX11_readHerd_11 rfl (lv_at hl 1 rfl) ?_
  refine lv_bipush (v := 49) hx hb dX11_readHerd_12 (by decide) ?_
  refine lv_aload_n hx hb dX11_readHerd_14 rfl (lv_at hl 1 rfl) ?_
  refine g_642 cx hw ha0 k_f_X11_102 dX11_readHerd_15 (fun v5 e5 i5 => ?_)
  refine o_ci hw (oRunV cx hA hw q_X11_oneOf k_m_X11_171 rfl ha0 (by decide) (As := [.int 49, .int v5]) (c_X11_oneOfT a0 ha0 49 (iv_w (⟨by decide, by decide⟩ : Iv 49 49 49) (by decide)) v5 (iv_w i5 (by decide)) b0 (((kr_c p3_0 (by decide)).trans hF0)) hb0 (kn_iv (((kp_c p3_0 (by decide)).trans rfl)) (iv_w hf660 (by decide)))) (by decide) rfl hl.1 rfl (Nat.le_of_ble_eq_true rfl) dX11_readHerd_18 (by decide)) (fun v7 σ6 H locs hp hw => ?_)
  obtain ⟨p7_0, p7_1, p7_2⟩ := hp
  have fr := oFr_tr fr p7_0 (by decide)
  have i8 : Iv v7 0 7 := iv_lt0 p7_2 i5 (by decide)
  refine lv_istore_n (lv' := [(3, .int v7), (2, .int v3), (0, .ref a0), (1, .int a1)]) hx hb dX11_readHerd_21 rfl hl (by decide) rfl (fun ls hl => ?_)
  refine lv_bipush (v := 8) hx hb dX11_readHerd_22 (by decide) ?_
  refine lv_iload_n hx hb dX11_readHerd_24 rfl (lv_at hl 0 rfl) ?_
  refine lv_imul hx hb dX11_readHerd_25 ?_
  refine lv_topi (fun v9 e9 => ?_)
  have i9 : Iv v9 0 56 := iv_mul e9 (⟨by decide, by decide⟩ : Iv 8 8 8) i8 (by decide)
  refine lv_iload_n hx hb dX11_readHerd_26 rfl (lv_at hl 1 rfl) ?_
  refine lv_iadd hx hb dX11_readHerd_27 ?_
  refine lv_topi (fun v10 e10 => ?_)
  have i10 : Iv v10 0 63 := iv_add e10 i9 i4 (by decide)
  refine lv_istore (lv' := [(4, .int v10), (3, .int v7), (2, .int v3), (0, .ref a0), (1, .int a1)]) hx hb dX11_readHerd_28 hl (by decide) rfl (fun ls hl => ?_)
  refine lv_aload_n hx hb dX11_readHerd_30 rfl (lv_at hl 3 rfl) ?_
  refine o_ci hw (oRunV cx hA hw q_X11_fine k_m_X11_126 rfl ha0 (by decide) (As := []) (c_X11_fine a0 ha0) (by decide) rfl hl.1 rfl (Nat.le_of_ble_eq_true rfl) dX11_readHerd_31 (by decide)) (fun v12 σ11 H locs hp hw => ?_)
  obtain ⟨p12_0, p12_1⟩ := hp
  rw [p12_0] at hw
  have J_57 : ∀ (σ_57 : oSt) (H : Heap) (locs : List Loc), oI A L τ cy D s.heap σ_57 H locs → oFr τ fs_X11_readHerd ts_X11_readHerd σ σ_57 → ∀ (ls : Array Slot), lv_has ls 5 [(0, .ref a0), (1, .int a1), (2, .int v3), (3, .int v7), (4, .int v10)] → W p l e ({ frames := 3, cells := 0, slots := 0, locals := 63 } : Room) s m args below meth c H locs 0 0 Q (F0 m 57 ls []) := by
    intro    σ_57 H locs hw fr   ls hl
    have fr_57 := fr
    refine lv_aload_n hx hb dX11_readHerd_57 rfl (lv_at hl 0 rfl) ?_
    refine g_666 cx hw ha0 k_f_X11_46 dX11_readHerd_58 (fun v13 e13 h13 => ?_)
    refine lv_iload_n hx hb dX11_readHerd_61 rfl (lv_at hl 1 rfl) ?_
    refine lv_iload hx hb dX11_readHerd_62 (lv_at hl 4 rfl) ?_
    refine o_iast cx hw h13 (by decide) rfl (iv_in ia1 (by decide)) (fun _ => iv_w i10 (by decide)) dX11_readHerd_64 (fun σ14 H locs eσ14 hw => ?_)
    have fr := oFr_p fr eσ14 h13 (by decide)
    refine lv_aload_n hx hb dX11_readHerd_65 rfl (lv_at hl 0 rfl) ?_
    refine g_666 cx hw ha0 k_f_X11_46 dX11_readHerd_66 (fun v15 e15 h15 => ?_)
    rw [show v15 = v13 from Option.some.inj (e15.symm.trans (((kr_p eσ14).trans e13)))]
    refine lv_iload_n hx hb dX11_readHerd_69 rfl (lv_at hl 1 rfl) ?_
    refine lv_iconst (v := 1) hx hb dX11_readHerd_70 (by decide) ?_
    refine lv_iadd hx hb dX11_readHerd_71 ?_
    refine lv_topi (fun v16 e16 => ?_)
    have i16 : Iv v16 1 16 := iv_add e16 ia1 (⟨by decide, by decide⟩ : Iv 1 1 1) (by decide)
    have x16 : v16.toInt = a1.toInt + 1 := ex_add e16 ia1 (⟨by decide, by decide⟩ : Iv 1 1 1) (by decide)
    refine lv_aload_n hx hb dX11_readHerd_72 rfl (lv_at hl 0 rfl) ?_
    refine lv_bipush (v := 48) hx hb dX11_readHerd_73 (by decide) ?_
    refine lv_bipush (v := 10) hx hb dX11_readHerd_75 (by decide) ?_
    refine o_ci hw (oRunV cx hA hw q_X11_oneOf k_m_X11_171 rfl ha0 (by decide) (As := [.int 48, .int 10]) (c_X11_oneOfT a0 ha0 48 (iv_w (⟨by decide, by decide⟩ : Iv 48 48 48) (by decide)) 10 (iv_w (⟨by decide, by decide⟩ : Iv 10 10 10) (by decide)) b0 (((kr_p eσ14).trans ((kr_c fr_57 (by decide)).trans hF0))) hb0 (kn_iv (((kp_p eσ14).trans (kp_c fr_57 (by decide)))) (iv_w hf660 (by decide)))) (by decide) rfl hl.1 rfl (Nat.le_of_ble_eq_true rfl) dX11_readHerd_77 (by decide)) (fun v18 σ17 H locs hp hw => ?_)
    obtain ⟨p18_0, p18_1, p18_2⟩ := hp
    have fr := oFr_tr fr p18_0 (by decide)
    have i19 : Iv v18 0 9 := iv_lt0 p18_2 (⟨by decide, by decide⟩ : Iv 10 10 10) (by decide)
    refine o_iast cx hw h13 (by decide) rfl (iv_in i16 (by decide)) (fun _ => iv_w i19 (by decide)) dX11_readHerd_80 (fun σ20 H locs eσ20 hw => ?_)
    have fr := oFr_p fr eσ20 h13 (by decide)
    refine lv_aload_n hx hb dX11_readHerd_81 rfl (lv_at hl 0 rfl) ?_
    refine g_666 cx hw ha0 k_f_X11_46 dX11_readHerd_82 (fun v21 e21 h21 => ?_)
    rw [show v21 = v13 from Option.some.inj (e21.symm.trans (((kr_p eσ20).trans ((kr_c p18_0 (by decide)).trans ((kr_p eσ14).trans e13)))))]
    refine lv_iload_n hx hb dX11_readHerd_85 rfl (lv_at hl 1 rfl) ?_
    refine lv_iconst (v := 2) hx hb dX11_readHerd_86 (by decide) ?_
    refine lv_iadd hx hb dX11_readHerd_87 ?_
    refine lv_topi (fun v22 e22 => ?_)
    have i22 : Iv v22 2 17 := iv_add e22 ia1 (⟨by decide, by decide⟩ : Iv 2 2 2) (by decide)
    have x22 : v22.toInt = a1.toInt + 2 := ex_add e22 ia1 (⟨by decide, by decide⟩ : Iv 2 2 2) (by decide)
    refine lv_aload_n hx hb dX11_readHerd_88 rfl (lv_at hl 0 rfl) ?_
    refine lv_bipush (v := 42) hx hb dX11_readHerd_89 (by decide) ?_
    refine o_ci hw (oRunV cx hA hw q_X11_passes k_m_X11_134 rfl ha0 (by decide) (As := [.int 42]) (c_X11_passesT a0 ha0 42 (iv_w (⟨by decide, by decide⟩ : Iv 42 42 42) (by decide)) b0 (((kr_p eσ20).trans ((kr_c p18_0 (by decide)).trans ((kr_p eσ14).trans ((kr_c fr_57 (by decide)).trans hF0))))) hb0 (kn_iv (((kp_p eσ20).trans ((kp_c p18_0 (by decide)).trans ((kp_p eσ14).trans (kp_c fr_57 (by decide)))))) (iv_w hf660 (by decide)))) (by decide) rfl hl.1 rfl (Nat.le_of_ble_eq_true rfl) dX11_readHerd_91 (by decide)) (fun v24 σ23 H locs hp hw => ?_)
    obtain ⟨p24_0, p24_1, p24_2⟩ := hp
    have fr := oFr_tr fr p24_0 (by decide)
    have i25 : Iv (σ23.1 662 a0) 0 200 := o_fb (j := 662) hw ha0 rfl
    refine lv_if_eq (tgt := 101) hx hb dX11_readHerd_94 (by decide) (fun c26 => ?_) (fun c26 => ?_)
    · --
      have i27 : Iv v24 0 0 := iv_eq1 c26 p24_1 (⟨by decide, by decide⟩ : Iv 0 0 0) (by decide)
      refine lv_iconst (v := 0) hx hb dX11_readHerd_101 (by decide) ?_
      refine o_iast cx hw h13 (by decide) rfl (iv_in i22 (by decide)) (fun _ => iv_w (⟨by decide, by decide⟩ : Iv 0 0 0) (by decide)) dX11_readHerd_102 (fun σ28 H locs eσ28 hw => ?_)
      have fr := oFr_p fr eσ28 h13 (by decide)
      rw [← hQ]
      exact o_rv cx rx hw dX11_readHerd_103 fr
    · --
      have i29 : Iv v24 1 1 := iv_ne1 c26 p24_1 (⟨by decide, by decide⟩ : Iv 0 0 0) (by decide)
      have i30 : Iv (σ23.1 662 a0) 1 80 := (fun h => kn_iv2 (rfl) (p24_2 h)) c26
      refine lv_iconst (v := 1) hx hb dX11_readHerd_97 (by decide) ?_
      refine lv_goto (tgt := 102) hx hb dX11_readHerd_98 (by decide) ?_
      refine o_iast cx hw h13 (by decide) rfl (iv_in i22 (by decide)) (fun _ => iv_w (⟨by decide, by decide⟩ : Iv 1 1 1) (by decide)) dX11_readHerd_102 (fun σ31 H locs eσ31 hw => ?_)
      have fr := oFr_p fr eσ31 h13 (by decide)
      rw [← hQ]
      exact o_rv cx rx hw dX11_readHerd_103 fr
  refine lv_if_eq (tgt := 57) hx hb dX11_readHerd_34 (by decide) (fun c32 => ?_) (fun c32 => ?_)
  · --
    have i33 : Iv v12 0 0 := iv_eq1 c32 p12_1 (⟨by decide, by decide⟩ : Iv 0 0 0) (by decide)
    exact J_57 σ6 _ _ hw fr _ (lv_sub hl [3, 4, 2, 1, 0] rfl)
  · --
    have i34 : Iv v12 1 1 := iv_ne1 c32 p12_1 (⟨by decide, by decide⟩ : Iv 0 0 0) (by decide)
    refine lv_aload_n hx hb dX11_readHerd_37 rfl (lv_at hl 3 rfl) ?_
    refine g_643 cx hw ha0 k_f_X11_13 dX11_readHerd_38 (fun v35 e35 h35 => ?_)
    refine lv_iload hx hb dX11_readHerd_41 (lv_at hl 0 rfl) ?_
    refine o_iald cx hw h35 (by decide) rfl (iv_in i10 (by decide)) dX11_readHerd_43 (fun v36 e36 b36 => ?_)
    refine lv_if_eq (tgt := 57) hx hb dX11_readHerd_44 (by decide) (fun c37 => ?_) (fun c37 => ?_)
    · --
      have i38 : Iv v36 0 0 := iv_eq1 c37 (iv_top v36) (⟨by decide, by decide⟩ : Iv 0 0 0) (by decide)
      exact J_57 σ6 _ _ hw fr _ (lv_sub hl [3, 4, 2, 1, 0] rfl)
    · --
      refine lv_aload_n hx hb dX11_readHerd_47 rfl (lv_at hl 3 rfl) ?_
      refine lv_aload_n hx hb dX11_readHerd_48 rfl (lv_at hl 3 rfl) ?_
      refine g_662 cx hw ha0 k_f_X11_120 dX11_readHerd_49 (fun v39 e39 i39 => ?_)
      refine lv_iconst (v := 1) hx hb dX11_readHerd_52 (by decide) ?_
      refine lv_isub hx hb dX11_readHerd_53 ?_
      refine lv_topi (fun v40 e40 => ?_)
      have i40 : Iv v40 (-1) 199 := iv_sub e40 i39 (⟨by decide, by decide⟩ : Iv 1 1 1) (by decide)
      have x40 : v40.toInt = v39.toInt + (-1) := ex_sub e40 i39 (⟨by decide, by decide⟩ : Iv 1 1 1) (by decide)
      refine o_cv hw (oRunV cx hA hw q_X11_fault k_m_X11_138 rfl ha0 (by decide) (As := [.int v40]) (c_X11_fault a0 ha0 v40) (by decide) rfl hl.1 rfl (Nat.le_of_ble_eq_true rfl) dX11_readHerd_54 (by decide)) (fun σ41 H locs hp hw => ?_)
      have p42_0 := hp
      have fr := oFr_tr fr p42_0 (by decide)
      exact J_57 σ41 _ _ hw fr _ (lv_sub hl [3, 4, 2, 1, 0] rfl)
abbrev fs_X11_tread : List Nat := []
abbrev ts_X11_tread : List Nat := [48]
set_option maxHeartbeats 4000000 in
set_option maxRecDepth 100000 in
theorem c_X11_tread (a0 : Nat) (ha0 : oA L τ a0 48) (a1 : Int32) (ia1 : Iv a1 0 5) : oMet l A L τ cy D K yX11_tread cX11_tread 2 none 0 0 [.ref a0, .int a1] σ (va_Qv (fun σ1 => oFr τ fs_X11_tread ts_X11_tread σ σ1) (oPo A L τ cy D) A) := by
  refine oMk (by decide) (Nat.le_of_ble_eq_true rfl) rfl ?_
  intro p e s m args below meth c ls cx rx hA hw hl
  generalize hQ : MQ below _ args s 0 0 A = Q
  have hx := cx.1.1
  have hb := cx.1.2.1
  have hml := cx.1.2.2.1
  have hown := cx.1.2.2.2.1
  have hts := cx.1.2.2.2.2
  have hl : lv_has ls 2 [(0, .ref a0), (1, .int a1)] := hl
  have fr : oFr τ fs_X11_tread ts_X11_tread σ σ := oFr_rf
  refine lv_aload_n hx hb dX11_tread_0 rfl (lv_at hl 0 rfl) ?_
  refine lv_sipush (v := 192) hx hb dX11_tread_1 (by decide) ?_
  refine lv_aload_n hx hb dX11_tread_4 rfl (lv_at hl 0 rfl) ?_
  refine lv_sipush (v := 320) hx hb dX11_tread_5 (by decide) ?_
  refine lv_iload_n hx hb dX11_tread_8 rfl (lv_at hl 1 rfl) ?_
  refine lv_iadd hx hb dX11_tread_9 ?_
  refine lv_topi (fun v1 e1 => ?_)
  have i1 : Iv v1 320 325 := iv_add e1 (⟨by decide, by decide⟩ : Iv 320 320 320) ia1 (by decide)
  have x1 : v1.toInt = a1.toInt + 320 := (ex_add e1 (⟨by decide, by decide⟩ : Iv 320 320 320) ia1 (by decide)).trans (Int.add_comm _ _)
  refine o_iald cx hw ha0 (by decide) rfl (iv_in i1 (by decide)) dX11_tread_10 (fun v2 e2 b2 => ?_)
  have i2 : Iv v2 0 63 := rb_now b2 i1 (by decide)
  refine lv_iadd hx hb dX11_tread_11 ?_
  refine lv_topi (fun v3 e3 => ?_)
  have i3 : Iv v3 192 255 := iv_add e3 (⟨by decide, by decide⟩ : Iv 192 192 192) i2 (by decide)
  have x3 : v3.toInt = v2.toInt + 192 := (ex_add e3 (⟨by decide, by decide⟩ : Iv 192 192 192) i2 (by decide)).trans (Int.add_comm _ _)
  refine lv_aload_n hx hb dX11_tread_12 rfl (lv_at hl 0 rfl) ?_
  refine lv_sipush (v := 333) hx hb dX11_tread_13 (by decide) ?_
  refine o_iald cx hw ha0 (by decide) rfl (iv_in (⟨by decide, by decide⟩ : Iv 333 333 333) (by decide)) dX11_tread_16 (fun v4 e4 b4 => ?_)
  refine o_iast cx hw ha0 (by decide) rfl (iv_in i3 (by decide)) (rb_lo i3 (by decide)) dX11_tread_17 (fun σ5 H locs eσ5 hw => ?_)
  have fr := oFr_p fr eσ5 ha0 (by decide)
  refine lv_aload_n hx hb dX11_tread_18 rfl (lv_at hl 0 rfl) ?_
  refine lv_sipush (v := 256) hx hb dX11_tread_19 (by decide) ?_
  refine lv_aload_n hx hb dX11_tread_22 rfl (lv_at hl 0 rfl) ?_
  refine lv_sipush (v := 320) hx hb dX11_tread_23 (by decide) ?_
  refine lv_iload_n hx hb dX11_tread_26 rfl (lv_at hl 1 rfl) ?_
  refine lv_iadd hx hb dX11_tread_27 ?_
  refine lv_topi (fun v6 e6 => ?_)
  have i6 : Iv v6 320 325 := iv_add e6 (⟨by decide, by decide⟩ : Iv 320 320 320) ia1 (by decide)
  have x6 : v6.toInt = a1.toInt + 320 := (ex_add e6 (⟨by decide, by decide⟩ : Iv 320 320 320) ia1 (by decide)).trans (Int.add_comm _ _)
  refine o_iald cx hw ha0 (by decide) rfl (iv_in i6 (by decide)) dX11_tread_28 (fun v7 e7 b7 => ?_)
  have i7 : Iv v7 0 63 := rb_now b7 i6 (by decide)
  refine lv_iadd hx hb dX11_tread_29 ?_
  refine lv_topi (fun v8 e8 => ?_)
  have i8 : Iv v8 256 319 := iv_add e8 (⟨by decide, by decide⟩ : Iv 256 256 256) i7 (by decide)
  have x8 : v8.toInt = v7.toInt + 256 := (ex_add e8 (⟨by decide, by decide⟩ : Iv 256 256 256) i7 (by decide)).trans (Int.add_comm _ _)
  refine lv_iload_n hx hb dX11_tread_30 rfl (lv_at hl 1 rfl) ?_
  refine o_iast cx hw ha0 (by decide) rfl (iv_in i8 (by decide)) (fun _ _ => iv_w ia1 (by decide)) dX11_tread_31 (fun σ9 H locs eσ9 hw => ?_)
  have fr := oFr_p fr eσ9 ha0 (by decide)
  rw [← hQ]
  exact o_rv cx rx hw dX11_tread_32 fr
set_option maxHeartbeats 4000000 in
set_option maxRecDepth 100000 in
theorem c_X11_letterOf (a0 : Int32) : oMet l A L τ cy D K yX11_letterOf cX11_letterOf 1 (some .int) 0 0 [.int a0] σ (va_Qi (fun r σ1 => σ1 = σ ∧ Iv r (-1) 8) (oPo A L τ cy D) A) := by
  refine oMk (by decide) (Nat.le_of_ble_eq_true rfl) rfl ?_
  intro p e s m args below meth c ls cx rx hA hw hl
  generalize hQ : MQ below _ args s 0 0 A = Q
  have hx := cx.1.1
  have hb := cx.1.2.1
  have hml := cx.1.2.2.1
  have hown := cx.1.2.2.2.1
  have hts := cx.1.2.2.2.2
  have hl : lv_has ls 1 [(0, .int a0)] := hl
  refine lv_iload_n hx hb dX11_letterOf_0 rfl (lv_at hl 0 rfl) ?_
  by_cases q1 : a0 = 101
  · --
    refine lv_tableIn (tgt := 92) hx hb dX11_letterOf_1 (by rw [q1]; decide) (by rw [q1]; decide) (by rw [q1]; rfl) (by decide) ?_
    have i2 : Iv a0 101 101 := iv_eq1 q1 (iv_top a0) (⟨by decide, by decide⟩ : Iv 101 101 101) (by decide)
    refine lv_bipush (v := 6) hx hb dX11_letterOf_92 (by decide) ?_
    rw [← hQ]
    exact o_ri cx rx hw dX11_letterOf_94 ⟨rfl, (iv_w (⟨by decide, by decide⟩ : Iv 6 6 6) (by decide))⟩
  by_cases q3 : a0 = 102
  · --
    refine lv_tableIn (tgt := 101) hx hb dX11_letterOf_1 (by rw [q3]; decide) (by rw [q3]; decide) (by rw [q3]; rfl) (by decide) ?_
    have i4 : Iv a0 102 102 := iv_eq1 q3 (iv_top a0) (⟨by decide, by decide⟩ : Iv 102 102 102) (by decide)
    refine lv_iconst (v := (-1)) hx hb dX11_letterOf_101 (by decide) ?_
    rw [← hQ]
    exact o_ri cx rx hw dX11_letterOf_102 ⟨rfl, (iv_w (⟨by decide, by decide⟩ : Iv (-1) (-1) (-1)) (by decide))⟩
  by_cases q5 : a0 = 103
  · --
    refine lv_tableIn (tgt := 80) hx hb dX11_letterOf_1 (by rw [q5]; decide) (by rw [q5]; decide) (by rw [q5]; rfl) (by decide) ?_
    have i6 : Iv a0 103 103 := iv_eq1 q5 (iv_top a0) (⟨by decide, by decide⟩ : Iv 103 103 103) (by decide)
    refine lv_iconst (v := 0) hx hb dX11_letterOf_80 (by decide) ?_
    rw [← hQ]
    exact o_ri cx rx hw dX11_letterOf_81 ⟨rfl, (iv_w (⟨by decide, by decide⟩ : Iv 0 0 0) (by decide))⟩
  by_cases q7 : a0 = 104
  · --
    refine lv_tableIn (tgt := 101) hx hb dX11_letterOf_1 (by rw [q7]; decide) (by rw [q7]; decide) (by rw [q7]; rfl) (by decide) ?_
    have i8 : Iv a0 104 104 := iv_eq1 q7 (iv_top a0) (⟨by decide, by decide⟩ : Iv 104 104 104) (by decide)
    refine lv_iconst (v := (-1)) hx hb dX11_letterOf_101 (by decide) ?_
    rw [← hQ]
    exact o_ri cx rx hw dX11_letterOf_102 ⟨rfl, (iv_w (⟨by decide, by decide⟩ : Iv (-1) (-1) (-1)) (by decide))⟩
  by_cases q9 : a0 = 105
  · --
    refine lv_tableIn (tgt := 95) hx hb dX11_letterOf_1 (by rw [q9]; decide) (by rw [q9]; decide) (by rw [q9]; rfl) (by decide) ?_
    have i10 : Iv a0 105 105 := iv_eq1 q9 (iv_top a0) (⟨by decide, by decide⟩ : Iv 105 105 105) (by decide)
    refine lv_bipush (v := 7) hx hb dX11_letterOf_95 (by decide) ?_
    rw [← hQ]
    exact o_ri cx rx hw dX11_letterOf_97 ⟨rfl, (iv_w (⟨by decide, by decide⟩ : Iv 7 7 7) (by decide))⟩
  by_cases q11 : a0 = 106
  · --
    refine lv_tableIn (tgt := 101) hx hb dX11_letterOf_1 (by rw [q11]; decide) (by rw [q11]; decide) (by rw [q11]; rfl) (by decide) ?_
    have i12 : Iv a0 106 106 := iv_eq1 q11 (iv_top a0) (⟨by decide, by decide⟩ : Iv 106 106 106) (by decide)
    refine lv_iconst (v := (-1)) hx hb dX11_letterOf_101 (by decide) ?_
    rw [← hQ]
    exact o_ri cx rx hw dX11_letterOf_102 ⟨rfl, (iv_w (⟨by decide, by decide⟩ : Iv (-1) (-1) (-1)) (by decide))⟩
  by_cases q13 : a0 = 107
  · --
    refine lv_tableIn (tgt := 98) hx hb dX11_letterOf_1 (by rw [q13]; decide) (by rw [q13]; decide) (by rw [q13]; rfl) (by decide) ?_
    have i14 : Iv a0 107 107 := iv_eq1 q13 (iv_top a0) (⟨by decide, by decide⟩ : Iv 107 107 107) (by decide)
    refine lv_bipush (v := 8) hx hb dX11_letterOf_98 (by decide) ?_
    rw [← hQ]
    exact o_ri cx rx hw dX11_letterOf_100 ⟨rfl, (iv_w (⟨by decide, by decide⟩ : Iv 8 8 8) (by decide))⟩
  by_cases q15 : a0 = 108
  · --
    refine lv_tableIn (tgt := 101) hx hb dX11_letterOf_1 (by rw [q15]; decide) (by rw [q15]; decide) (by rw [q15]; rfl) (by decide) ?_
    have i16 : Iv a0 108 108 := iv_eq1 q15 (iv_top a0) (⟨by decide, by decide⟩ : Iv 108 108 108) (by decide)
    refine lv_iconst (v := (-1)) hx hb dX11_letterOf_101 (by decide) ?_
    rw [← hQ]
    exact o_ri cx rx hw dX11_letterOf_102 ⟨rfl, (iv_w (⟨by decide, by decide⟩ : Iv (-1) (-1) (-1)) (by decide))⟩
  by_cases q17 : a0 = 109
  · --
    refine lv_tableIn (tgt := 88) hx hb dX11_letterOf_1 (by rw [q17]; decide) (by rw [q17]; decide) (by rw [q17]; rfl) (by decide) ?_
    have i18 : Iv a0 109 109 := iv_eq1 q17 (iv_top a0) (⟨by decide, by decide⟩ : Iv 109 109 109) (by decide)
    refine lv_iconst (v := 4) hx hb dX11_letterOf_88 (by decide) ?_
    rw [← hQ]
    exact o_ri cx rx hw dX11_letterOf_89 ⟨rfl, (iv_w (⟨by decide, by decide⟩ : Iv 4 4 4) (by decide))⟩
  by_cases q19 : a0 = 110
  · --
    refine lv_tableIn (tgt := 101) hx hb dX11_letterOf_1 (by rw [q19]; decide) (by rw [q19]; decide) (by rw [q19]; rfl) (by decide) ?_
    have i20 : Iv a0 110 110 := iv_eq1 q19 (iv_top a0) (⟨by decide, by decide⟩ : Iv 110 110 110) (by decide)
    refine lv_iconst (v := (-1)) hx hb dX11_letterOf_101 (by decide) ?_
    rw [← hQ]
    exact o_ri cx rx hw dX11_letterOf_102 ⟨rfl, (iv_w (⟨by decide, by decide⟩ : Iv (-1) (-1) (-1)) (by decide))⟩
  by_cases q21 : a0 = 111
  · --
    refine lv_tableIn (tgt := 90) hx hb dX11_letterOf_1 (by rw [q21]; decide) (by rw [q21]; decide) (by rw [q21]; rfl) (by decide) ?_
    have i22 : Iv a0 111 111 := iv_eq1 q21 (iv_top a0) (⟨by decide, by decide⟩ : Iv 111 111 111) (by decide)
    refine lv_iconst (v := 5) hx hb dX11_letterOf_90 (by decide) ?_
    rw [← hQ]
    exact o_ri cx rx hw dX11_letterOf_91 ⟨rfl, (iv_w (⟨by decide, by decide⟩ : Iv 5 5 5) (by decide))⟩
  by_cases q23 : a0 = 112
  · --
    refine lv_tableIn (tgt := 101) hx hb dX11_letterOf_1 (by rw [q23]; decide) (by rw [q23]; decide) (by rw [q23]; rfl) (by decide) ?_
    have i24 : Iv a0 112 112 := iv_eq1 q23 (iv_top a0) (⟨by decide, by decide⟩ : Iv 112 112 112) (by decide)
    refine lv_iconst (v := (-1)) hx hb dX11_letterOf_101 (by decide) ?_
    rw [← hQ]
    exact o_ri cx rx hw dX11_letterOf_102 ⟨rfl, (iv_w (⟨by decide, by decide⟩ : Iv (-1) (-1) (-1)) (by decide))⟩
  by_cases q25 : a0 = 113
  · --
    refine lv_tableIn (tgt := 101) hx hb dX11_letterOf_1 (by rw [q25]; decide) (by rw [q25]; decide) (by rw [q25]; rfl) (by decide) ?_
    have i26 : Iv a0 113 113 := iv_eq1 q25 (iv_top a0) (⟨by decide, by decide⟩ : Iv 113 113 113) (by decide)
    refine lv_iconst (v := (-1)) hx hb dX11_letterOf_101 (by decide) ?_
    rw [← hQ]
    exact o_ri cx rx hw dX11_letterOf_102 ⟨rfl, (iv_w (⟨by decide, by decide⟩ : Iv (-1) (-1) (-1)) (by decide))⟩
  by_cases q27 : a0 = 114
  · --
    refine lv_tableIn (tgt := 86) hx hb dX11_letterOf_1 (by rw [q27]; decide) (by rw [q27]; decide) (by rw [q27]; rfl) (by decide) ?_
    have i28 : Iv a0 114 114 := iv_eq1 q27 (iv_top a0) (⟨by decide, by decide⟩ : Iv 114 114 114) (by decide)
    refine lv_iconst (v := 3) hx hb dX11_letterOf_86 (by decide) ?_
    rw [← hQ]
    exact o_ri cx rx hw dX11_letterOf_87 ⟨rfl, (iv_w (⟨by decide, by decide⟩ : Iv 3 3 3) (by decide))⟩
  by_cases q29 : a0 = 115
  · --
    refine lv_tableIn (tgt := 82) hx hb dX11_letterOf_1 (by rw [q29]; decide) (by rw [q29]; decide) (by rw [q29]; rfl) (by decide) ?_
    have i30 : Iv a0 115 115 := iv_eq1 q29 (iv_top a0) (⟨by decide, by decide⟩ : Iv 115 115 115) (by decide)
    refine lv_iconst (v := 1) hx hb dX11_letterOf_82 (by decide) ?_
    rw [← hQ]
    exact o_ri cx rx hw dX11_letterOf_83 ⟨rfl, (iv_w (⟨by decide, by decide⟩ : Iv 1 1 1) (by decide))⟩
  by_cases q31 : a0 = 116
  · --
    refine lv_tableIn (tgt := 84) hx hb dX11_letterOf_1 (by rw [q31]; decide) (by rw [q31]; decide) (by rw [q31]; rfl) (by decide) ?_
    have i32 : Iv a0 116 116 := iv_eq1 q31 (iv_top a0) (⟨by decide, by decide⟩ : Iv 116 116 116) (by decide)
    refine lv_iconst (v := 2) hx hb dX11_letterOf_84 (by decide) ?_
    rw [← hQ]
    exact o_ri cx rx hw dX11_letterOf_85 ⟨rfl, (iv_w (⟨by decide, by decide⟩ : Iv 2 2 2) (by decide))⟩
  have q1 := iv_nt q1 (k := 101) (by decide)
  have q3 := iv_nt q3 (k := 102) (by decide)
  have q5 := iv_nt q5 (k := 103) (by decide)
  have q7 := iv_nt q7 (k := 104) (by decide)
  have q9 := iv_nt q9 (k := 105) (by decide)
  have q11 := iv_nt q11 (k := 106) (by decide)
  have q13 := iv_nt q13 (k := 107) (by decide)
  have q15 := iv_nt q15 (k := 108) (by decide)
  have q17 := iv_nt q17 (k := 109) (by decide)
  have q19 := iv_nt q19 (k := 110) (by decide)
  have q21 := iv_nt q21 (k := 111) (by decide)
  have q23 := iv_nt q23 (k := 112) (by decide)
  have q25 := iv_nt q25 (k := 113) (by decide)
  have q27 := iv_nt q27 (k := 114) (by decide)
  have q29 := iv_nt q29 (k := 115) (by decide)
  have q31 := iv_nt q31 (k := 116) (by decide)
  refine lv_tableOut (tgt := 101) hx hb dX11_letterOf_1 (by omega) (by decide) ?_
  refine lv_iconst (v := (-1)) hx hb dX11_letterOf_101 (by decide) ?_
  rw [← hQ]
  exact o_ri cx rx hw dX11_letterOf_102 ⟨rfl, (iv_w (⟨by decide, by decide⟩ : Iv (-1) (-1) (-1)) (by decide))⟩
set_option maxHeartbeats 4000000 in
set_option maxRecDepth 100000 in
theorem c_X11_isRoad (a0 : Nat) (ha0 : oA L τ a0 10) (a1 : Nat) (ha1 : oA L τ a1 48) (a2 : Int32) (ia2 : Iv a2 0 63) : oMet l A L τ cy D K yX11_isRoad cX11_isRoad 3 (some .boolean) 0 0 [.ref a0, .ref a1, .int a2] σ (va_Qi (fun r σ1 => σ1 = σ ∧ Iv r 0 1) (oPo A L τ cy D) A) := by
  refine oMk (by decide) (Nat.le_of_ble_eq_true rfl) rfl ?_
  intro p e s m args below meth c ls cx rx hA hw hl
  generalize hQ : MQ below _ args s 0 0 A = Q
  have hx := cx.1.1
  have hb := cx.1.2.1
  have hml := cx.1.2.2.1
  have hown := cx.1.2.2.2.1
  have hts := cx.1.2.2.2.2
  have hl : lv_has ls 3 [(0, .ref a0), (1, .ref a1), (2, .int a2)] := hl
  refine lv_aload_n hx hb dX11_isRoad_0 rfl (lv_at hl 1 rfl) ?_
  refine lv_sipush (v := 192) hx hb dX11_isRoad_1 (by decide) ?_
  refine lv_iload_n hx hb dX11_isRoad_4 rfl (lv_at hl 2 rfl) ?_
  refine lv_iadd hx hb dX11_isRoad_5 ?_
  refine lv_topi (fun v1 e1 => ?_)
  have i1 : Iv v1 192 255 := iv_add e1 (⟨by decide, by decide⟩ : Iv 192 192 192) ia2 (by decide)
  have x1 : v1.toInt = a2.toInt + 192 := (ex_add e1 (⟨by decide, by decide⟩ : Iv 192 192 192) ia2 (by decide)).trans (Int.add_comm _ _)
  refine o_iald cx hw ha1 (by decide) rfl (iv_in i1 (by decide)) dX11_isRoad_6 (fun v2 e2 b2 => ?_)
  refine lv_iconst (v := (-1)) hx hb dX11_isRoad_7 (by decide) ?_
  refine lv_icmp_eq (tgt := 35) hx hb dX11_isRoad_8 (by decide) (fun c3 => ?_) (fun c3 => ?_)
  · --
    have i4 : Iv v2 (-1) (-1) := iv_eq1 c3 (iv_top v2) (⟨by decide, by decide⟩ : Iv (-1) (-1) (-1)) (by decide)
    refine lv_iconst (v := 0) hx hb dX11_isRoad_35 (by decide) ?_
    rw [← hQ]
    exact o_rz cx rx hw (iv_nz01 (iv_w (⟨by decide, by decide⟩ : Iv 0 0 0) (by decide))) dX11_isRoad_36 ⟨rfl, (iv_w (⟨by decide, by decide⟩ : Iv 0 0 0) (by decide))⟩
  · --
    refine lv_aload_n hx hb dX11_isRoad_11 rfl (lv_at hl 1 rfl) ?_
    refine lv_sipush (v := 333) hx hb dX11_isRoad_12 (by decide) ?_
    refine o_iald cx hw ha1 (by decide) rfl (iv_in (⟨by decide, by decide⟩ : Iv 333 333 333) (by decide)) dX11_isRoad_15 (fun v5 e5 b5 => ?_)
    refine lv_aload_n hx hb dX11_isRoad_16 rfl (lv_at hl 1 rfl) ?_
    refine lv_sipush (v := 192) hx hb dX11_isRoad_17 (by decide) ?_
    refine lv_iload_n hx hb dX11_isRoad_20 rfl (lv_at hl 2 rfl) ?_
    refine lv_iadd hx hb dX11_isRoad_21 ?_
    refine lv_topi (fun v6 e6 => ?_)
    have i6 : Iv v6 192 255 := iv_add e6 (⟨by decide, by decide⟩ : Iv 192 192 192) ia2 (by decide)
    have x6 : v6.toInt = a2.toInt + 192 := (ex_add e6 (⟨by decide, by decide⟩ : Iv 192 192 192) ia2 (by decide)).trans (Int.add_comm _ _)
    refine o_iald cx hw ha1 (by decide) rfl (iv_in i6 (by decide)) dX11_isRoad_22 (fun v7 e7 b7 => ?_)
    refine lv_isub hx hb dX11_isRoad_23 ?_
    refine lv_topi (fun v8 e8 => ?_)
    refine lv_aload_n hx hb dX11_isRoad_24 rfl (lv_at hl 0 rfl) ?_
    refine g_650 cx hw ha0 k_f_X11_25 dX11_isRoad_25 (fun v9 e9 => ?_)
    refine lv_icmp_gt (tgt := 35) hx hb dX11_isRoad_28 (by decide) (fun c10 => ?_) (fun c10 => ?_)
    · --
      have i11 : Iv v9 (-2147483648) 2147483646 := iv_lt1 c10 (iv_top v9) (iv_top v8) (by decide)
      have i12 : Iv v8 (-2147483647) 2147483647 := iv_lt2 c10 (iv_top v9) (iv_top v8) (by decide)
      refine lv_iconst (v := 0) hx hb dX11_isRoad_35 (by decide) ?_
      rw [← hQ]
      exact o_rz cx rx hw (iv_nz01 (iv_w (⟨by decide, by decide⟩ : Iv 0 0 0) (by decide))) dX11_isRoad_36 ⟨rfl, (iv_w (⟨by decide, by decide⟩ : Iv 0 0 0) (by decide))⟩
    · --
      refine lv_iconst (v := 1) hx hb dX11_isRoad_31 (by decide) ?_
      refine lv_goto (tgt := 36) hx hb dX11_isRoad_32 (by decide) ?_
      rw [← hQ]
      exact o_rz cx rx hw (iv_nz01 (iv_w (⟨by decide, by decide⟩ : Iv 1 1 1) (by decide))) dX11_isRoad_36 ⟨rfl, (iv_w (⟨by decide, by decide⟩ : Iv 1 1 1) (by decide))⟩
set_option maxHeartbeats 4000000 in
set_option maxRecDepth 100000 in
theorem c_X11_canBe (a0 : Nat) (ha0 : oA L τ a0 10) (a1 : Nat) (ha1 : oA L τ a1 48) (a2 : Int32) (ia2 : Iv a2 0 63) : oMet l A L τ cy D K yX11_canBe cX11_canBe 3 (some .boolean) 1 22 [.ref a0, .ref a1, .int a2] σ (va_Qi (fun r σ1 => σ1 = σ ∧ Iv r 0 1) (oPo A L τ cy D) A) := by
  refine oMk (by decide) (Nat.le_of_ble_eq_true rfl) rfl ?_
  intro p e s m args below meth c ls cx rx hA hw hl
  generalize hQ : MQ below _ args s 0 0 A = Q
  have hx := cx.1.1
  have hb := cx.1.2.1
  have hml := cx.1.2.2.1
  have hown := cx.1.2.2.2.1
  have hts := cx.1.2.2.2.2
  have hl : lv_has ls 3 [(0, .ref a0), (1, .ref a1), (2, .int a2)] := hl
  refine lv_aload_n hx hb dX11_canBe_0 rfl (lv_at hl 0 rfl) ?_
  refine g_643 cx hw ha0 k_f_X11_13 dX11_canBe_1 (fun v1 e1 h1 => ?_)
  refine lv_iload_n hx hb dX11_canBe_4 rfl (lv_at hl 2 rfl) ?_
  refine o_iald cx hw h1 (by decide) rfl (iv_in ia2 (by decide)) dX11_canBe_5 (fun v2 e2 b2 => ?_)
  have J_37 : ∀ (H : Heap) (locs : List Loc), oI A L τ cy D s.heap σ H locs → ∀ (ls : Array Slot), lv_has ls 3 [(0, .ref a0), (1, .ref a1), (2, .int a2)] → W p l e ({ frames := 1, cells := 0, slots := 0, locals := 22 } : Room) s m args below meth c H locs 0 0 Q (F0 m 37 ls []) := by
    intro    H locs hw  ls hl
    refine lv_iconst (v := 1) hx hb dX11_canBe_37 (by decide) ?_
    refine lv_goto (tgt := 42) hx hb dX11_canBe_38 (by decide) ?_
    rw [← hQ]
    exact o_rz cx rx hw (iv_nz01 (iv_w (⟨by decide, by decide⟩ : Iv 1 1 1) (by decide))) dX11_canBe_42 ⟨rfl, (iv_w (⟨by decide, by decide⟩ : Iv 1 1 1) (by decide))⟩
  refine lv_if_eq (tgt := 37) hx hb dX11_canBe_6 (by decide) (fun c3 => ?_) (fun c3 => ?_)
  · --
    have i4 : Iv v2 0 0 := iv_eq1 c3 (iv_top v2) (⟨by decide, by decide⟩ : Iv 0 0 0) (by decide)
    exact J_37 _ _ hw _ (lv_sub hl [0, 1, 2] rfl)
  · --
    refine lv_aload_n hx hb dX11_canBe_9 rfl (lv_at hl 0 rfl) ?_
    refine g_643 cx hw ha0 k_f_X11_13 dX11_canBe_10 (fun v5 e5 h5 => ?_)
    rw [show v5 = v1 from Option.some.inj (e5.symm.trans (e1))]
    refine lv_iload_n hx hb dX11_canBe_13 rfl (lv_at hl 2 rfl) ?_
    refine o_iald cx hw h1 (by decide) rfl (iv_in ia2 (by decide)) dX11_canBe_14 (fun v6 e6 b6 => ?_)
    refine lv_iconst (v := 2) hx hb dX11_canBe_15 (by decide) ?_
    refine lv_icmp_ne (tgt := 41) hx hb dX11_canBe_16 (by decide) (fun c7 => ?_) (fun c7 => ?_)
    · --
      refine lv_iconst (v := 0) hx hb dX11_canBe_41 (by decide) ?_
      rw [← hQ]
      exact o_rz cx rx hw (iv_nz01 (iv_w (⟨by decide, by decide⟩ : Iv 0 0 0) (by decide))) dX11_canBe_42 ⟨rfl, (iv_w (⟨by decide, by decide⟩ : Iv 0 0 0) (by decide))⟩
    · --
      have i8 : Iv v6 2 2 := iv_eq1 c7 (iv_top v6) (⟨by decide, by decide⟩ : Iv 2 2 2) (by decide)
      refine lv_aload_n hx hb dX11_canBe_19 rfl (lv_at hl 1 rfl) ?_
      refine lv_sipush (v := 332) hx hb dX11_canBe_20 (by decide) ?_
      refine o_iald cx hw ha1 (by decide) rfl (iv_in (⟨by decide, by decide⟩ : Iv 332 332 332) (by decide)) dX11_canBe_23 (fun v9 e9 b9 => ?_)
      refine lv_i2l hx hb dX11_canBe_24 rfl ?_
      refine lv_topl (fun v10 e10 => ?_)
      refine lv_aload_n hx hb dX11_canBe_25 rfl (lv_at hl 0 rfl) ?_
      refine g_644 cx hw ha0 k_f_X11_16 dX11_canBe_26 (fun v11 e11 h11 => ?_)
      refine lv_iload_n hx hb dX11_canBe_29 rfl (lv_at hl 2 rfl) ?_
      refine o_iald cx hw h11 (by decide) rfl (iv_in ia2 (by decide)) dX11_canBe_30 (fun v12 e12 b12 => ?_)
      refine o_ci hw (oRunS cx hA hw q_X11_has k_m_X11_215 (As := [.long v10, .int v12]) (c_X11_has v10 v12) (by decide) rfl hl.1 rfl (Nat.le_of_ble_eq_true rfl) dX11_canBe_31 (by decide)) (fun v14 σ13 H locs hp hw => ?_)
      obtain ⟨p14_0, p14_1⟩ := hp
      rw [p14_0] at hw
      refine lv_if_eq (tgt := 41) hx hb dX11_canBe_34 (by decide) (fun c15 => ?_) (fun c15 => ?_)
      · --
        have i16 : Iv v14 0 0 := iv_eq1 c15 p14_1 (⟨by decide, by decide⟩ : Iv 0 0 0) (by decide)
        refine lv_iconst (v := 0) hx hb dX11_canBe_41 (by decide) ?_
        rw [← hQ]
        exact o_rz cx rx hw (iv_nz01 (iv_w (⟨by decide, by decide⟩ : Iv 0 0 0) (by decide))) dX11_canBe_42 ⟨rfl, (iv_w (⟨by decide, by decide⟩ : Iv 0 0 0) (by decide))⟩
      · --
        have i17 : Iv v14 1 1 := iv_ne1 c15 p14_1 (⟨by decide, by decide⟩ : Iv 0 0 0) (by decide)
        exact J_37 _ _ hw _ (lv_sub hl [0, 1, 2] rfl)
set_option maxHeartbeats 4000000 in
set_option maxRecDepth 100000 in
theorem c_X11_beside (a0 : Nat) (ha0 : oA L τ a0 10) (a1 : Int32) (ia1 : Iv a1 0 63) (a2 : Int32) : oMet l A L τ cy D K yX11_beside cX11_beside 5 (some .int) 1 22 [.ref a0, .int a1, .int a2] σ (va_Qi (fun r σ1 => σ1 = σ ∧ Iv r (-1) 63) (oPo A L τ cy D) A) := by
  refine oMk (by decide) (Nat.le_of_ble_eq_true rfl) rfl ?_
  intro p e s m args below meth c ls cx rx hA hw hl
  generalize hQ : MQ below _ args s 0 0 A = Q
  have hx := cx.1.1
  have hb := cx.1.2.1
  have hml := cx.1.2.2.1
  have hown := cx.1.2.2.2.1
  have hts := cx.1.2.2.2.2
  have hl : lv_has ls 5 [(0, .ref a0), (1, .int a1), (2, .int a2)] := hl
  refine lv_iload_n hx hb dX11_beside_0 rfl (lv_at hl 1 rfl) ?_
  refine lv_bipush (v := 8) hx hb dX11_beside_1 (by decide) ?_
  refine lv_irem hx hb dX11_beside_3 (iv_nz (⟨by decide, by decide⟩ : Iv 8 8 8) (by decide)) ?_
  refine lv_topi (fun v1 e1 => ?_)
  have i1 : Iv v1 0 7 := iv_rem e1 ia1 (⟨by decide, by decide⟩ : Iv 8 8 8) (by decide)
  refine lv_iload_n hx hb dX11_beside_4 rfl (lv_at hl 2 rfl) ?_
  refine lv_iconst (v := 1) hx hb dX11_beside_5 (by decide) ?_
  have J_23 : ∀ (k23_1 : Int32) (ik23_1 : Iv k23_1 (-1) 1), ∀ (H : Heap) (locs : List Loc), oI A L τ cy D s.heap σ H locs → ∀ (ls : Array Slot), lv_has ls 5 [(0, .ref a0), (1, .int a1), (2, .int a2)] → W p l e ({ frames := 1, cells := 0, slots := 0, locals := 22 } : Room) s m args below meth c H locs 0 0 Q (F0 m 23 ls [.int k23_1, .int v1]) := by
    intro k23_1 ik23_1   H locs hw  ls hl
    refine lv_iadd hx hb dX11_beside_23 ?_
    refine lv_topi (fun v2 e2 => ?_)
    have i2 : Iv v2 (-1) 8 := iv_add e2 i1 ik23_1 (by decide)
    refine lv_istore_n (lv' := [(3, .int v2), (0, .ref a0), (1, .int a1), (2, .int a2)]) hx hb dX11_beside_24 rfl hl (by decide) rfl (fun ls hl => ?_)
    refine lv_iload_n hx hb dX11_beside_25 rfl (lv_at hl 2 rfl) ?_
    refine lv_bipush (v := 8) hx hb dX11_beside_26 (by decide) ?_
    refine lv_idiv hx hb dX11_beside_28 (iv_nz (⟨by decide, by decide⟩ : Iv 8 8 8) (by decide)) ?_
    refine lv_topi (fun v3 e3 => ?_)
    have i3 : Iv v3 0 7 := iv_divc e3 ia1 (⟨by decide, by decide⟩ : Iv 8 8 8) (by decide)
    refine lv_iload_n hx hb dX11_beside_29 rfl (lv_at hl 3 rfl) ?_
    have J_47 : ∀ (k47_1 : Int32) (ik47_1 : Iv k47_1 (-1) 1), ∀ (H : Heap) (locs : List Loc), oI A L τ cy D s.heap σ H locs → ∀ (ls : Array Slot), lv_has ls 5 [(0, .ref a0), (1, .int a1), (2, .int a2), (3, .int v2)] → W p l e ({ frames := 1, cells := 0, slots := 0, locals := 22 } : Room) s m args below meth c H locs 0 0 Q (F0 m 47 ls [.int k47_1, .int v3]) := by
      intro k47_1 ik47_1   H locs hw  ls hl
      refine lv_iadd hx hb dX11_beside_47 ?_
      refine lv_topi (fun v4 e4 => ?_)
      have i4 : Iv v4 (-1) 8 := iv_add e4 i3 ik47_1 (by decide)
      refine lv_istore (lv' := [(4, .int v4), (0, .ref a0), (1, .int a1), (2, .int a2), (3, .int v2)]) hx hb dX11_beside_48 hl (by decide) rfl (fun ls hl => ?_)
      refine lv_iload_n hx hb dX11_beside_50 rfl (lv_at hl 4 rfl) ?_
      refine lv_iconst (v := 0) hx hb dX11_beside_51 (by decide) ?_
      refine lv_aload_n hx hb dX11_beside_52 rfl (lv_at hl 1 rfl) ?_
      refine g_641 cx hw ha0 k_f_X11_99 dX11_beside_53 (fun v5 e5 i5 => ?_)
      refine lv_iconst (v := 1) hx hb dX11_beside_56 (by decide) ?_
      refine lv_isub hx hb dX11_beside_57 ?_
      refine lv_topi (fun v6 e6 => ?_)
      have i6 : Iv v6 (-1) 7 := iv_sub e6 i5 (⟨by decide, by decide⟩ : Iv 1 1 1) (by decide)
      have x6 : v6.toInt = v5.toInt + (-1) := ex_sub e6 i5 (⟨by decide, by decide⟩ : Iv 1 1 1) (by decide)
      refine o_ci hw (oRunS cx hA hw q_X11_in k_m_X11_95 (As := [.int v2, .int 0, .int v6]) (c_X11_in v2 0 v6) (by decide) rfl hl.1 rfl (Nat.le_of_ble_eq_true rfl) dX11_beside_58 (by decide)) (fun v8 σ7 H locs hp hw => ?_)
      obtain ⟨p8_0, p8_1, p8_2⟩ := hp
      rw [p8_0] at hw
      refine lv_if_eq (tgt := 89) hx hb dX11_beside_61 (by decide) (fun c9 => ?_) (fun c9 => ?_)
      · --
        have i10 : Iv v8 0 0 := iv_eq1 c9 p8_1 (⟨by decide, by decide⟩ : Iv 0 0 0) (by decide)
        refine lv_iconst (v := (-1)) hx hb dX11_beside_89 (by decide) ?_
        rw [← hQ]
        exact o_ri cx rx hw dX11_beside_90 ⟨rfl, (iv_w (⟨by decide, by decide⟩ : Iv (-1) (-1) (-1)) (by decide))⟩
      · --
        have i11 : Iv v8 1 1 := iv_ne1 c9 p8_1 (⟨by decide, by decide⟩ : Iv 0 0 0) (by decide)
        have l12 : v2.toInt ≤ v6.toInt + 0 := le_of (p8_2 c9).2
        have i13 : Iv v2 0 7 := (fun h => iv_rel (p8_2 h) (⟨by decide, by decide⟩ : Iv 0 0 0) i6) c9
        refine lv_iload hx hb dX11_beside_64 (lv_at hl 0 rfl) ?_
        refine lv_iconst (v := 0) hx hb dX11_beside_66 (by decide) ?_
        refine lv_aload_n hx hb dX11_beside_67 rfl (lv_at hl 1 rfl) ?_
        refine g_642 cx hw ha0 k_f_X11_102 dX11_beside_68 (fun v14 e14 i14 => ?_)
        refine lv_iconst (v := 1) hx hb dX11_beside_71 (by decide) ?_
        refine lv_isub hx hb dX11_beside_72 ?_
        refine lv_topi (fun v15 e15 => ?_)
        have i15 : Iv v15 (-1) 7 := iv_sub e15 i14 (⟨by decide, by decide⟩ : Iv 1 1 1) (by decide)
        have x15 : v15.toInt = v14.toInt + (-1) := ex_sub e15 i14 (⟨by decide, by decide⟩ : Iv 1 1 1) (by decide)
        refine o_ci hw (oRunS cx hA hw q_X11_in k_m_X11_95 (As := [.int v4, .int 0, .int v15]) (c_X11_in v4 0 v15) (by decide) rfl hl.1 rfl (Nat.le_of_ble_eq_true rfl) dX11_beside_73 (by decide)) (fun v17 σ16 H locs hp hw => ?_)
        obtain ⟨p17_0, p17_1, p17_2⟩ := hp
        rw [p17_0] at hw
        refine lv_if_eq (tgt := 89) hx hb dX11_beside_76 (by decide) (fun c18 => ?_) (fun c18 => ?_)
        · --
          have i19 : Iv v17 0 0 := iv_eq1 c18 p17_1 (⟨by decide, by decide⟩ : Iv 0 0 0) (by decide)
          refine lv_iconst (v := (-1)) hx hb dX11_beside_89 (by decide) ?_
          rw [← hQ]
          exact o_ri cx rx hw dX11_beside_90 ⟨rfl, (iv_w (⟨by decide, by decide⟩ : Iv (-1) (-1) (-1)) (by decide))⟩
        · --
          have i20 : Iv v17 1 1 := iv_ne1 c18 p17_1 (⟨by decide, by decide⟩ : Iv 0 0 0) (by decide)
          have l21 : v4.toInt ≤ v15.toInt + 0 := le_of (p17_2 c18).2
          have i22 : Iv v4 0 7 := (fun h => iv_rel (p17_2 h) (⟨by decide, by decide⟩ : Iv 0 0 0) i15) c18
          refine lv_bipush (v := 8) hx hb dX11_beside_79 (by decide) ?_
          refine lv_iload hx hb dX11_beside_81 (lv_at hl 0 rfl) ?_
          refine lv_imul hx hb dX11_beside_83 ?_
          refine lv_topi (fun v23 e23 => ?_)
          have i23 : Iv v23 0 56 := iv_mul e23 (⟨by decide, by decide⟩ : Iv 8 8 8) i22 (by decide)
          refine lv_iload_n hx hb dX11_beside_84 rfl (lv_at hl 4 rfl) ?_
          refine lv_iadd hx hb dX11_beside_85 ?_
          refine lv_topi (fun v24 e24 => ?_)
          have i24 : Iv v24 0 63 := iv_add e24 i23 i13 (by decide)
          refine lv_goto (tgt := 90) hx hb dX11_beside_86 (by decide) ?_
          rw [← hQ]
          exact o_ri cx rx hw dX11_beside_90 ⟨rfl, (iv_w i24 (by decide))⟩
    refine lv_if_ne (tgt := 37) hx hb dX11_beside_30 (by decide) (fun c25 => ?_) (fun c25 => ?_)
    · --
      refine lv_iload_n hx hb dX11_beside_37 rfl (lv_at hl 3 rfl) ?_
      refine lv_iconst (v := 2) hx hb dX11_beside_38 (by decide) ?_
      refine lv_icmp_ne (tgt := 46) hx hb dX11_beside_39 (by decide) (fun c26 => ?_) (fun c26 => ?_)
      · --
        refine lv_iconst (v := 0) hx hb dX11_beside_46 (by decide) ?_
        exact J_47 0 (iv_w (⟨by decide, by decide⟩ : Iv 0 0 0) (by decide)) _ _ hw _ (lv_sub hl [1, 2, 3, 0] rfl)
      · --
        have i27 : Iv a2 2 2 := iv_eq1 c26 (iv_top a2) (⟨by decide, by decide⟩ : Iv 2 2 2) (by decide)
        refine lv_iconst (v := 1) hx hb dX11_beside_42 (by decide) ?_
        refine lv_goto (tgt := 47) hx hb dX11_beside_43 (by decide) ?_
        exact J_47 1 (iv_w (⟨by decide, by decide⟩ : Iv 1 1 1) (by decide)) _ _ hw _ (lv_sub hl [1, 2, 3, 0] rfl)
    · --
      have i28 : Iv a2 0 0 := iv_eq1 c25 (iv_top a2) (⟨by decide, by decide⟩ : Iv 0 0 0) (by decide)
      refine lv_iconst (v := (-1)) hx hb dX11_beside_33 (by decide) ?_
      refine lv_goto (tgt := 47) hx hb dX11_beside_34 (by decide) ?_
      exact J_47 (-1) (iv_w (⟨by decide, by decide⟩ : Iv (-1) (-1) (-1)) (by decide)) _ _ hw _ (lv_sub hl [1, 2, 3, 0] rfl)
  refine lv_icmp_ne (tgt := 13) hx hb dX11_beside_6 (by decide) (fun c29 => ?_) (fun c29 => ?_)
  · --
    refine lv_iload_n hx hb dX11_beside_13 rfl (lv_at hl 2 rfl) ?_
    refine lv_iconst (v := 3) hx hb dX11_beside_14 (by decide) ?_
    refine lv_icmp_ne (tgt := 22) hx hb dX11_beside_15 (by decide) (fun c30 => ?_) (fun c30 => ?_)
    · --
      refine lv_iconst (v := 0) hx hb dX11_beside_22 (by decide) ?_
      exact J_23 0 (iv_w (⟨by decide, by decide⟩ : Iv 0 0 0) (by decide)) _ _ hw _ (lv_sub hl [0, 1, 2] rfl)
    · --
      have i31 : Iv a2 3 3 := iv_eq1 c30 (iv_top a2) (⟨by decide, by decide⟩ : Iv 3 3 3) (by decide)
      refine lv_iconst (v := (-1)) hx hb dX11_beside_18 (by decide) ?_
      refine lv_goto (tgt := 23) hx hb dX11_beside_19 (by decide) ?_
      exact J_23 (-1) (iv_w (⟨by decide, by decide⟩ : Iv (-1) (-1) (-1)) (by decide)) _ _ hw _ (lv_sub hl [0, 1, 2] rfl)
  · --
    have i32 : Iv a2 1 1 := iv_eq1 c29 (iv_top a2) (⟨by decide, by decide⟩ : Iv 1 1 1) (by decide)
    refine lv_iconst (v := 1) hx hb dX11_beside_9 (by decide) ?_
    refine lv_goto (tgt := 23) hx hb dX11_beside_10 (by decide) ?_
    exact J_23 1 (iv_w (⟨by decide, by decide⟩ : Iv 1 1 1) (by decide)) _ _ hw _ (lv_sub hl [0, 1, 2] rfl)
end OM
