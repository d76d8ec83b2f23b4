section OM
variable {l : Launch} {A : Nat → Prop} {L : List Nat} {τ : Nat → Nat} {cy : Nat → ClassId} {D : va_G} {K : (Nat → Nat) × (Nat → Nat)} {σ : oSt}
abbrev fs_X7_append : List Nat := [385]
abbrev ts_X7_append : List Nat := [35]
set_option maxHeartbeats 4000000 in
set_option maxRecDepth 100000 in
theorem c_X7_append (a0 : Nat) (ha0 : oA L τ a0 6) (a1 : Int32) : oMet l A L τ cy D K yX7_append cX7_append 3 (some .boolean) 0 0 [.ref a0, .int a1] σ (va_Qi (fun r σ1 => oFr τ fs_X7_append ts_X7_append σ σ1 ∧ Iv r 0 1 ∧ (((σ.1 385 a0).toInt + 4 ≤ 80 ∧ r.toInt = 1 ∧ (σ1.1 385 a0).toInt = (σ.1 385 a0).toInt + 4) ∨ (80 < (σ.1 385 a0).toInt + 4 ∧ r.toInt = 0 ∧ (σ1.1 385 a0).toInt = (σ.1 385 a0).toInt))) (oPo A L τ cy D) A) := by
  refine oMk (by decide) (Nat.le_of_ble_eq_true rfl) rfl ?_
  intro p e s m args below meth c ls cx rx hA hw hl
  generalize hQ : MQ below _ args s 0 0 A = Q
  have hx := cx.1.1
  have hb := cx.1.2.1
  have hml := cx.1.2.2.1
  have hown := cx.1.2.2.2.1
  have hts := cx.1.2.2.2.2
  have hl : lv_has ls 3 [(0, .ref a0), (1, .int a1)] := hl
  have fr : oFr τ fs_X7_append ts_X7_append σ σ := oFr_rf
  refine lv_aload_n hx hb dX7_append_0 rfl (lv_at hl 0 rfl) ?_
  refine g_385 cx hw ha0 k_f_X7_19 dX7_append_1 (fun v1 e1 i1 => ?_)
  have z1 : v1.toInt = (σ.1 385 a0).toInt := congrArg Int32.toInt e1
  refine lv_iconst (v := 4) hx hb dX7_append_4 (by decide) ?_
  refine lv_iadd hx hb dX7_append_5 ?_
  refine lv_topi (fun v2 e2 => ?_)
  have i2 : Iv v2 4 84 := iv_add e2 i1 (⟨by decide, by decide⟩ : Iv 4 4 4) (by decide)
  have x2 : v2.toInt = v1.toInt + 4 := ex_add e2 i1 (⟨by decide, by decide⟩ : Iv 4 4 4) (by decide)
  refine lv_bipush (v := 80) hx hb dX7_append_6 (by decide) ?_
  refine lv_icmp_le (tgt := 13) hx hb dX7_append_8 (by decide) (fun c3 => ?_) (fun c3 => ?_)
  · --
    have i4 : Iv v2 4 80 := iv_le1 c3 i2 (⟨by decide, by decide⟩ : Iv 80 80 80) (by decide)
    have i5 : Iv v1 0 76 := iv_lin x2 i4 i1 (by decide)
    refine lv_bipush (v := 24) hx hb dX7_append_13 (by decide) ?_
    refine lv_istore_n (lv' := [(2, .int 24), (0, .ref a0), (1, .int a1)]) hx hb dX7_append_15 rfl hl (by decide) rfl (fun ls hl => ?_)
    refine lv_iload_n hx hb dX7_append_16 rfl (lv_at hl 0 rfl) ?_
    refine lv_if_lt (tgt := 53) hx hb dX7_append_17 (by decide) (fun c6 => ?_) (fun c6 => ?_)
    · --
      exact iv_no (iv_lt1 (b' := 23) c6 (⟨by decide, by decide⟩ : Iv 24 24 24) (⟨by decide, by decide⟩ : Iv 0 0 0) (by decide)) (by decide)
    · --
      refine lv_aload_n hx hb dX7_append_20 rfl (lv_at hl 1 rfl) ?_
      refine g_384 cx hw ha0 k_f_X7_11 dX7_append_21 (fun v7 e7 h7 => ?_)
      refine lv_aload_n hx hb dX7_append_24 rfl (lv_at hl 1 rfl) ?_
      refine g_385 cx hw ha0 k_f_X7_19 dX7_append_25 (fun v8 e8 i8 => ?_)
      rw [show v8 = v1 from e8.trans e1.symm]
      refine lv_iload_n hx hb dX7_append_28 rfl (lv_at hl 2 rfl) ?_
      refine lv_iload_n hx hb dX7_append_29 rfl (lv_at hl 0 rfl) ?_
      refine lv_iushr hx hb dX7_append_30 rfl ?_
      refine lv_topi (fun v9 e9 => ?_)
      refine lv_sipush (v := 255) hx hb dX7_append_31 (by decide) ?_
      refine lv_iand hx hb dX7_append_34 ?_
      refine lv_topi (fun v10 e10 => ?_)
      have i10 : Iv v10 0 255 := iv_and e10 (⟨by decide, by decide⟩ : Iv 255 255 255) (by decide)
      refine lv_i2c hx hb dX7_append_35 rfl ?_
      refine lv_topi (fun v11 e11 => ?_)
      have i11 : Iv v11 0 65535 := iv_i2c e11
      refine o_cast cx hw h7 (by decide) rfl (iv_in i5 (by decide)) trivial dX7_append_36 (fun σ12 H locs eσ12 hw => ?_)
      have fr := oFr_p fr eσ12 h7 (by decide)
      refine lv_aload_n hx hb dX7_append_37 rfl (lv_at hl 1 rfl) ?_
      refine lv_dup hx hb dX7_append_38 rfl ?_
      refine g_385 cx hw ha0 k_f_X7_19 dX7_append_39 (fun v13 e13 i13 => ?_)
      rw [show v13 = v1 from e13.trans ((kp_p eσ12).trans e1.symm)]
      refine lv_iconst (v := 1) hx hb dX7_append_42 (by decide) ?_
      refine lv_iadd hx hb dX7_append_43 ?_
      refine lv_topi (fun v14 e14 => ?_)
      have i14 : Iv v14 1 77 := iv_add e14 i5 (⟨by decide, by decide⟩ : Iv 1 1 1) (by decide)
      have x14 : v14.toInt = v1.toInt + 1 := ex_add e14 i5 (⟨by decide, by decide⟩ : Iv 1 1 1) (by decide)
      refine p_385 cx hw ha0 (iv_w i14 (by decide)) k_f_X7_19 dX7_append_44 (fun σ15 H locs eσ15 hw => ?_)
      have fr := oFr_i fr eσ15 (by decide)
      refine lv_iinc (v := 16) (lv' := [(2, .int 16), (0, .ref a0), (1, .int a1)]) hx hb dX7_append_47 hl (k := 0) rfl (by decide) (by decide) rfl (fun ls hl => ?_)
      refine lv_goto (tgt := 16) hx hb dX7_append_50 (by decide) ?_
      refine lv_iload_n hx hb dX7_append_16 rfl (lv_at hl 0 rfl) ?_
      refine lv_if_lt (tgt := 53) hx hb dX7_append_17 (by decide) (fun c17 => ?_) (fun c17 => ?_)
      · --
        exact iv_no (iv_lt1 (b' := 15) c17 (⟨by decide, by decide⟩ : Iv 16 16 16) (⟨by decide, by decide⟩ : Iv 0 0 0) (by decide)) (by decide)
      · --
        refine lv_aload_n hx hb dX7_append_20 rfl (lv_at hl 1 rfl) ?_
        refine g_384 cx hw ha0 k_f_X7_11 dX7_append_21 (fun v18 e18 h18 => ?_)
        rw [show v18 = v7 from Option.some.inj (e18.symm.trans (((kr_i eσ15).trans ((kr_p eσ12).trans e7))))]
        refine lv_aload_n hx hb dX7_append_24 rfl (lv_at hl 1 rfl) ?_
        refine g_385 cx hw ha0 k_f_X7_19 dX7_append_25 (fun v19 e19 i19 => ?_)
        rw [show v19 = v14 from e19.trans (kp_s eσ15)]
        refine lv_iload_n hx hb dX7_append_28 rfl (lv_at hl 2 rfl) ?_
        refine lv_iload_n hx hb dX7_append_29 rfl (lv_at hl 0 rfl) ?_
        refine lv_iushr hx hb dX7_append_30 rfl ?_
        refine lv_topi (fun v20 e20 => ?_)
        have i20 : Iv v20 0 65535 := iv_ushr16 e20
        refine lv_sipush (v := 255) hx hb dX7_append_31 (by decide) ?_
        refine lv_iand hx hb dX7_append_34 ?_
        refine lv_topi (fun v21 e21 => ?_)
        have i21 : Iv v21 0 255 := iv_and e21 (⟨by decide, by decide⟩ : Iv 255 255 255) (by decide)
        refine lv_i2c hx hb dX7_append_35 rfl ?_
        refine lv_topi (fun v22 e22 => ?_)
        have i22 : Iv v22 0 65535 := iv_i2c e22
        refine o_cast cx hw h7 (by decide) rfl (iv_in i14 (by decide)) trivial dX7_append_36 (fun σ23 H locs eσ23 hw => ?_)
        have fr := oFr_p fr eσ23 h7 (by decide)
        refine lv_aload_n hx hb dX7_append_37 rfl (lv_at hl 1 rfl) ?_
        refine lv_dup hx hb dX7_append_38 rfl ?_
        refine g_385 cx hw ha0 k_f_X7_19 dX7_append_39 (fun v24 e24 i24 => ?_)
        rw [show v24 = v14 from e24.trans ((kp_p eσ23).trans (kp_s eσ15))]
        refine lv_iconst (v := 1) hx hb dX7_append_42 (by decide) ?_
        refine lv_iadd hx hb dX7_append_43 ?_
        refine lv_topi (fun v25 e25 => ?_)
        have i25 : Iv v25 2 78 := iv_add e25 i14 (⟨by decide, by decide⟩ : Iv 1 1 1) (by decide)
        have x25 : v25.toInt = v14.toInt + 1 := ex_add e25 i14 (⟨by decide, by decide⟩ : Iv 1 1 1) (by decide)
        refine p_385 cx hw ha0 (iv_w i25 (by decide)) k_f_X7_19 dX7_append_44 (fun σ26 H locs eσ26 hw => ?_)
        have fr := oFr_i fr eσ26 (by decide)
        refine lv_iinc (v := 8) (lv' := [(2, .int 8), (0, .ref a0), (1, .int a1)]) hx hb dX7_append_47 hl (k := 0) rfl (by decide) (by decide) rfl (fun ls hl => ?_)
        refine lv_goto (tgt := 16) hx hb dX7_append_50 (by decide) ?_
        refine lv_iload_n hx hb dX7_append_16 rfl (lv_at hl 0 rfl) ?_
        refine lv_if_lt (tgt := 53) hx hb dX7_append_17 (by decide) (fun c28 => ?_) (fun c28 => ?_)
        · --
          exact iv_no (iv_lt1 (b' := 7) c28 (⟨by decide, by decide⟩ : Iv 8 8 8) (⟨by decide, by decide⟩ : Iv 0 0 0) (by decide)) (by decide)
        · --
          refine lv_aload_n hx hb dX7_append_20 rfl (lv_at hl 1 rfl) ?_
          refine g_384 cx hw ha0 k_f_X7_11 dX7_append_21 (fun v29 e29 h29 => ?_)
          rw [show v29 = v7 from Option.some.inj (e29.symm.trans (((kr_i eσ26).trans ((kr_p eσ23).trans ((kr_i eσ15).trans ((kr_p eσ12).trans e7))))))]
          refine lv_aload_n hx hb dX7_append_24 rfl (lv_at hl 1 rfl) ?_
          refine g_385 cx hw ha0 k_f_X7_19 dX7_append_25 (fun v30 e30 i30 => ?_)
          rw [show v30 = v25 from e30.trans (kp_s eσ26)]
          refine lv_iload_n hx hb dX7_append_28 rfl (lv_at hl 2 rfl) ?_
          refine lv_iload_n hx hb dX7_append_29 rfl (lv_at hl 0 rfl) ?_
          refine lv_iushr hx hb dX7_append_30 rfl ?_
          refine lv_topi (fun v31 e31 => ?_)
          refine lv_sipush (v := 255) hx hb dX7_append_31 (by decide) ?_
          refine lv_iand hx hb dX7_append_34 ?_
          refine lv_topi (fun v32 e32 => ?_)
          have i32 : Iv v32 0 255 := iv_and e32 (⟨by decide, by decide⟩ : Iv 255 255 255) (by decide)
          refine lv_i2c hx hb dX7_append_35 rfl ?_
          refine lv_topi (fun v33 e33 => ?_)
          have i33 : Iv v33 0 65535 := iv_i2c e33
          refine o_cast cx hw h7 (by decide) rfl (iv_in i25 (by decide)) trivial dX7_append_36 (fun σ34 H locs eσ34 hw => ?_)
          have fr := oFr_p fr eσ34 h7 (by decide)
          refine lv_aload_n hx hb dX7_append_37 rfl (lv_at hl 1 rfl) ?_
          refine lv_dup hx hb dX7_append_38 rfl ?_
          refine g_385 cx hw ha0 k_f_X7_19 dX7_append_39 (fun v35 e35 i35 => ?_)
          rw [show v35 = v25 from e35.trans ((kp_p eσ34).trans (kp_s eσ26))]
          refine lv_iconst (v := 1) hx hb dX7_append_42 (by decide) ?_
          refine lv_iadd hx hb dX7_append_43 ?_
          refine lv_topi (fun v36 e36 => ?_)
          have i36 : Iv v36 3 79 := iv_add e36 i25 (⟨by decide, by decide⟩ : Iv 1 1 1) (by decide)
          have x36 : v36.toInt = v25.toInt + 1 := ex_add e36 i25 (⟨by decide, by decide⟩ : Iv 1 1 1) (by decide)
          refine p_385 cx hw ha0 (iv_w i36 (by decide)) k_f_X7_19 dX7_append_44 (fun σ37 H locs eσ37 hw => ?_)
          have fr := oFr_i fr eσ37 (by decide)
          refine lv_iinc (v := 0) (lv' := [(2, .int 0), (0, .ref a0), (1, .int a1)]) hx hb dX7_append_47 hl (k := 0) rfl (by decide) (by decide) rfl (fun ls hl => ?_)
          refine lv_goto (tgt := 16) hx hb dX7_append_50 (by decide) ?_
          refine lv_iload_n hx hb dX7_append_16 rfl (lv_at hl 0 rfl) ?_
          refine lv_if_lt (tgt := 53) hx hb dX7_append_17 (by decide) (fun c39 => ?_) (fun c39 => ?_)
          · --
            exact iv_no (iv_lt1 (b' := (-1)) c39 (⟨by decide, by decide⟩ : Iv 0 0 0) (⟨by decide, by decide⟩ : Iv 0 0 0) (by decide)) (by decide)
          · --
            refine lv_aload_n hx hb dX7_append_20 rfl (lv_at hl 1 rfl) ?_
            refine g_384 cx hw ha0 k_f_X7_11 dX7_append_21 (fun v40 e40 h40 => ?_)
            rw [show v40 = v7 from Option.some.inj (e40.symm.trans (((kr_i eσ37).trans ((kr_p eσ34).trans ((kr_i eσ26).trans ((kr_p eσ23).trans ((kr_i eσ15).trans ((kr_p eσ12).trans e7))))))))]
            refine lv_aload_n hx hb dX7_append_24 rfl (lv_at hl 1 rfl) ?_
            refine g_385 cx hw ha0 k_f_X7_19 dX7_append_25 (fun v41 e41 i41 => ?_)
            rw [show v41 = v36 from e41.trans (kp_s eσ37)]
            refine lv_iload_n hx hb dX7_append_28 rfl (lv_at hl 2 rfl) ?_
            refine lv_iload_n hx hb dX7_append_29 rfl (lv_at hl 0 rfl) ?_
            refine lv_iushr hx hb dX7_append_30 rfl ?_
            refine lv_topi (fun v42 e42 => ?_)
            refine lv_sipush (v := 255) hx hb dX7_append_31 (by decide) ?_
            refine lv_iand hx hb dX7_append_34 ?_
            refine lv_topi (fun v43 e43 => ?_)
            have i43 : Iv v43 0 255 := iv_and e43 (⟨by decide, by decide⟩ : Iv 255 255 255) (by decide)
            refine lv_i2c hx hb dX7_append_35 rfl ?_
            refine lv_topi (fun v44 e44 => ?_)
            have i44 : Iv v44 0 65535 := iv_i2c e44
            refine o_cast cx hw h7 (by decide) rfl (iv_in i36 (by decide)) trivial dX7_append_36 (fun σ45 H locs eσ45 hw => ?_)
            have fr := oFr_p fr eσ45 h7 (by decide)
            refine lv_aload_n hx hb dX7_append_37 rfl (lv_at hl 1 rfl) ?_
            refine lv_dup hx hb dX7_append_38 rfl ?_
            refine g_385 cx hw ha0 k_f_X7_19 dX7_append_39 (fun v46 e46 i46 => ?_)
            rw [show v46 = v36 from e46.trans ((kp_p eσ45).trans (kp_s eσ37))]
            refine lv_iconst (v := 1) hx hb dX7_append_42 (by decide) ?_
            refine lv_iadd hx hb dX7_append_43 ?_
            refine lv_topi (fun v47 e47 => ?_)
            have i47 : Iv v47 4 80 := iv_add e47 i36 (⟨by decide, by decide⟩ : Iv 1 1 1) (by decide)
            have x47 : v47.toInt = v36.toInt + 1 := ex_add e47 i36 (⟨by decide, by decide⟩ : Iv 1 1 1) (by decide)
            refine p_385 cx hw ha0 (iv_w i47 (by decide)) k_f_X7_19 dX7_append_44 (fun σ48 H locs eσ48 hw => ?_)
            have fr := oFr_i fr eσ48 (by decide)
            refine lv_iinc (v := (-8)) (lv' := [(2, .int (-8)), (0, .ref a0), (1, .int a1)]) hx hb dX7_append_47 hl (k := 0) rfl (by decide) (by decide) rfl (fun ls hl => ?_)
            refine lv_goto (tgt := 16) hx hb dX7_append_50 (by decide) ?_
            refine lv_iload_n hx hb dX7_append_16 rfl (lv_at hl 0 rfl) ?_
            refine lv_if_lt (tgt := 53) hx hb dX7_append_17 (by decide) (fun c50 => ?_) (fun c50 => ?_)
            · --
              refine lv_iconst (v := 1) hx hb dX7_append_53 (by decide) ?_
              rw [← hQ]
              exact o_rz cx rx hw (iv_nz01 (iv_w (⟨by decide, by decide⟩ : Iv 1 1 1) (by decide))) dX7_append_54 ⟨fr, (iv_w (⟨by decide, by decide⟩ : Iv 1 1 1) (by decide)), (by exact (by have := (i47).1; have := (i47).2; have := (i4).1; have := (i4).2; have := (i5).1; have := (i5).2; have := (i10).1; have := (i10).2; have := (i11).1; have := (i11).2; have := (i14).1; have := (i14).2; have := (i20).1; have := (i20).2; have := (i21).1; have := (i21).2; have := (i22).1; have := (i22).2; have := (i25).1; have := (i25).2; have := (i32).1; have := (i32).2; have := (i33).1; have := (i33).2; have := (i36).1; have := (i36).2; have := (i43).1; have := (i43).2; have := (i44).1; have := (i44).2; have : (σ48.1 385 a0).toInt = (v47 : Int32).toInt := congrArg Int32.toInt (show σ48.1 385 a0 = v47 from (kp_s eσ48)); have : (v2 : Int32).toInt ≤ (80 : Int32).toInt := iv_le.mp c3; have : (0 : Int32).toInt ≤ (24 : Int32).toInt := iv_le.mp (iv_nlt c6); have : (0 : Int32).toInt ≤ (16 : Int32).toInt := iv_le.mp (iv_nlt c17); have : (0 : Int32).toInt ≤ (8 : Int32).toInt := iv_le.mp (iv_nlt c28); have : (0 : Int32).toInt ≤ (0 : Int32).toInt := iv_le.mp (iv_nlt c39); have : ((-8) : Int32).toInt < (0 : Int32).toInt := iv_lt.mp c50; have : ((-8) : Int32).toInt = (-8) := (by decide); have : (0 : Int32).toInt = 0 := (by decide); have : (1 : Int32).toInt = 1 := (by decide); have : (16 : Int32).toInt = 16 := (by decide); have : (24 : Int32).toInt = 24 := (by decide); have : (8 : Int32).toInt = 8 := (by decide); have : (80 : Int32).toInt = 80 := (by decide); omega))⟩
            · --
              exact iv_no (iv_le1 (b' := (-1)) (iv_nlt c50) (⟨by decide, by decide⟩ : Iv 0 0 0) (⟨by decide, by decide⟩ : Iv (-8) (-8) (-8)) (by decide)) (by decide)
  · --
    have i51 : Iv v2 81 84 := iv_lt2 (iv_nle c3) (⟨by decide, by decide⟩ : Iv 80 80 80) i2 (by decide)
    have i52 : Iv v1 77 80 := iv_lin x2 i51 i1 (by decide)
    refine lv_iconst (v := 0) hx hb dX7_append_11 (by decide) ?_
    rw [← hQ]
    exact o_rz cx rx hw (iv_nz01 (iv_w (⟨by decide, by decide⟩ : Iv 0 0 0) (by decide))) dX7_append_12 ⟨fr, (iv_w (⟨by decide, by decide⟩ : Iv 0 0 0) (by decide)), (by exact (by have := (i52).1; have := (i52).2; have := (i51).1; have := (i51).2; have : (σ.1 385 a0).toInt = (v1 : Int32).toInt := congrArg Int32.toInt (show σ.1 385 a0 = v1 from e1.symm); have : (80 : Int32).toInt < (v2 : Int32).toInt := iv_lt.mp (iv_nle c3); have : (0 : Int32).toInt = 0 := (by decide); have : (80 : Int32).toInt = 80 := (by decide); omega))⟩
abbrev fs_X7_begin : List Nat := [386, 387]
abbrev ts_X7_begin : List Nat := []
set_option maxHeartbeats 4000000 in
set_option maxRecDepth 100000 in
theorem c_X7_begin (a0 : Nat) (ha0 : oA L τ a0 6) (a1 : Int32) : oMet l A L τ cy D K yX7_begin cX7_begin 2 none 0 0 [.ref a0, .int a1] σ (va_Qv (fun σ1 => oFr τ fs_X7_begin ts_X7_begin σ σ1) (oPo A L τ cy D) A) := by
  refine oMk (by decide) (Nat.le_of_ble_eq_true rfl) rfl ?_
  intro p e s m args below meth c ls cx rx hA hw hl
  generalize hQ : MQ below _ args s 0 0 A = Q
  have hx := cx.1.1
  have hb := cx.1.2.1
  have hml := cx.1.2.2.1
  have hown := cx.1.2.2.2.1
  have hts := cx.1.2.2.2.2
  have hl : lv_has ls 2 [(0, .ref a0), (1, .int a1)] := hl
  have fr : oFr τ fs_X7_begin ts_X7_begin σ σ := oFr_rf
  refine lv_aload_n hx hb dX7_begin_0 rfl (lv_at hl 0 rfl) ?_
  refine lv_iconst (v := 0) hx hb dX7_begin_1 (by decide) ?_
  refine p_386 cx hw ha0 k_f_X7_37 dX7_begin_2 (fun σ1 H locs eσ1 hw => ?_)
  have fr := oFr_i fr eσ1 (by decide)
  refine lv_aload_n hx hb dX7_begin_5 rfl (lv_at hl 0 rfl) ?_
  refine lv_iload_n hx hb dX7_begin_6 rfl (lv_at hl 1 rfl) ?_
  refine p_387 cx hw ha0 k_f_X7_15 dX7_begin_7 (fun σ2 H locs eσ2 hw => ?_)
  have fr := oFr_i fr eσ2 (by decide)
  rw [← hQ]
  exact o_rv cx rx hw dX7_begin_10 fr
set_option maxHeartbeats 4000000 in
set_option maxRecDepth 100000 in
theorem c_X7_here (a0 : Nat) (ha0 : oA L τ a0 6) : oMet l A L τ cy D K yX7_here cX7_here 1 (some .int) 0 0 [.ref a0] σ (va_Qi (fun r σ1 => σ1 = σ) (oPo A L τ cy D) A) := by
  refine oMk (by decide) (Nat.le_of_ble_eq_true rfl) rfl ?_
  intro p e s m args below meth c ls cx rx hA hw hl
  generalize hQ : MQ below _ args s 0 0 A = Q
  have hx := cx.1.1
  have hb := cx.1.2.1
  have hml := cx.1.2.2.1
  have hown := cx.1.2.2.2.1
  have hts := cx.1.2.2.2.2
  have hl : lv_has ls 1 [(0, .ref a0)] := hl
  refine lv_aload_n hx hb dX7_here_0 rfl (lv_at hl 0 rfl) ?_
  refine g_386 cx hw ha0 k_f_X7_37 dX7_here_1 (fun v1 e1 => ?_)
  refine lv_aload_n hx hb dX7_here_4 rfl (lv_at hl 0 rfl) ?_
  refine g_387 cx hw ha0 k_f_X7_15 dX7_here_5 (fun v2 e2 => ?_)
  refine lv_icmp_lt (tgt := 29) hx hb dX7_here_8 (by decide) (fun c3 => ?_) (fun c3 => ?_)
  · --
    have i4 : Iv v1 (-2147483648) 2147483646 := iv_lt1 c3 (iv_top v1) (iv_top v2) (by decide)
    have i5 : Iv v2 (-2147483647) 2147483647 := iv_lt2 c3 (iv_top v1) (iv_top v2) (by decide)
    refine lv_aload_n hx hb dX7_here_29 rfl (lv_at hl 0 rfl) ?_
    refine g_386 cx hw ha0 k_f_X7_37 dX7_here_30 (fun v6 e6 => ?_)
    rw [show v6 = v1 from e6.trans e1.symm]
    refine lv_if_lt (tgt := 59) hx hb dX7_here_33 (by decide) (fun c7 => ?_) (fun c7 => ?_)
    · --
      have i8 : Iv v1 (-2147483648) (-1) := iv_lt1 c7 i4 (⟨by decide, by decide⟩ : Iv 0 0 0) (by decide)
      refine lv_iconst (v := (-1)) hx hb dX7_here_59 (by decide) ?_
      rw [← hQ]
      exact o_ri cx rx hw dX7_here_60 rfl
    · --
      have i9 : Iv v1 0 2147483646 := iv_le2 (iv_nlt c7) (⟨by decide, by decide⟩ : Iv 0 0 0) i4 (by decide)
      refine lv_aload_n hx hb dX7_here_36 rfl (lv_at hl 0 rfl) ?_
      refine g_386 cx hw ha0 k_f_X7_37 dX7_here_37 (fun v10 e10 => ?_)
      rw [show v10 = v1 from e10.trans e1.symm]
      refine lv_aload_n hx hb dX7_here_40 rfl (lv_at hl 0 rfl) ?_
      refine g_385 cx hw ha0 k_f_X7_19 dX7_here_41 (fun v11 e11 i11 => ?_)
      refine lv_icmp_ge (tgt := 59) hx hb dX7_here_44 (by decide) (fun c12 => ?_) (fun c12 => ?_)
      · --
        refine lv_iconst (v := (-1)) hx hb dX7_here_59 (by decide) ?_
        rw [← hQ]
        exact o_ri cx rx hw dX7_here_60 rfl
      · --
        have i13 : Iv v1 0 79 := iv_lt1 (iv_nle c12) i9 i11 (by decide)
        have i14 : Iv v11 1 80 := iv_lt2 (iv_nle c12) i9 i11 (by decide)
        refine lv_aload_n hx hb dX7_here_47 rfl (lv_at hl 0 rfl) ?_
        refine g_384 cx hw ha0 k_f_X7_11 dX7_here_48 (fun v15 e15 h15 => ?_)
        refine lv_aload_n hx hb dX7_here_51 rfl (lv_at hl 0 rfl) ?_
        refine g_386 cx hw ha0 k_f_X7_37 dX7_here_52 (fun v16 e16 => ?_)
        rw [show v16 = v1 from e16.trans e1.symm]
        refine o_cald cx hw h15 (by decide) rfl (iv_in i13 (by decide)) dX7_here_55 (fun v17 e17 b17 => ?_)
        refine lv_goto (tgt := 60) hx hb dX7_here_56 (by decide) ?_
        rw [← hQ]
        exact o_ri cx rx hw dX7_here_60 rfl
  · --
    refine lv_aload_n hx hb dX7_here_11 rfl (lv_at hl 0 rfl) ?_
    refine g_385 cx hw ha0 k_f_X7_19 dX7_here_12 (fun v18 e18 i18 => ?_)
    refine lv_aload_n hx hb dX7_here_15 rfl (lv_at hl 0 rfl) ?_
    refine g_387 cx hw ha0 k_f_X7_15 dX7_here_16 (fun v19 e19 => ?_)
    rw [show v19 = v2 from e19.trans e2.symm]
    refine lv_icmp_le (tgt := 27) hx hb dX7_here_19 (by decide) (fun c20 => ?_) (fun c20 => ?_)
    · --
      have i21 : Iv v2 0 2147483647 := iv_le2 c20 i18 (iv_top v2) (by decide)
      refine lv_iconst (v := (-1)) hx hb dX7_here_27 (by decide) ?_
      rw [← hQ]
      exact o_ri cx rx hw dX7_here_28 rfl
    · --
      have i22 : Iv v2 (-2147483648) 79 := iv_lt1 (iv_nle c20) (iv_top v2) i18 (by decide)
      refine lv_bipush (v := (-2)) hx hb dX7_here_22 (by decide) ?_
      refine lv_goto (tgt := 28) hx hb dX7_here_24 (by decide) ?_
      rw [← hQ]
      exact o_ri cx rx hw dX7_here_28 rfl
set_option maxHeartbeats 4000000 in
set_option maxRecDepth 100000 in
theorem c_X7_isAtEnd (a0 : Nat) (ha0 : oA L τ a0 6) : oMet l A L τ cy D K yX7_isAtEnd cX7_isAtEnd 1 (some .boolean) 1 20 [.ref a0] σ (va_Qi (fun r σ1 => σ1 = σ ∧ Iv r 0 1) (oPo A L τ cy D) A) := by
  refine oMk (by decide) (Nat.le_of_ble_eq_true rfl) rfl ?_
  intro p e s m args below meth c ls cx rx hA hw hl
  generalize hQ : MQ below _ args s 0 0 A = Q
  have hx := cx.1.1
  have hb := cx.1.2.1
  have hml := cx.1.2.2.1
  have hown := cx.1.2.2.2.1
  have hts := cx.1.2.2.2.2
  have hl : lv_has ls 1 [(0, .ref a0)] := hl
  refine lv_aload_n hx hb dX7_isAtEnd_0 rfl (lv_at hl 0 rfl) ?_
  refine o_ci hw (oRunV cx hA hw q_X7_here k_m_X7_40 rfl ha0 (by decide) (As := []) (c_X7_here a0 ha0) (by decide) rfl hl.1 rfl (Nat.le_of_ble_eq_true rfl) dX7_isAtEnd_1 (by decide)) (fun v2 σ1 H locs hp hw => ?_)
  have p2_0 := hp
  rw [p2_0] at hw
  refine lv_iconst (v := (-1)) hx hb dX7_isAtEnd_4 (by decide) ?_
  refine lv_icmp_ne (tgt := 12) hx hb dX7_isAtEnd_5 (by decide) (fun c3 => ?_) (fun c3 => ?_)
  · --
    refine lv_iconst (v := 0) hx hb dX7_isAtEnd_12 (by decide) ?_
    rw [← hQ]
    exact o_rz cx rx hw (iv_nz01 (iv_w (⟨by decide, by decide⟩ : Iv 0 0 0) (by decide))) dX7_isAtEnd_13 ⟨rfl, (iv_w (⟨by decide, by decide⟩ : Iv 0 0 0) (by decide))⟩
  · --
    have i4 : Iv v2 (-1) (-1) := iv_eq1 c3 (iv_top v2) (⟨by decide, by decide⟩ : Iv (-1) (-1) (-1)) (by decide)
    refine lv_iconst (v := 1) hx hb dX7_isAtEnd_8 (by decide) ?_
    refine lv_goto (tgt := 13) hx hb dX7_isAtEnd_9 (by decide) ?_
    rw [← hQ]
    exact o_rz cx rx hw (iv_nz01 (iv_w (⟨by decide, by decide⟩ : Iv 1 1 1) (by decide))) dX7_isAtEnd_13 ⟨rfl, (iv_w (⟨by decide, by decide⟩ : Iv 1 1 1) (by decide))⟩
abbrev fs_X7_step : List Nat := [386]
abbrev ts_X7_step : List Nat := []
set_option maxHeartbeats 4000000 in
set_option maxRecDepth 100000 in
theorem c_X7_step (a0 : Nat) (ha0 : oA L τ a0 6) : oMet l A L τ cy D K yX7_step cX7_step 1 none 0 0 [.ref a0] σ (va_Qv (fun σ1 => oFr τ fs_X7_step ts_X7_step σ σ1) (oPo A L τ cy D) A) := by
  refine oMk (by decide) (Nat.le_of_ble_eq_true rfl) rfl ?_
  intro p e s m args below meth c ls cx rx hA hw hl
  generalize hQ : MQ below _ args s 0 0 A = Q
  have hx := cx.1.1
  have hb := cx.1.2.1
  have hml := cx.1.2.2.1
  have hown := cx.1.2.2.2.1
  have hts := cx.1.2.2.2.2
  have hl : lv_has ls 1 [(0, .ref a0)] := hl
  have fr : oFr τ fs_X7_step ts_X7_step σ σ := oFr_rf
  refine lv_aload_n hx hb dX7_step_0 rfl (lv_at hl 0 rfl) ?_
  refine lv_dup hx hb dX7_step_1 rfl ?_
  refine g_386 cx hw ha0 k_f_X7_37 dX7_step_2 (fun v1 e1 => ?_)
  refine lv_iconst (v := 1) hx hb dX7_step_5 (by decide) ?_
  refine lv_iadd hx hb dX7_step_6 ?_
  refine lv_topi (fun v2 e2 => ?_)
  refine p_386 cx hw ha0 k_f_X7_37 dX7_step_7 (fun σ3 H locs eσ3 hw => ?_)
  have fr := oFr_i fr eσ3 (by decide)
  rw [← hQ]
  exact o_rv cx rx hw dX7_step_10 fr
abbrev fs_X7_take : List Nat := [386]
abbrev ts_X7_take : List Nat := []
set_option maxHeartbeats 4000000 in
set_option maxRecDepth 100000 in
theorem c_X7_take (a0 : Nat) (ha0 : oA L τ a0 6) (a1 : Int32) (ia1 : Iv a1 0 65535) : oMet l A L τ cy D K yX7_take cX7_take 2 (some .boolean) 1 20 [.ref a0, .int a1] σ (va_Qi (fun r σ1 => oFr τ fs_X7_take ts_X7_take σ σ1 ∧ Iv r 0 1) (oPo A L τ cy D) A) := by
  refine oMk (by decide) (Nat.le_of_ble_eq_true rfl) rfl ?_
  intro p e s m args below meth c ls cx rx hA hw hl
  generalize hQ : MQ below _ args s 0 0 A = Q
  have hx := cx.1.1
  have hb := cx.1.2.1
  have hml := cx.1.2.2.1
  have hown := cx.1.2.2.2.1
  have hts := cx.1.2.2.2.2
  have hl : lv_has ls 2 [(0, .ref a0), (1, .int a1)] := hl
  have fr : oFr τ fs_X7_take ts_X7_take σ σ := oFr_rf
  refine lv_aload_n hx hb dX7_take_0 rfl (lv_at hl 0 rfl) ?_
  refine o_ci hw (oRunV cx hA hw q_X7_here k_m_X7_40 rfl ha0 (by decide) (As := []) (c_X7_here a0 ha0) (by decide) rfl hl.1 rfl (Nat.le_of_ble_eq_true rfl) dX7_take_1 (by decide)) (fun v2 σ1 H locs hp hw => ?_)
  have p2_0 := hp
  rw [p2_0] at hw
  refine lv_iload_n hx hb dX7_take_4 rfl (lv_at hl 1 rfl) ?_
  refine lv_icmp_eq (tgt := 10) hx hb dX7_take_5 (by decide) (fun c3 => ?_) (fun c3 => ?_)
  · --
    have i4 : Iv v2 0 65535 := iv_eq1 c3 (iv_top v2) ia1 (by decide)
    refine lv_aload_n hx hb dX7_take_10 rfl (lv_at hl 0 rfl) ?_
    refine o_cv hw (oRunV cx hA hw q_X7_step k_m_X7_43 rfl ha0 (by decide) (As := []) (c_X7_step a0 ha0) (by decide) rfl hl.1 rfl (Nat.le_of_ble_eq_true rfl) dX7_take_11 (by decide)) (fun σ5 H locs hp hw => ?_)
    have p6_0 := hp
    have fr := oFr_tr fr p6_0 (by decide)
    refine lv_iconst (v := 1) hx hb dX7_take_14 (by decide) ?_
    rw [← hQ]
    exact o_rz cx rx hw (iv_nz01 (iv_w (⟨by decide, by decide⟩ : Iv 1 1 1) (by decide))) dX7_take_15 ⟨fr, (iv_w (⟨by decide, by decide⟩ : Iv 1 1 1) (by decide))⟩
  · --
    refine lv_iconst (v := 0) hx hb dX7_take_8 (by decide) ?_
    rw [← hQ]
    exact o_rz cx rx hw (iv_nz01 (iv_w (⟨by decide, by decide⟩ : Iv 0 0 0) (by decide))) dX7_take_9 ⟨fr, (iv_w (⟨by decide, by decide⟩ : Iv 0 0 0) (by decide))⟩
set_option maxHeartbeats 4000000 in
set_option maxRecDepth 100000 in
theorem c_J0_isLatin1_aae02_0  : oMet l A L τ cy D K yJ0_isLatin1_aae02 cJ0_isLatin1_aae02 1 (some .boolean) 0 0 [.ref (K.1 0)] σ (va_Qi (fun r σ1 => σ1 = σ ∧ Iv r 1 1) (oPo A L τ cy D) A) := by
  refine oMk (by decide) (Nat.le_of_ble_eq_true rfl) rfl ?_
  intro p e s m args below meth c ls cx rx hA hw hl
  generalize hQ : MQ below _ args s 0 0 A = Q
  have hx := cx.1.1
  have hb := cx.1.2.1
  have hml := cx.1.2.2.1
  have hown := cx.1.2.2.2.1
  have hts := cx.1.2.2.2.2
  have hl : lv_has ls 1 [(0, .ref (K.1 0))] := hl
  refine va_gets hx hb cx.2.2.2.2.1 hw.2.2.1 hown (hts _ k_f_J0_38) (fun _ h => h) dJ0_isLatin1_aae02_0 ?_
  refine lv_if_eq (tgt := 17) hx hb dJ0_isLatin1_aae02_3 (by decide) (fun c1 => ?_) (fun c1 => ?_)
  · --
    exact iv_no (iv_eq1 (lo := 1) (hi := 0) c1 (⟨by decide, by decide⟩ : Iv 1 1 1) (⟨by decide, by decide⟩ : Iv 0 0 0) (by decide)) (by decide)
  · --
    refine lv_aload_n hx hb dJ0_isLatin1_aae02_6 rfl (lv_at hl 0 rfl) ?_
    refine vk_getf hx hb (cx.2.2.1.1 0 (by decide)).2.1 hw.2.2.1 hown (hts _ k_f_J0_15) (fun _ h => h) dJ0_isLatin1_aae02_7 ?_
    refine lv_if_ne (tgt := 17) hx hb dJ0_isLatin1_aae02_10 (by decide) (fun c2 => ?_) (fun c2 => ?_)
    · --
      exact absurd rfl c2
    · --
      refine lv_iconst (v := 1) hx hb dJ0_isLatin1_aae02_13 (by decide) ?_
      refine lv_goto (tgt := 18) hx hb dJ0_isLatin1_aae02_14 (by decide) ?_
      rw [← hQ]
      exact o_rz cx rx hw (iv_nz01 (iv_w (⟨by decide, by decide⟩ : Iv 1 1 1) (by decide))) dJ0_isLatin1_aae02_18 ⟨rfl, (iv_w (⟨by decide, by decide⟩ : Iv 1 1 1) (by decide))⟩
set_option maxHeartbeats 4000000 in
set_option maxRecDepth 100000 in
theorem c_J0_isLatin1_aae02_1  : oMet l A L τ cy D K yJ0_isLatin1_aae02 cJ0_isLatin1_aae02 1 (some .boolean) 0 0 [.ref (K.1 1)] σ (va_Qi (fun r σ1 => σ1 = σ ∧ Iv r 1 1) (oPo A L τ cy D) A) := by
  refine oMk (by decide) (Nat.le_of_ble_eq_true rfl) rfl ?_
  intro p e s m args below meth c ls cx rx hA hw hl
  generalize hQ : MQ below _ args s 0 0 A = Q
  have hx := cx.1.1
  have hb := cx.1.2.1
  have hml := cx.1.2.2.1
  have hown := cx.1.2.2.2.1
  have hts := cx.1.2.2.2.2
  have hl : lv_has ls 1 [(0, .ref (K.1 1))] := hl
  refine va_gets hx hb cx.2.2.2.2.1 hw.2.2.1 hown (hts _ k_f_J0_38) (fun _ h => h) dJ0_isLatin1_aae02_0 ?_
  refine lv_if_eq (tgt := 17) hx hb dJ0_isLatin1_aae02_3 (by decide) (fun c1 => ?_) (fun c1 => ?_)
  · --
    exact iv_no (iv_eq1 (lo := 1) (hi := 0) c1 (⟨by decide, by decide⟩ : Iv 1 1 1) (⟨by decide, by decide⟩ : Iv 0 0 0) (by decide)) (by decide)
  · --
    refine lv_aload_n hx hb dJ0_isLatin1_aae02_6 rfl (lv_at hl 0 rfl) ?_
    refine vk_getf hx hb (cx.2.2.1.1 1 (by decide)).2.1 hw.2.2.1 hown (hts _ k_f_J0_15) (fun _ h => h) dJ0_isLatin1_aae02_7 ?_
    refine lv_if_ne (tgt := 17) hx hb dJ0_isLatin1_aae02_10 (by decide) (fun c2 => ?_) (fun c2 => ?_)
    · --
      exact absurd rfl c2
    · --
      refine lv_iconst (v := 1) hx hb dJ0_isLatin1_aae02_13 (by decide) ?_
      refine lv_goto (tgt := 18) hx hb dJ0_isLatin1_aae02_14 (by decide) ?_
      rw [← hQ]
      exact o_rz cx rx hw (iv_nz01 (iv_w (⟨by decide, by decide⟩ : Iv 1 1 1) (by decide))) dJ0_isLatin1_aae02_18 ⟨rfl, (iv_w (⟨by decide, by decide⟩ : Iv 1 1 1) (by decide))⟩
set_option maxHeartbeats 4000000 in
set_option maxRecDepth 100000 in
theorem c_J0_isLatin1_aae02_2  : oMet l A L τ cy D K yJ0_isLatin1_aae02 cJ0_isLatin1_aae02 1 (some .boolean) 0 0 [.ref (K.1 2)] σ (va_Qi (fun r σ1 => σ1 = σ ∧ Iv r 1 1) (oPo A L τ cy D) A) := by
  refine oMk (by decide) (Nat.le_of_ble_eq_true rfl) rfl ?_
  intro p e s m args below meth c ls cx rx hA hw hl
  generalize hQ : MQ below _ args s 0 0 A = Q
  have hx := cx.1.1
  have hb := cx.1.2.1
  have hml := cx.1.2.2.1
  have hown := cx.1.2.2.2.1
  have hts := cx.1.2.2.2.2
  have hl : lv_has ls 1 [(0, .ref (K.1 2))] := hl
  refine va_gets hx hb cx.2.2.2.2.1 hw.2.2.1 hown (hts _ k_f_J0_38) (fun _ h => h) dJ0_isLatin1_aae02_0 ?_
  refine lv_if_eq (tgt := 17) hx hb dJ0_isLatin1_aae02_3 (by decide) (fun c1 => ?_) (fun c1 => ?_)
  · --
    exact iv_no (iv_eq1 (lo := 1) (hi := 0) c1 (⟨by decide, by decide⟩ : Iv 1 1 1) (⟨by decide, by decide⟩ : Iv 0 0 0) (by decide)) (by decide)
  · --
    refine lv_aload_n hx hb dJ0_isLatin1_aae02_6 rfl (lv_at hl 0 rfl) ?_
    refine vk_getf hx hb (cx.2.2.1.1 2 (by decide)).2.1 hw.2.2.1 hown (hts _ k_f_J0_15) (fun _ h => h) dJ0_isLatin1_aae02_7 ?_
    refine lv_if_ne (tgt := 17) hx hb dJ0_isLatin1_aae02_10 (by decide) (fun c2 => ?_) (fun c2 => ?_)
    · --
      exact absurd rfl c2
    · --
      refine lv_iconst (v := 1) hx hb dJ0_isLatin1_aae02_13 (by decide) ?_
      refine lv_goto (tgt := 18) hx hb dJ0_isLatin1_aae02_14 (by decide) ?_
      rw [← hQ]
      exact o_rz cx rx hw (iv_nz01 (iv_w (⟨by decide, by decide⟩ : Iv 1 1 1) (by decide))) dJ0_isLatin1_aae02_18 ⟨rfl, (iv_w (⟨by decide, by decide⟩ : Iv 1 1 1) (by decide))⟩
set_option maxHeartbeats 4000000 in
set_option maxRecDepth 100000 in
theorem c_J0_isLatin1_aae02_3  : oMet l A L τ cy D K yJ0_isLatin1_aae02 cJ0_isLatin1_aae02 1 (some .boolean) 0 0 [.ref (K.1 3)] σ (va_Qi (fun r σ1 => σ1 = σ ∧ Iv r 1 1) (oPo A L τ cy D) A) := by
  refine oMk (by decide) (Nat.le_of_ble_eq_true rfl) rfl ?_
  intro p e s m args below meth c ls cx rx hA hw hl
  generalize hQ : MQ below _ args s 0 0 A = Q
  have hx := cx.1.1
  have hb := cx.1.2.1
  have hml := cx.1.2.2.1
  have hown := cx.1.2.2.2.1
  have hts := cx.1.2.2.2.2
  have hl : lv_has ls 1 [(0, .ref (K.1 3))] := hl
  refine va_gets hx hb cx.2.2.2.2.1 hw.2.2.1 hown (hts _ k_f_J0_38) (fun _ h => h) dJ0_isLatin1_aae02_0 ?_
  refine lv_if_eq (tgt := 17) hx hb dJ0_isLatin1_aae02_3 (by decide) (fun c1 => ?_) (fun c1 => ?_)
  · --
    exact iv_no (iv_eq1 (lo := 1) (hi := 0) c1 (⟨by decide, by decide⟩ : Iv 1 1 1) (⟨by decide, by decide⟩ : Iv 0 0 0) (by decide)) (by decide)
  · --
    refine lv_aload_n hx hb dJ0_isLatin1_aae02_6 rfl (lv_at hl 0 rfl) ?_
    refine vk_getf hx hb (cx.2.2.1.1 3 (by decide)).2.1 hw.2.2.1 hown (hts _ k_f_J0_15) (fun _ h => h) dJ0_isLatin1_aae02_7 ?_
    refine lv_if_ne (tgt := 17) hx hb dJ0_isLatin1_aae02_10 (by decide) (fun c2 => ?_) (fun c2 => ?_)
    · --
      exact absurd rfl c2
    · --
      refine lv_iconst (v := 1) hx hb dJ0_isLatin1_aae02_13 (by decide) ?_
      refine lv_goto (tgt := 18) hx hb dJ0_isLatin1_aae02_14 (by decide) ?_
      rw [← hQ]
      exact o_rz cx rx hw (iv_nz01 (iv_w (⟨by decide, by decide⟩ : Iv 1 1 1) (by decide))) dJ0_isLatin1_aae02_18 ⟨rfl, (iv_w (⟨by decide, by decide⟩ : Iv 1 1 1) (by decide))⟩
set_option maxHeartbeats 4000000 in
set_option maxRecDepth 100000 in
theorem c_J0_coder_7d493_0  : oMet l A L τ cy D K yJ0_coder_7d493 cJ0_coder_7d493 1 (some .byte) 0 0 [.ref (K.1 0)] σ (va_Qi (fun r σ1 => σ1 = σ ∧ Iv r 0 0 ∧ narrow .byte (.int r) = .int r) (oPo A L τ cy D) A) := by
  refine oMk (by decide) (Nat.le_of_ble_eq_true rfl) rfl ?_
  intro p e s m args below meth c ls cx rx hA hw hl
  generalize hQ : MQ below _ args s 0 0 A = Q
  have hx := cx.1.1
  have hb := cx.1.2.1
  have hml := cx.1.2.2.1
  have hown := cx.1.2.2.2.1
  have hts := cx.1.2.2.2.2
  have hl : lv_has ls 1 [(0, .ref (K.1 0))] := hl
  refine va_gets hx hb cx.2.2.2.2.1 hw.2.2.1 hown (hts _ k_f_J0_38) (fun _ h => h) dJ0_coder_7d493_0 ?_
  refine lv_if_eq (tgt := 13) hx hb dJ0_coder_7d493_3 (by decide) (fun c1 => ?_) (fun c1 => ?_)
  · --
    exact iv_no (iv_eq1 (lo := 1) (hi := 0) c1 (⟨by decide, by decide⟩ : Iv 1 1 1) (⟨by decide, by decide⟩ : Iv 0 0 0) (by decide)) (by decide)
  · --
    refine lv_aload_n hx hb dJ0_coder_7d493_6 rfl (lv_at hl 0 rfl) ?_
    refine vk_getf hx hb (cx.2.2.1.1 0 (by decide)).2.1 hw.2.2.1 hown (hts _ k_f_J0_15) (fun _ h => h) dJ0_coder_7d493_7 ?_
    refine lv_goto (tgt := 14) hx hb dJ0_coder_7d493_10 (by decide) ?_
    rw [← hQ]
    exact o_rz cx rx hw (by decide) dJ0_coder_7d493_14 ⟨rfl, (iv_w (⟨by decide, by decide⟩ : Iv 0 0 0) (by decide)), (by decide)⟩
set_option maxHeartbeats 4000000 in
set_option maxRecDepth 100000 in
theorem c_J0_coder_7d493_1  : oMet l A L τ cy D K yJ0_coder_7d493 cJ0_coder_7d493 1 (some .byte) 0 0 [.ref (K.1 1)] σ (va_Qi (fun r σ1 => σ1 = σ ∧ Iv r 0 0 ∧ narrow .byte (.int r) = .int r) (oPo A L τ cy D) A) := by
  refine oMk (by decide) (Nat.le_of_ble_eq_true rfl) rfl ?_
  intro p e s m args below meth c ls cx rx hA hw hl
  generalize hQ : MQ below _ args s 0 0 A = Q
  have hx := cx.1.1
  have hb := cx.1.2.1
  have hml := cx.1.2.2.1
  have hown := cx.1.2.2.2.1
  have hts := cx.1.2.2.2.2
  have hl : lv_has ls 1 [(0, .ref (K.1 1))] := hl
  refine va_gets hx hb cx.2.2.2.2.1 hw.2.2.1 hown (hts _ k_f_J0_38) (fun _ h => h) dJ0_coder_7d493_0 ?_
  refine lv_if_eq (tgt := 13) hx hb dJ0_coder_7d493_3 (by decide) (fun c1 => ?_) (fun c1 => ?_)
  · --
    exact iv_no (iv_eq1 (lo := 1) (hi := 0) c1 (⟨by decide, by decide⟩ : Iv 1 1 1) (⟨by decide, by decide⟩ : Iv 0 0 0) (by decide)) (by decide)
  · --
    refine lv_aload_n hx hb dJ0_coder_7d493_6 rfl (lv_at hl 0 rfl) ?_
    refine vk_getf hx hb (cx.2.2.1.1 1 (by decide)).2.1 hw.2.2.1 hown (hts _ k_f_J0_15) (fun _ h => h) dJ0_coder_7d493_7 ?_
    refine lv_goto (tgt := 14) hx hb dJ0_coder_7d493_10 (by decide) ?_
    rw [← hQ]
    exact o_rz cx rx hw (by decide) dJ0_coder_7d493_14 ⟨rfl, (iv_w (⟨by decide, by decide⟩ : Iv 0 0 0) (by decide)), (by decide)⟩
set_option maxHeartbeats 4000000 in
set_option maxRecDepth 100000 in
theorem c_J0_coder_7d493_2  : oMet l A L τ cy D K yJ0_coder_7d493 cJ0_coder_7d493 1 (some .byte) 0 0 [.ref (K.1 2)] σ (va_Qi (fun r σ1 => σ1 = σ ∧ Iv r 0 0 ∧ narrow .byte (.int r) = .int r) (oPo A L τ cy D) A) := by
  refine oMk (by decide) (Nat.le_of_ble_eq_true rfl) rfl ?_
  intro p e s m args below meth c ls cx rx hA hw hl
  generalize hQ : MQ below _ args s 0 0 A = Q
  have hx := cx.1.1
  have hb := cx.1.2.1
  have hml := cx.1.2.2.1
  have hown := cx.1.2.2.2.1
  have hts := cx.1.2.2.2.2
  have hl : lv_has ls 1 [(0, .ref (K.1 2))] := hl
  refine va_gets hx hb cx.2.2.2.2.1 hw.2.2.1 hown (hts _ k_f_J0_38) (fun _ h => h) dJ0_coder_7d493_0 ?_
  refine lv_if_eq (tgt := 13) hx hb dJ0_coder_7d493_3 (by decide) (fun c1 => ?_) (fun c1 => ?_)
  · --
    exact iv_no (iv_eq1 (lo := 1) (hi := 0) c1 (⟨by decide, by decide⟩ : Iv 1 1 1) (⟨by decide, by decide⟩ : Iv 0 0 0) (by decide)) (by decide)
  · --
    refine lv_aload_n hx hb dJ0_coder_7d493_6 rfl (lv_at hl 0 rfl) ?_
    refine vk_getf hx hb (cx.2.2.1.1 2 (by decide)).2.1 hw.2.2.1 hown (hts _ k_f_J0_15) (fun _ h => h) dJ0_coder_7d493_7 ?_
    refine lv_goto (tgt := 14) hx hb dJ0_coder_7d493_10 (by decide) ?_
    rw [← hQ]
    exact o_rz cx rx hw (by decide) dJ0_coder_7d493_14 ⟨rfl, (iv_w (⟨by decide, by decide⟩ : Iv 0 0 0) (by decide)), (by decide)⟩
set_option maxHeartbeats 4000000 in
set_option maxRecDepth 100000 in
theorem c_J0_coder_7d493_3  : oMet l A L τ cy D K yJ0_coder_7d493 cJ0_coder_7d493 1 (some .byte) 0 0 [.ref (K.1 3)] σ (va_Qi (fun r σ1 => σ1 = σ ∧ Iv r 0 0 ∧ narrow .byte (.int r) = .int r) (oPo A L τ cy D) A) := by
  refine oMk (by decide) (Nat.le_of_ble_eq_true rfl) rfl ?_
  intro p e s m args below meth c ls cx rx hA hw hl
  generalize hQ : MQ below _ args s 0 0 A = Q
  have hx := cx.1.1
  have hb := cx.1.2.1
  have hml := cx.1.2.2.1
  have hown := cx.1.2.2.2.1
  have hts := cx.1.2.2.2.2
  have hl : lv_has ls 1 [(0, .ref (K.1 3))] := hl
  refine va_gets hx hb cx.2.2.2.2.1 hw.2.2.1 hown (hts _ k_f_J0_38) (fun _ h => h) dJ0_coder_7d493_0 ?_
  refine lv_if_eq (tgt := 13) hx hb dJ0_coder_7d493_3 (by decide) (fun c1 => ?_) (fun c1 => ?_)
  · --
    exact iv_no (iv_eq1 (lo := 1) (hi := 0) c1 (⟨by decide, by decide⟩ : Iv 1 1 1) (⟨by decide, by decide⟩ : Iv 0 0 0) (by decide)) (by decide)
  · --
    refine lv_aload_n hx hb dJ0_coder_7d493_6 rfl (lv_at hl 0 rfl) ?_
    refine vk_getf hx hb (cx.2.2.1.1 3 (by decide)).2.1 hw.2.2.1 hown (hts _ k_f_J0_15) (fun _ h => h) dJ0_coder_7d493_7 ?_
    refine lv_goto (tgt := 14) hx hb dJ0_coder_7d493_10 (by decide) ?_
    rw [← hQ]
    exact o_rz cx rx hw (by decide) dJ0_coder_7d493_14 ⟨rfl, (iv_w (⟨by decide, by decide⟩ : Iv 0 0 0) (by decide)), (by decide)⟩
set_option maxHeartbeats 4000000 in
set_option maxRecDepth 100000 in
theorem c_J0_length_8abf5_0  : oMet l A L τ cy D K yJ0_length_8abf5 cJ0_length_8abf5 1 (some .int) 1 20 [.ref (K.1 0)] σ (va_Qi (fun r σ1 => σ1 = σ ∧ Iv r 13 13) (oPo A L τ cy D) A) := by
  refine oMk (by decide) (Nat.le_of_ble_eq_true rfl) rfl ?_
  intro p e s m args below meth c ls cx rx hA hw hl
  generalize hQ : MQ below _ args s 0 0 A = Q
  have hx := cx.1.1
  have hb := cx.1.2.1
  have hml := cx.1.2.2.1
  have hown := cx.1.2.2.2.1
  have hts := cx.1.2.2.2.2
  have hl : lv_has ls 1 [(0, .ref (K.1 0))] := hl
  refine lv_aload_n hx hb dJ0_length_8abf5_0 rfl (lv_at hl 0 rfl) ?_
  refine vk_getf hx hb (cx.2.2.1.1 0 (by decide)).2.2.1 hw.2.2.1 hown (hts _ k_f_J0_9) (fun _ h => h) dJ0_length_8abf5_1 ?_
  refine va_tlen (v := 13) hx hb (cx.2.2.1.1 0 (by decide)).2.2.2 hw.2.2.1 (by decide) dJ0_length_8abf5_4 ?_
  refine lv_aload_n hx hb dJ0_length_8abf5_5 rfl (lv_at hl 0 rfl) ?_
  refine o_ci hw (oRunK cx hA hw q_J0_coder_7d493 k_m_J0_335 0 (by decide) (As := []) (c_J0_coder_7d493_0 ) (by decide) rfl hl.1 rfl (Nat.le_of_ble_eq_true rfl) dJ0_length_8abf5_6 (by decide)) (fun v2 σ1 H locs hp hw => ?_)
  obtain ⟨p2_0, p2_1, p2_2⟩ := hp
  rw [p2_0] at hw
  refine lv_ishr hx hb dJ0_length_8abf5_9 ?_
  refine lv_topi (fun v3 e3 => ?_)
  have i3 : Iv v3 13 13 := iv_shr0 e3 (⟨by decide, by decide⟩ : Iv 13 13 13) p2_1
  rw [← hQ]
  exact o_ri cx rx hw dJ0_length_8abf5_10 ⟨rfl, (iv_w i3 (by decide))⟩
set_option maxHeartbeats 4000000 in
set_option maxRecDepth 100000 in
theorem c_J0_length_8abf5_1  : oMet l A L τ cy D K yJ0_length_8abf5 cJ0_length_8abf5 1 (some .int) 1 20 [.ref (K.1 1)] σ (va_Qi (fun r σ1 => σ1 = σ ∧ Iv r 9 9) (oPo A L τ cy D) A) := by
  refine oMk (by decide) (Nat.le_of_ble_eq_true rfl) rfl ?_
  intro p e s m args below meth c ls cx rx hA hw hl
  generalize hQ : MQ below _ args s 0 0 A = Q
  have hx := cx.1.1
  have hb := cx.1.2.1
  have hml := cx.1.2.2.1
  have hown := cx.1.2.2.2.1
  have hts := cx.1.2.2.2.2
  have hl : lv_has ls 1 [(0, .ref (K.1 1))] := hl
  refine lv_aload_n hx hb dJ0_length_8abf5_0 rfl (lv_at hl 0 rfl) ?_
  refine vk_getf hx hb (cx.2.2.1.1 1 (by decide)).2.2.1 hw.2.2.1 hown (hts _ k_f_J0_9) (fun _ h => h) dJ0_length_8abf5_1 ?_
  refine va_tlen (v := 9) hx hb (cx.2.2.1.1 1 (by decide)).2.2.2 hw.2.2.1 (by decide) dJ0_length_8abf5_4 ?_
  refine lv_aload_n hx hb dJ0_length_8abf5_5 rfl (lv_at hl 0 rfl) ?_
  refine o_ci hw (oRunK cx hA hw q_J0_coder_7d493 k_m_J0_335 1 (by decide) (As := []) (c_J0_coder_7d493_1 ) (by decide) rfl hl.1 rfl (Nat.le_of_ble_eq_true rfl) dJ0_length_8abf5_6 (by decide)) (fun v2 σ1 H locs hp hw => ?_)
  obtain ⟨p2_0, p2_1, p2_2⟩ := hp
  rw [p2_0] at hw
  refine lv_ishr hx hb dJ0_length_8abf5_9 ?_
  refine lv_topi (fun v3 e3 => ?_)
  have i3 : Iv v3 9 9 := iv_shr0 e3 (⟨by decide, by decide⟩ : Iv 9 9 9) p2_1
  rw [← hQ]
  exact o_ri cx rx hw dJ0_length_8abf5_10 ⟨rfl, (iv_w i3 (by decide))⟩
set_option maxHeartbeats 4000000 in
set_option maxRecDepth 100000 in
theorem c_J0_length_8abf5_2  : oMet l A L τ cy D K yJ0_length_8abf5 cJ0_length_8abf5 1 (some .int) 1 20 [.ref (K.1 2)] σ (va_Qi (fun r σ1 => σ1 = σ ∧ Iv r 11 11) (oPo A L τ cy D) A) := by
  refine oMk (by decide) (Nat.le_of_ble_eq_true rfl) rfl ?_
  intro p e s m args below meth c ls cx rx hA hw hl
  generalize hQ : MQ below _ args s 0 0 A = Q
  have hx := cx.1.1
  have hb := cx.1.2.1
  have hml := cx.1.2.2.1
  have hown := cx.1.2.2.2.1
  have hts := cx.1.2.2.2.2
  have hl : lv_has ls 1 [(0, .ref (K.1 2))] := hl
  refine lv_aload_n hx hb dJ0_length_8abf5_0 rfl (lv_at hl 0 rfl) ?_
  refine vk_getf hx hb (cx.2.2.1.1 2 (by decide)).2.2.1 hw.2.2.1 hown (hts _ k_f_J0_9) (fun _ h => h) dJ0_length_8abf5_1 ?_
  refine va_tlen (v := 11) hx hb (cx.2.2.1.1 2 (by decide)).2.2.2 hw.2.2.1 (by decide) dJ0_length_8abf5_4 ?_
  refine lv_aload_n hx hb dJ0_length_8abf5_5 rfl (lv_at hl 0 rfl) ?_
  refine o_ci hw (oRunK cx hA hw q_J0_coder_7d493 k_m_J0_335 2 (by decide) (As := []) (c_J0_coder_7d493_2 ) (by decide) rfl hl.1 rfl (Nat.le_of_ble_eq_true rfl) dJ0_length_8abf5_6 (by decide)) (fun v2 σ1 H locs hp hw => ?_)
  obtain ⟨p2_0, p2_1, p2_2⟩ := hp
  rw [p2_0] at hw
  refine lv_ishr hx hb dJ0_length_8abf5_9 ?_
  refine lv_topi (fun v3 e3 => ?_)
  have i3 : Iv v3 11 11 := iv_shr0 e3 (⟨by decide, by decide⟩ : Iv 11 11 11) p2_1
  rw [← hQ]
  exact o_ri cx rx hw dJ0_length_8abf5_10 ⟨rfl, (iv_w i3 (by decide))⟩
set_option maxHeartbeats 4000000 in
set_option maxRecDepth 100000 in
theorem c_J0_length_8abf5_3  : oMet l A L τ cy D K yJ0_length_8abf5 cJ0_length_8abf5 1 (some .int) 1 20 [.ref (K.1 3)] σ (va_Qi (fun r σ1 => σ1 = σ ∧ Iv r 6 6) (oPo A L τ cy D) A) := by
  refine oMk (by decide) (Nat.le_of_ble_eq_true rfl) rfl ?_
  intro p e s m args below meth c ls cx rx hA hw hl
  generalize hQ : MQ below _ args s 0 0 A = Q
  have hx := cx.1.1
  have hb := cx.1.2.1
  have hml := cx.1.2.2.1
  have hown := cx.1.2.2.2.1
  have hts := cx.1.2.2.2.2
  have hl : lv_has ls 1 [(0, .ref (K.1 3))] := hl
  refine lv_aload_n hx hb dJ0_length_8abf5_0 rfl (lv_at hl 0 rfl) ?_
  refine vk_getf hx hb (cx.2.2.1.1 3 (by decide)).2.2.1 hw.2.2.1 hown (hts _ k_f_J0_9) (fun _ h => h) dJ0_length_8abf5_1 ?_
  refine va_tlen (v := 6) hx hb (cx.2.2.1.1 3 (by decide)).2.2.2 hw.2.2.1 (by decide) dJ0_length_8abf5_4 ?_
  refine lv_aload_n hx hb dJ0_length_8abf5_5 rfl (lv_at hl 0 rfl) ?_
  refine o_ci hw (oRunK cx hA hw q_J0_coder_7d493 k_m_J0_335 3 (by decide) (As := []) (c_J0_coder_7d493_3 ) (by decide) rfl hl.1 rfl (Nat.le_of_ble_eq_true rfl) dJ0_length_8abf5_6 (by decide)) (fun v2 σ1 H locs hp hw => ?_)
  obtain ⟨p2_0, p2_1, p2_2⟩ := hp
  rw [p2_0] at hw
  refine lv_ishr hx hb dJ0_length_8abf5_9 ?_
  refine lv_topi (fun v3 e3 => ?_)
  have i3 : Iv v3 6 6 := iv_shr0 e3 (⟨by decide, by decide⟩ : Iv 6 6 6) p2_1
  rw [← hQ]
  exact o_ri cx rx hw dJ0_length_8abf5_10 ⟨rfl, (iv_w i3 (by decide))⟩
set_option maxHeartbeats 4000000 in
set_option maxRecDepth 100000 in
theorem c_J1_canEncode_9a6ad (a0 : Int32) : oMet l A L τ cy D K yJ1_canEncode_9a6ad cJ1_canEncode_9a6ad 1 (some .boolean) 0 0 [.int a0] σ (va_Qi (fun r σ1 => σ1 = σ ∧ Iv r 0 1) (oPo A L τ cy D) A) := by
  refine oMk (by decide) (Nat.le_of_ble_eq_true rfl) rfl ?_
  intro p e s m args below meth c ls cx rx hA hw hl
  generalize hQ : MQ below _ args s 0 0 A = Q
  have hx := cx.1.1
  have hb := cx.1.2.1
  have hml := cx.1.2.2.1
  have hown := cx.1.2.2.2.1
  have hts := cx.1.2.2.2.2
  have hl : lv_has ls 1 [(0, .int a0)] := hl
  refine lv_iload_n hx hb dJ1_canEncode_9a6ad_0 rfl (lv_at hl 0 rfl) ?_
  refine lv_if_lt (tgt := 15) hx hb dJ1_canEncode_9a6ad_1 (by decide) (fun c1 => ?_) (fun c1 => ?_)
  · --
    have i2 : Iv a0 (-2147483648) (-1) := iv_lt1 c1 (iv_top a0) (⟨by decide, by decide⟩ : Iv 0 0 0) (by decide)
    refine lv_iconst (v := 0) hx hb dJ1_canEncode_9a6ad_15 (by decide) ?_
    rw [← hQ]
    exact o_rz cx rx hw (iv_nz01 (iv_w (⟨by decide, by decide⟩ : Iv 0 0 0) (by decide))) dJ1_canEncode_9a6ad_16 ⟨rfl, (iv_w (⟨by decide, by decide⟩ : Iv 0 0 0) (by decide))⟩
  · --
    have i3 : Iv a0 0 2147483647 := iv_le2 (iv_nlt c1) (⟨by decide, by decide⟩ : Iv 0 0 0) (iv_top a0) (by decide)
    refine lv_iload_n hx hb dJ1_canEncode_9a6ad_4 rfl (lv_at hl 0 rfl) ?_
    refine lv_sipush (v := 255) hx hb dJ1_canEncode_9a6ad_5 (by decide) ?_
    refine lv_icmp_gt (tgt := 15) hx hb dJ1_canEncode_9a6ad_8 (by decide) (fun c4 => ?_) (fun c4 => ?_)
    · --
      have i5 : Iv a0 256 2147483647 := iv_lt2 c4 (⟨by decide, by decide⟩ : Iv 255 255 255) i3 (by decide)
      refine lv_iconst (v := 0) hx hb dJ1_canEncode_9a6ad_15 (by decide) ?_
      rw [← hQ]
      exact o_rz cx rx hw (iv_nz01 (iv_w (⟨by decide, by decide⟩ : Iv 0 0 0) (by decide))) dJ1_canEncode_9a6ad_16 ⟨rfl, (iv_w (⟨by decide, by decide⟩ : Iv 0 0 0) (by decide))⟩
    · --
      have i6 : Iv a0 0 255 := iv_le1 (iv_nlt c4) i3 (⟨by decide, by decide⟩ : Iv 255 255 255) (by decide)
      refine lv_iconst (v := 1) hx hb dJ1_canEncode_9a6ad_11 (by decide) ?_
      refine lv_goto (tgt := 16) hx hb dJ1_canEncode_9a6ad_12 (by decide) ?_
      rw [← hQ]
      exact o_rz cx rx hw (iv_nz01 (iv_w (⟨by decide, by decide⟩ : Iv 1 1 1) (by decide))) dJ1_canEncode_9a6ad_16 ⟨rfl, (iv_w (⟨by decide, by decide⟩ : Iv 1 1 1) (by decide))⟩
set_option maxHeartbeats 4000000 in
set_option maxRecDepth 100000 in
theorem c_J1_indexOfChar_4cfef_1 (a1 : Int32) (a2 : Int32) (ia2 : Iv a2 0 0) (a3 : Int32) (ia3 : Iv a3 9 9) : oMet l A L τ cy D K yJ1_indexOfChar_4cfef cJ1_indexOfChar_4cfef 6 (some .int) 0 0 [.ref (K.2 1), .int a1, .int a2, .int a3] σ (va_Qi (fun r σ1 => σ1 = σ ∧ Iv r (-1) 8) (oPo A L τ cy D) A) := by
  refine oMk (by decide) (Nat.le_of_ble_eq_true rfl) rfl ?_
  intro p e s m args below meth c ls cx rx hA hw hl
  generalize hQ : MQ below _ args s 0 0 A = Q
  have hx := cx.1.1
  have hb := cx.1.2.1
  have hml := cx.1.2.2.1
  have hown := cx.1.2.2.2.1
  have hts := cx.1.2.2.2.2
  have hl : lv_has ls 6 [(0, .ref (K.2 1)), (1, .int a1), (2, .int a2), (3, .int a3)] := hl
  refine lv_iload_n hx hb dJ1_indexOfChar_4cfef_0 rfl (lv_at hl 1 rfl) ?_
  refine lv_i2b hx hb dJ1_indexOfChar_4cfef_1 rfl ?_
  refine lv_topi (fun v1 e1 => ?_)
  refine lv_istore (lv' := [(4, .int v1), (0, .ref (K.2 1)), (1, .int a1), (2, .int a2), (3, .int a3)]) hx hb dJ1_indexOfChar_4cfef_2 hl (by decide) rfl (fun ls hl => ?_)
  refine lv_iload_n hx hb dJ1_indexOfChar_4cfef_4 rfl (lv_at hl 3 rfl) ?_
  refine lv_istore (lv' := [(5, .int a2), (4, .int v1), (0, .ref (K.2 1)), (1, .int a1), (2, .int a2), (3, .int a3)]) hx hb dJ1_indexOfChar_4cfef_5 hl (by decide) rfl (fun ls hl => ?_)
  have J_7 : ∀ n7 : Nat, ∀ (j7_5 : Int32) (ij7_5 : Iv j7_5 0 2147483647), ∀ (H : Heap) (locs : List Loc), oI A L τ cy D s.heap σ H locs → (2147483647 - j7_5.toInt).toNat < n7 → ∀ (ls : Array Slot), lv_has ls 6 [(0, .ref (K.2 1)), (1, .int a1), (2, .int a2), (3, .int a3), (4, .int v1), (5, .int j7_5)] → W p l e ({ frames := 0, cells := 0, slots := 0, locals := 0 } : Room) s m args below meth c H locs 0 0 Q (F0 m 7 ls []) := by
    intro n7
    induction n7 with
    | zero => intro j7_5 ij7_5 H locs hw  hn_7   ls hl; exact absurd hn_7 (Nat.not_lt_zero _)
    | succ n7 ih_7 =>
      intro j7_5 ij7_5 H locs hw  hn_7   ls hl
      refine lv_iload hx hb dJ1_indexOfChar_4cfef_7 (lv_at hl 5 rfl) ?_
      refine lv_iload_n hx hb dJ1_indexOfChar_4cfef_9 rfl (lv_at hl 3 rfl) ?_
      refine lv_icmp_ge (tgt := 31) hx hb dJ1_indexOfChar_4cfef_10 (by decide) (fun c2 => ?_) (fun c2 => ?_)
      · --
        have i3 : Iv j7_5 9 2147483647 := iv_le2 c2 ia3 ij7_5 (by decide)
        refine lv_iconst (v := (-1)) hx hb dJ1_indexOfChar_4cfef_31 (by decide) ?_
        rw [← hQ]
        exact o_ri cx rx hw dJ1_indexOfChar_4cfef_32 ⟨rfl, (iv_w (⟨by decide, by decide⟩ : Iv (-1) (-1) (-1)) (by decide))⟩
      · --
        have i4 : Iv j7_5 0 8 := iv_lt1 (iv_nle c2) ij7_5 ia3 (by decide)
        refine lv_aload_n hx hb dJ1_indexOfChar_4cfef_13 rfl (lv_at hl 0 rfl) ?_
        refine lv_iload hx hb dJ1_indexOfChar_4cfef_14 (lv_at hl 5 rfl) ?_
        refine va_tb hx hb (cx.2.2.1.1 1 (by decide)).2.2.2 hw.2.2.1 (iv_in i4 (by decide)) rfl dJ1_indexOfChar_4cfef_16 ?_
        refine lv_topi (fun v5 e5 => ?_)
        refine lv_iload hx hb dJ1_indexOfChar_4cfef_17 (lv_at hl 4 rfl) ?_
        refine lv_icmp_ne (tgt := 25) hx hb dJ1_indexOfChar_4cfef_19 (by decide) (fun c6 => ?_) (fun c6 => ?_)
        · --
          obtain ⟨v7, e7⟩ : ∃ y : Int32, y = j7_5 + 1 := ⟨_, rfl⟩
          have i7 : Iv v7 1 9 := iv_add e7 i4 (⟨by decide, by decide⟩ : Iv 1 1 1) (by decide)
          have x7 : v7.toInt = j7_5.toInt + 1 := ex_add e7 i4 (⟨by decide, by decide⟩ : Iv 1 1 1) (by decide)
          refine lv_iinc (v := v7) (lv' := [(5, .int v7), (0, .ref (K.2 1)), (1, .int a1), (2, .int a2), (3, .int a3), (4, .int v1)]) hx hb dJ1_indexOfChar_4cfef_25 hl (k := 5) rfl (by rw [e7]; rfl) (by decide) rfl (fun ls hl => ?_)
          refine lv_goto (tgt := 7) hx hb dJ1_indexOfChar_4cfef_28 (by decide) ?_
          exact ih_7 v7 (iv_w i7 (by decide)) _ _ hw (ms_up x7 (by decide) (iv_w (a' := 0) (b' := 2147483647) i7 (by decide)).2 hn_7) _ (lv_sub hl [1, 2, 3, 4, 5, 0] rfl)
        · --
          refine lv_iload hx hb dJ1_indexOfChar_4cfef_22 (lv_at hl 5 rfl) ?_
          rw [← hQ]
          exact o_ri cx rx hw dJ1_indexOfChar_4cfef_24 ⟨rfl, (iv_w i4 (by decide))⟩
  exact J_7 _ a2 (iv_w ia2 (by decide)) _ _ hw (Nat.lt_succ_self _) _ (lv_sub hl [2, 3, 4, 5, 1, 0] rfl)
set_option maxHeartbeats 4000000 in
set_option maxRecDepth 100000 in
theorem c_J1_indexOfChar_4cfef_2 (a1 : Int32) (a2 : Int32) (ia2 : Iv a2 0 0) (a3 : Int32) (ia3 : Iv a3 11 11) : oMet l A L τ cy D K yJ1_indexOfChar_4cfef cJ1_indexOfChar_4cfef 6 (some .int) 0 0 [.ref (K.2 2), .int a1, .int a2, .int a3] σ (va_Qi (fun r σ1 => σ1 = σ ∧ Iv r (-1) 10) (oPo A L τ cy D) A) := by
  refine oMk (by decide) (Nat.le_of_ble_eq_true rfl) rfl ?_
  intro p e s m args below meth c ls cx rx hA hw hl
  generalize hQ : MQ below _ args s 0 0 A = Q
  have hx := cx.1.1
  have hb := cx.1.2.1
  have hml := cx.1.2.2.1
  have hown := cx.1.2.2.2.1
  have hts := cx.1.2.2.2.2
  have hl : lv_has ls 6 [(0, .ref (K.2 2)), (1, .int a1), (2, .int a2), (3, .int a3)] := hl
  refine lv_iload_n hx hb dJ1_indexOfChar_4cfef_0 rfl (lv_at hl 1 rfl) ?_
  refine lv_i2b hx hb dJ1_indexOfChar_4cfef_1 rfl ?_
  refine lv_topi (fun v1 e1 => ?_)
  refine lv_istore (lv' := [(4, .int v1), (0, .ref (K.2 2)), (1, .int a1), (2, .int a2), (3, .int a3)]) hx hb dJ1_indexOfChar_4cfef_2 hl (by decide) rfl (fun ls hl => ?_)
  refine lv_iload_n hx hb dJ1_indexOfChar_4cfef_4 rfl (lv_at hl 3 rfl) ?_
  refine lv_istore (lv' := [(5, .int a2), (4, .int v1), (0, .ref (K.2 2)), (1, .int a1), (2, .int a2), (3, .int a3)]) hx hb dJ1_indexOfChar_4cfef_5 hl (by decide) rfl (fun ls hl => ?_)
  have J_7 : ∀ n7 : Nat, ∀ (j7_5 : Int32) (ij7_5 : Iv j7_5 0 2147483647), ∀ (H : Heap) (locs : List Loc), oI A L τ cy D s.heap σ H locs → (2147483647 - j7_5.toInt).toNat < n7 → ∀ (ls : Array Slot), lv_has ls 6 [(0, .ref (K.2 2)), (1, .int a1), (2, .int a2), (3, .int a3), (4, .int v1), (5, .int j7_5)] → W p l e ({ frames := 0, cells := 0, slots := 0, locals := 0 } : Room) s m args below meth c H locs 0 0 Q (F0 m 7 ls []) := by
    intro n7
    induction n7 with
    | zero => intro j7_5 ij7_5 H locs hw  hn_7   ls hl; exact absurd hn_7 (Nat.not_lt_zero _)
    | succ n7 ih_7 =>
      intro j7_5 ij7_5 H locs hw  hn_7   ls hl
      refine lv_iload hx hb dJ1_indexOfChar_4cfef_7 (lv_at hl 5 rfl) ?_
      refine lv_iload_n hx hb dJ1_indexOfChar_4cfef_9 rfl (lv_at hl 3 rfl) ?_
      refine lv_icmp_ge (tgt := 31) hx hb dJ1_indexOfChar_4cfef_10 (by decide) (fun c2 => ?_) (fun c2 => ?_)
      · --
        have i3 : Iv j7_5 11 2147483647 := iv_le2 c2 ia3 ij7_5 (by decide)
        refine lv_iconst (v := (-1)) hx hb dJ1_indexOfChar_4cfef_31 (by decide) ?_
        rw [← hQ]
        exact o_ri cx rx hw dJ1_indexOfChar_4cfef_32 ⟨rfl, (iv_w (⟨by decide, by decide⟩ : Iv (-1) (-1) (-1)) (by decide))⟩
      · --
        have i4 : Iv j7_5 0 10 := iv_lt1 (iv_nle c2) ij7_5 ia3 (by decide)
        refine lv_aload_n hx hb dJ1_indexOfChar_4cfef_13 rfl (lv_at hl 0 rfl) ?_
        refine lv_iload hx hb dJ1_indexOfChar_4cfef_14 (lv_at hl 5 rfl) ?_
        refine va_tb hx hb (cx.2.2.1.1 2 (by decide)).2.2.2 hw.2.2.1 (iv_in i4 (by decide)) rfl dJ1_indexOfChar_4cfef_16 ?_
        refine lv_topi (fun v5 e5 => ?_)
        refine lv_iload hx hb dJ1_indexOfChar_4cfef_17 (lv_at hl 4 rfl) ?_
        refine lv_icmp_ne (tgt := 25) hx hb dJ1_indexOfChar_4cfef_19 (by decide) (fun c6 => ?_) (fun c6 => ?_)
        · --
          obtain ⟨v7, e7⟩ : ∃ y : Int32, y = j7_5 + 1 := ⟨_, rfl⟩
          have i7 : Iv v7 1 11 := iv_add e7 i4 (⟨by decide, by decide⟩ : Iv 1 1 1) (by decide)
          have x7 : v7.toInt = j7_5.toInt + 1 := ex_add e7 i4 (⟨by decide, by decide⟩ : Iv 1 1 1) (by decide)
          refine lv_iinc (v := v7) (lv' := [(5, .int v7), (0, .ref (K.2 2)), (1, .int a1), (2, .int a2), (3, .int a3), (4, .int v1)]) hx hb dJ1_indexOfChar_4cfef_25 hl (k := 5) rfl (by rw [e7]; rfl) (by decide) rfl (fun ls hl => ?_)
          refine lv_goto (tgt := 7) hx hb dJ1_indexOfChar_4cfef_28 (by decide) ?_
          exact ih_7 v7 (iv_w i7 (by decide)) _ _ hw (ms_up x7 (by decide) (iv_w (a' := 0) (b' := 2147483647) i7 (by decide)).2 hn_7) _ (lv_sub hl [1, 2, 3, 4, 5, 0] rfl)
        · --
          refine lv_iload hx hb dJ1_indexOfChar_4cfef_22 (lv_at hl 5 rfl) ?_
          rw [← hQ]
          exact o_ri cx rx hw dJ1_indexOfChar_4cfef_24 ⟨rfl, (iv_w i4 (by decide))⟩
  exact J_7 _ a2 (iv_w ia2 (by decide)) _ _ hw (Nat.lt_succ_self _) _ (lv_sub hl [2, 3, 4, 5, 1, 0] rfl)
set_option maxHeartbeats 4000000 in
set_option maxRecDepth 100000 in
theorem c_J1_indexOfChar_4cfef_3 (a1 : Int32) (a2 : Int32) (ia2 : Iv a2 0 0) (a3 : Int32) (ia3 : Iv a3 6 6) : oMet l A L τ cy D K yJ1_indexOfChar_4cfef cJ1_indexOfChar_4cfef 6 (some .int) 0 0 [.ref (K.2 3), .int a1, .int a2, .int a3] σ (va_Qi (fun r σ1 => σ1 = σ ∧ Iv r (-1) 5) (oPo A L τ cy D) A) := by
  refine oMk (by decide) (Nat.le_of_ble_eq_true rfl) rfl ?_
  intro p e s m args below meth c ls cx rx hA hw hl
  generalize hQ : MQ below _ args s 0 0 A = Q
  have hx := cx.1.1
  have hb := cx.1.2.1
  have hml := cx.1.2.2.1
  have hown := cx.1.2.2.2.1
  have hts := cx.1.2.2.2.2
  have hl : lv_has ls 6 [(0, .ref (K.2 3)), (1, .int a1), (2, .int a2), (3, .int a3)] := hl
  refine lv_iload_n hx hb dJ1_indexOfChar_4cfef_0 rfl (lv_at hl 1 rfl) ?_
  refine lv_i2b hx hb dJ1_indexOfChar_4cfef_1 rfl ?_
  refine lv_topi (fun v1 e1 => ?_)
  refine lv_istore (lv' := [(4, .int v1), (0, .ref (K.2 3)), (1, .int a1), (2, .int a2), (3, .int a3)]) hx hb dJ1_indexOfChar_4cfef_2 hl (by decide) rfl (fun ls hl => ?_)
  refine lv_iload_n hx hb dJ1_indexOfChar_4cfef_4 rfl (lv_at hl 3 rfl) ?_
  refine lv_istore (lv' := [(5, .int a2), (4, .int v1), (0, .ref (K.2 3)), (1, .int a1), (2, .int a2), (3, .int a3)]) hx hb dJ1_indexOfChar_4cfef_5 hl (by decide) rfl (fun ls hl => ?_)
  have J_7 : ∀ n7 : Nat, ∀ (j7_5 : Int32) (ij7_5 : Iv j7_5 0 2147483647), ∀ (H : Heap) (locs : List Loc), oI A L τ cy D s.heap σ H locs → (2147483647 - j7_5.toInt).toNat < n7 → ∀ (ls : Array Slot), lv_has ls 6 [(0, .ref (K.2 3)), (1, .int a1), (2, .int a2), (3, .int a3), (4, .int v1), (5, .int j7_5)] → W p l e ({ frames := 0, cells := 0, slots := 0, locals := 0 } : Room) s m args below meth c H locs 0 0 Q (F0 m 7 ls []) := by
    intro n7
    induction n7 with
    | zero => intro j7_5 ij7_5 H locs hw  hn_7   ls hl; exact absurd hn_7 (Nat.not_lt_zero _)
    | succ n7 ih_7 =>
      intro j7_5 ij7_5 H locs hw  hn_7   ls hl
      refine lv_iload hx hb dJ1_indexOfChar_4cfef_7 (lv_at hl 5 rfl) ?_
      refine lv_iload_n hx hb dJ1_indexOfChar_4cfef_9 rfl (lv_at hl 3 rfl) ?_
      refine lv_icmp_ge (tgt := 31) hx hb dJ1_indexOfChar_4cfef_10 (by decide) (fun c2 => ?_) (fun c2 => ?_)
      · --
        have i3 : Iv j7_5 6 2147483647 := iv_le2 c2 ia3 ij7_5 (by decide)
        refine lv_iconst (v := (-1)) hx hb dJ1_indexOfChar_4cfef_31 (by decide) ?_
        rw [← hQ]
        exact o_ri cx rx hw dJ1_indexOfChar_4cfef_32 ⟨rfl, (iv_w (⟨by decide, by decide⟩ : Iv (-1) (-1) (-1)) (by decide))⟩
      · --
        have i4 : Iv j7_5 0 5 := iv_lt1 (iv_nle c2) ij7_5 ia3 (by decide)
        refine lv_aload_n hx hb dJ1_indexOfChar_4cfef_13 rfl (lv_at hl 0 rfl) ?_
        refine lv_iload hx hb dJ1_indexOfChar_4cfef_14 (lv_at hl 5 rfl) ?_
        refine va_tb hx hb (cx.2.2.1.1 3 (by decide)).2.2.2 hw.2.2.1 (iv_in i4 (by decide)) rfl dJ1_indexOfChar_4cfef_16 ?_
        refine lv_topi (fun v5 e5 => ?_)
        refine lv_iload hx hb dJ1_indexOfChar_4cfef_17 (lv_at hl 4 rfl) ?_
        refine lv_icmp_ne (tgt := 25) hx hb dJ1_indexOfChar_4cfef_19 (by decide) (fun c6 => ?_) (fun c6 => ?_)
        · --
          obtain ⟨v7, e7⟩ : ∃ y : Int32, y = j7_5 + 1 := ⟨_, rfl⟩
          have i7 : Iv v7 1 6 := iv_add e7 i4 (⟨by decide, by decide⟩ : Iv 1 1 1) (by decide)
          have x7 : v7.toInt = j7_5.toInt + 1 := ex_add e7 i4 (⟨by decide, by decide⟩ : Iv 1 1 1) (by decide)
          refine lv_iinc (v := v7) (lv' := [(5, .int v7), (0, .ref (K.2 3)), (1, .int a1), (2, .int a2), (3, .int a3), (4, .int v1)]) hx hb dJ1_indexOfChar_4cfef_25 hl (k := 5) rfl (by rw [e7]; rfl) (by decide) rfl (fun ls hl => ?_)
          refine lv_goto (tgt := 7) hx hb dJ1_indexOfChar_4cfef_28 (by decide) ?_
          exact ih_7 v7 (iv_w i7 (by decide)) _ _ hw (ms_up x7 (by decide) (iv_w (a' := 0) (b' := 2147483647) i7 (by decide)).2 hn_7) _ (lv_sub hl [1, 2, 3, 4, 5, 0] rfl)
        · --
          refine lv_iload hx hb dJ1_indexOfChar_4cfef_22 (lv_at hl 5 rfl) ?_
          rw [← hQ]
          exact o_ri cx rx hw dJ1_indexOfChar_4cfef_24 ⟨rfl, (iv_w i4 (by decide))⟩
  exact J_7 _ a2 (iv_w ia2 (by decide)) _ _ hw (Nat.lt_succ_self _) _ (lv_sub hl [2, 3, 4, 5, 1, 0] rfl)
set_option maxHeartbeats 4000000 in
set_option maxRecDepth 100000 in
theorem c_J1_indexOf_4cfef_1 (a1 : Int32) (a2 : Int32) (ia2 : Iv a2 0 0) (a3 : Int32) (ia3 : Iv a3 9 9) : oMet l A L τ cy D K yJ1_indexOf_4cfef cJ1_indexOf_4cfef 4 (some .int) 1 40 [.ref (K.2 1), .int a1, .int a2, .int a3] σ (va_Qi (fun r σ1 => σ1 = σ ∧ Iv r (-1) 8) (oPo A L τ cy D) A) := by
  refine oMk (by decide) (Nat.le_of_ble_eq_true rfl) rfl ?_
  intro p e s m args below meth c ls cx rx hA hw hl
  generalize hQ : MQ below _ args s 0 0 A = Q
  have hx := cx.1.1
  have hb := cx.1.2.1
  have hml := cx.1.2.2.1
  have hown := cx.1.2.2.2.1
  have hts := cx.1.2.2.2.2
  have hl : lv_has ls 4 [(0, .ref (K.2 1)), (1, .int a1), (2, .int a2), (3, .int a3)] := hl
  refine lv_iload_n hx hb dJ1_indexOf_4cfef_0 rfl (lv_at hl 1 rfl) ?_
  refine o_ci hw (oRunS cx hA hw q_J1_canEncode_9a6ad k_m_J1_88 (As := [.int a1]) (c_J1_canEncode_9a6ad a1) (by decide) rfl hl.1 rfl (Nat.le_of_ble_eq_true rfl) dJ1_indexOf_4cfef_1 (by decide)) (fun v2 σ1 H locs hp hw => ?_)
  obtain ⟨p2_0, p2_1⟩ := hp
  rw [p2_0] at hw
  refine lv_if_ne (tgt := 9) hx hb dJ1_indexOf_4cfef_4 (by decide) (fun c3 => ?_) (fun c3 => ?_)
  · --
    have i4 : Iv v2 1 1 := iv_ne1 c3 p2_1 (⟨by decide, by decide⟩ : Iv 0 0 0) (by decide)
    refine lv_iload_n hx hb dJ1_indexOf_4cfef_9 rfl (lv_at hl 2 rfl) ?_
    refine lv_iconst (v := 0) hx hb dJ1_indexOf_4cfef_10 (by decide) ?_
    refine va_mmax hx hb (hml.trans hl.1.symm) hown (hts _ k_m_J1_92) (hts _ k_s_J9_max_7cf53) (hts _ k_i_J9) (hts _ k_code_J9_max_7cf53) (by decide) (Nat.le_of_ble_eq_true rfl) (by decide) (by decide) dJ1_indexOf_4cfef_11 ?_
    refine lv_topi (fun v5 e5 => ?_)
    have i5 : Iv v5 0 0 := iv_max e5 ia2 (⟨by decide, by decide⟩ : Iv 0 0 0) (by decide)
    refine lv_istore_n (lv' := [(2, .int v5), (0, .ref (K.2 1)), (1, .int a1), (3, .int a3)]) hx hb dJ1_indexOf_4cfef_14 rfl hl (by decide) rfl (fun ls hl => ?_)
    refine lv_iload_n hx hb dJ1_indexOf_4cfef_15 rfl (lv_at hl 3 rfl) ?_
    refine lv_aload_n hx hb dJ1_indexOf_4cfef_16 rfl (lv_at hl 1 rfl) ?_
    refine va_tlen (v := 9) hx hb (cx.2.2.1.1 1 (by decide)).2.2.2 hw.2.2.1 (by decide) dJ1_indexOf_4cfef_17 ?_
    refine va_mmin hx hb (hml.trans hl.1.symm) hown (hts _ k_m_J1_38) (hts _ k_s_J9_min_7cf53) (hts _ k_i_J9) (hts _ k_code_J9_min_7cf53) (by decide) (Nat.le_of_ble_eq_true rfl) (by decide) (by decide) dJ1_indexOf_4cfef_18 ?_
    refine lv_topi (fun v6 e6 => ?_)
    have i6 : Iv v6 9 9 := iv_min e6 ia3 (⟨by decide, by decide⟩ : Iv 9 9 9) (by decide)
    refine lv_istore_n (lv' := [(3, .int v6), (2, .int v5), (0, .ref (K.2 1)), (1, .int a1)]) hx hb dJ1_indexOf_4cfef_21 rfl hl (by decide) rfl (fun ls hl => ?_)
    refine lv_iload_n hx hb dJ1_indexOf_4cfef_22 rfl (lv_at hl 1 rfl) ?_
    refine lv_iload_n hx hb dJ1_indexOf_4cfef_23 rfl (lv_at hl 0 rfl) ?_
    refine lv_icmp_lt (tgt := 29) hx hb dJ1_indexOf_4cfef_24 (by decide) (fun c7 => ?_) (fun c7 => ?_)
    · --
      refine lv_aload_n hx hb dJ1_indexOf_4cfef_29 rfl (lv_at hl 2 rfl) ?_
      refine lv_iload_n hx hb dJ1_indexOf_4cfef_30 rfl (lv_at hl 3 rfl) ?_
      refine lv_iload_n hx hb dJ1_indexOf_4cfef_31 rfl (lv_at hl 1 rfl) ?_
      refine lv_iload_n hx hb dJ1_indexOf_4cfef_32 rfl (lv_at hl 0 rfl) ?_
      refine o_ci hw (oRunS cx hA hw q_J1_indexOfChar_4cfef k_m_J1_95 (As := [.ref (K.2 1), .int a1, .int v5, .int v6]) (c_J1_indexOfChar_4cfef_1 a1 v5 (iv_w i5 (by decide)) v6 (iv_w i6 (by decide))) (by decide) rfl hl.1 rfl (Nat.le_of_ble_eq_true rfl) dJ1_indexOf_4cfef_33 (by decide)) (fun v9 σ8 H locs hp hw => ?_)
      obtain ⟨p9_0, p9_1⟩ := hp
      rw [p9_0] at hw
      rw [← hQ]
      exact o_ri cx rx hw dJ1_indexOf_4cfef_36 ⟨rfl, (iv_w p9_1 (by decide))⟩
    · --
      exact iv_no (iv_le1 (b' := 8) (iv_nlt c7) i6 i5 (by decide)) (by decide)
  · --
    have i10 : Iv v2 0 0 := iv_eq1 c3 p2_1 (⟨by decide, by decide⟩ : Iv 0 0 0) (by decide)
    refine lv_iconst (v := (-1)) hx hb dJ1_indexOf_4cfef_7 (by decide) ?_
    rw [← hQ]
    exact o_ri cx rx hw dJ1_indexOf_4cfef_8 ⟨rfl, (iv_w (⟨by decide, by decide⟩ : Iv (-1) (-1) (-1)) (by decide))⟩
set_option maxHeartbeats 4000000 in
set_option maxRecDepth 100000 in
theorem c_J1_indexOf_4cfef_2 (a1 : Int32) (a2 : Int32) (ia2 : Iv a2 0 0) (a3 : Int32) (ia3 : Iv a3 11 11) : oMet l A L τ cy D K yJ1_indexOf_4cfef cJ1_indexOf_4cfef 4 (some .int) 1 40 [.ref (K.2 2), .int a1, .int a2, .int a3] σ (va_Qi (fun r σ1 => σ1 = σ ∧ Iv r (-1) 10) (oPo A L τ cy D) A) := by
  refine oMk (by decide) (Nat.le_of_ble_eq_true rfl) rfl ?_
  intro p e s m args below meth c ls cx rx hA hw hl
  generalize hQ : MQ below _ args s 0 0 A = Q
  have hx := cx.1.1
  have hb := cx.1.2.1
  have hml := cx.1.2.2.1
  have hown := cx.1.2.2.2.1
  have hts := cx.1.2.2.2.2
  have hl : lv_has ls 4 [(0, .ref (K.2 2)), (1, .int a1), (2, .int a2), (3, .int a3)] := hl
  refine lv_iload_n hx hb dJ1_indexOf_4cfef_0 rfl (lv_at hl 1 rfl) ?_
  refine o_ci hw (oRunS cx hA hw q_J1_canEncode_9a6ad k_m_J1_88 (As := [.int a1]) (c_J1_canEncode_9a6ad a1) (by decide) rfl hl.1 rfl (Nat.le_of_ble_eq_true rfl) dJ1_indexOf_4cfef_1 (by decide)) (fun v2 σ1 H locs hp hw => ?_)
  obtain ⟨p2_0, p2_1⟩ := hp
  rw [p2_0] at hw
  refine lv_if_ne (tgt := 9) hx hb dJ1_indexOf_4cfef_4 (by decide) (fun c3 => ?_) (fun c3 => ?_)
  · --
    have i4 : Iv v2 1 1 := iv_ne1 c3 p2_1 (⟨by decide, by decide⟩ : Iv 0 0 0) (by decide)
    refine lv_iload_n hx hb dJ1_indexOf_4cfef_9 rfl (lv_at hl 2 rfl) ?_
    refine lv_iconst (v := 0) hx hb dJ1_indexOf_4cfef_10 (by decide) ?_
    refine va_mmax hx hb (hml.trans hl.1.symm) hown (hts _ k_m_J1_92) (hts _ k_s_J9_max_7cf53) (hts _ k_i_J9) (hts _ k_code_J9_max_7cf53) (by decide) (Nat.le_of_ble_eq_true rfl) (by decide) (by decide) dJ1_indexOf_4cfef_11 ?_
    refine lv_topi (fun v5 e5 => ?_)
    have i5 : Iv v5 0 0 := iv_max e5 ia2 (⟨by decide, by decide⟩ : Iv 0 0 0) (by decide)
    refine lv_istore_n (lv' := [(2, .int v5), (0, .ref (K.2 2)), (1, .int a1), (3, .int a3)]) hx hb dJ1_indexOf_4cfef_14 rfl hl (by decide) rfl (fun ls hl => ?_)
    refine lv_iload_n hx hb dJ1_indexOf_4cfef_15 rfl (lv_at hl 3 rfl) ?_
    refine lv_aload_n hx hb dJ1_indexOf_4cfef_16 rfl (lv_at hl 1 rfl) ?_
    refine va_tlen (v := 11) hx hb (cx.2.2.1.1 2 (by decide)).2.2.2 hw.2.2.1 (by decide) dJ1_indexOf_4cfef_17 ?_
    refine va_mmin hx hb (hml.trans hl.1.symm) hown (hts _ k_m_J1_38) (hts _ k_s_J9_min_7cf53) (hts _ k_i_J9) (hts _ k_code_J9_min_7cf53) (by decide) (Nat.le_of_ble_eq_true rfl) (by decide) (by decide) dJ1_indexOf_4cfef_18 ?_
    refine lv_topi (fun v6 e6 => ?_)
    have i6 : Iv v6 11 11 := iv_min e6 ia3 (⟨by decide, by decide⟩ : Iv 11 11 11) (by decide)
    refine lv_istore_n (lv' := [(3, .int v6), (2, .int v5), (0, .ref (K.2 2)), (1, .int a1)]) hx hb dJ1_indexOf_4cfef_21 rfl hl (by decide) rfl (fun ls hl => ?_)
    refine lv_iload_n hx hb dJ1_indexOf_4cfef_22 rfl (lv_at hl 1 rfl) ?_
    refine lv_iload_n hx hb dJ1_indexOf_4cfef_23 rfl (lv_at hl 0 rfl) ?_
    refine lv_icmp_lt (tgt := 29) hx hb dJ1_indexOf_4cfef_24 (by decide) (fun c7 => ?_) (fun c7 => ?_)
    · --
      refine lv_aload_n hx hb dJ1_indexOf_4cfef_29 rfl (lv_at hl 2 rfl) ?_
      refine lv_iload_n hx hb dJ1_indexOf_4cfef_30 rfl (lv_at hl 3 rfl) ?_
      refine lv_iload_n hx hb dJ1_indexOf_4cfef_31 rfl (lv_at hl 1 rfl) ?_
      refine lv_iload_n hx hb dJ1_indexOf_4cfef_32 rfl (lv_at hl 0 rfl) ?_
      refine o_ci hw (oRunS cx hA hw q_J1_indexOfChar_4cfef k_m_J1_95 (As := [.ref (K.2 2), .int a1, .int v5, .int v6]) (c_J1_indexOfChar_4cfef_2 a1 v5 (iv_w i5 (by decide)) v6 (iv_w i6 (by decide))) (by decide) rfl hl.1 rfl (Nat.le_of_ble_eq_true rfl) dJ1_indexOf_4cfef_33 (by decide)) (fun v9 σ8 H locs hp hw => ?_)
      obtain ⟨p9_0, p9_1⟩ := hp
      rw [p9_0] at hw
      rw [← hQ]
      exact o_ri cx rx hw dJ1_indexOf_4cfef_36 ⟨rfl, (iv_w p9_1 (by decide))⟩
    · --
      exact iv_no (iv_le1 (b' := 10) (iv_nlt c7) i6 i5 (by decide)) (by decide)
  · --
    have i10 : Iv v2 0 0 := iv_eq1 c3 p2_1 (⟨by decide, by decide⟩ : Iv 0 0 0) (by decide)
    refine lv_iconst (v := (-1)) hx hb dJ1_indexOf_4cfef_7 (by decide) ?_
    rw [← hQ]
    exact o_ri cx rx hw dJ1_indexOf_4cfef_8 ⟨rfl, (iv_w (⟨by decide, by decide⟩ : Iv (-1) (-1) (-1)) (by decide))⟩
set_option maxHeartbeats 4000000 in
set_option maxRecDepth 100000 in
theorem c_J1_indexOf_4cfef_3 (a1 : Int32) (a2 : Int32) (ia2 : Iv a2 0 0) (a3 : Int32) (ia3 : Iv a3 6 6) : oMet l A L τ cy D K yJ1_indexOf_4cfef cJ1_indexOf_4cfef 4 (some .int) 1 40 [.ref (K.2 3), .int a1, .int a2, .int a3] σ (va_Qi (fun r σ1 => σ1 = σ ∧ Iv r (-1) 5) (oPo A L τ cy D) A) := by
  refine oMk (by decide) (Nat.le_of_ble_eq_true rfl) rfl ?_
  intro p e s m args below meth c ls cx rx hA hw hl
  generalize hQ : MQ below _ args s 0 0 A = Q
  have hx := cx.1.1
  have hb := cx.1.2.1
  have hml := cx.1.2.2.1
  have hown := cx.1.2.2.2.1
  have hts := cx.1.2.2.2.2
  have hl : lv_has ls 4 [(0, .ref (K.2 3)), (1, .int a1), (2, .int a2), (3, .int a3)] := hl
  refine lv_iload_n hx hb dJ1_indexOf_4cfef_0 rfl (lv_at hl 1 rfl) ?_
  refine o_ci hw (oRunS cx hA hw q_J1_canEncode_9a6ad k_m_J1_88 (As := [.int a1]) (c_J1_canEncode_9a6ad a1) (by decide) rfl hl.1 rfl (Nat.le_of_ble_eq_true rfl) dJ1_indexOf_4cfef_1 (by decide)) (fun v2 σ1 H locs hp hw => ?_)
  obtain ⟨p2_0, p2_1⟩ := hp
  rw [p2_0] at hw
  refine lv_if_ne (tgt := 9) hx hb dJ1_indexOf_4cfef_4 (by decide) (fun c3 => ?_) (fun c3 => ?_)
  · --
    have i4 : Iv v2 1 1 := iv_ne1 c3 p2_1 (⟨by decide, by decide⟩ : Iv 0 0 0) (by decide)
    refine lv_iload_n hx hb dJ1_indexOf_4cfef_9 rfl (lv_at hl 2 rfl) ?_
    refine lv_iconst (v := 0) hx hb dJ1_indexOf_4cfef_10 (by decide) ?_
    refine va_mmax hx hb (hml.trans hl.1.symm) hown (hts _ k_m_J1_92) (hts _ k_s_J9_max_7cf53) (hts _ k_i_J9) (hts _ k_code_J9_max_7cf53) (by decide) (Nat.le_of_ble_eq_true rfl) (by decide) (by decide) dJ1_indexOf_4cfef_11 ?_
    refine lv_topi (fun v5 e5 => ?_)
    have i5 : Iv v5 0 0 := iv_max e5 ia2 (⟨by decide, by decide⟩ : Iv 0 0 0) (by decide)
    refine lv_istore_n (lv' := [(2, .int v5), (0, .ref (K.2 3)), (1, .int a1), (3, .int a3)]) hx hb dJ1_indexOf_4cfef_14 rfl hl (by decide) rfl (fun ls hl => ?_)
    refine lv_iload_n hx hb dJ1_indexOf_4cfef_15 rfl (lv_at hl 3 rfl) ?_
    refine lv_aload_n hx hb dJ1_indexOf_4cfef_16 rfl (lv_at hl 1 rfl) ?_
    refine va_tlen (v := 6) hx hb (cx.2.2.1.1 3 (by decide)).2.2.2 hw.2.2.1 (by decide) dJ1_indexOf_4cfef_17 ?_
    refine va_mmin hx hb (hml.trans hl.1.symm) hown (hts _ k_m_J1_38) (hts _ k_s_J9_min_7cf53) (hts _ k_i_J9) (hts _ k_code_J9_min_7cf53) (by decide) (Nat.le_of_ble_eq_true rfl) (by decide) (by decide) dJ1_indexOf_4cfef_18 ?_
    refine lv_topi (fun v6 e6 => ?_)
    have i6 : Iv v6 6 6 := iv_min e6 ia3 (⟨by decide, by decide⟩ : Iv 6 6 6) (by decide)
    refine lv_istore_n (lv' := [(3, .int v6), (2, .int v5), (0, .ref (K.2 3)), (1, .int a1)]) hx hb dJ1_indexOf_4cfef_21 rfl hl (by decide) rfl (fun ls hl => ?_)
    refine lv_iload_n hx hb dJ1_indexOf_4cfef_22 rfl (lv_at hl 1 rfl) ?_
    refine lv_iload_n hx hb dJ1_indexOf_4cfef_23 rfl (lv_at hl 0 rfl) ?_
    refine lv_icmp_lt (tgt := 29) hx hb dJ1_indexOf_4cfef_24 (by decide) (fun c7 => ?_) (fun c7 => ?_)
    · --
      refine lv_aload_n hx hb dJ1_indexOf_4cfef_29 rfl (lv_at hl 2 rfl) ?_
      refine lv_iload_n hx hb dJ1_indexOf_4cfef_30 rfl (lv_at hl 3 rfl) ?_
      refine lv_iload_n hx hb dJ1_indexOf_4cfef_31 rfl (lv_at hl 1 rfl) ?_
      refine lv_iload_n hx hb dJ1_indexOf_4cfef_32 rfl (lv_at hl 0 rfl) ?_
      refine o_ci hw (oRunS cx hA hw q_J1_indexOfChar_4cfef k_m_J1_95 (As := [.ref (K.2 3), .int a1, .int v5, .int v6]) (c_J1_indexOfChar_4cfef_3 a1 v5 (iv_w i5 (by decide)) v6 (iv_w i6 (by decide))) (by decide) rfl hl.1 rfl (Nat.le_of_ble_eq_true rfl) dJ1_indexOf_4cfef_33 (by decide)) (fun v9 σ8 H locs hp hw => ?_)
      obtain ⟨p9_0, p9_1⟩ := hp
      rw [p9_0] at hw
      rw [← hQ]
      exact o_ri cx rx hw dJ1_indexOf_4cfef_36 ⟨rfl, (iv_w p9_1 (by decide))⟩
    · --
      exact iv_no (iv_le1 (b' := 5) (iv_nlt c7) i6 i5 (by decide)) (by decide)
  · --
    have i10 : Iv v2 0 0 := iv_eq1 c3 p2_1 (⟨by decide, by decide⟩ : Iv 0 0 0) (by decide)
    refine lv_iconst (v := (-1)) hx hb dJ1_indexOf_4cfef_7 (by decide) ?_
    rw [← hQ]
    exact o_ri cx rx hw dJ1_indexOf_4cfef_8 ⟨rfl, (iv_w (⟨by decide, by decide⟩ : Iv (-1) (-1) (-1)) (by decide))⟩
set_option maxHeartbeats 4000000 in
set_option maxRecDepth 100000 in
theorem c_J11_isValidCodePoint_9a6ad (a0 : Int32) : oMet l A L τ cy D K yJ11_isValidCodePoint_9a6ad cJ11_isValidCodePoint_9a6ad 2 (some .boolean) 0 0 [.int a0] σ (va_Qi (fun r σ1 => σ1 = σ ∧ Iv r 0 1) (oPo A L τ cy D) A) := by
  refine oMk (by decide) (Nat.le_of_ble_eq_true rfl) rfl ?_
  intro p e s m args below meth c ls cx rx hA hw hl
  generalize hQ : MQ below _ args s 0 0 A = Q
  have hx := cx.1.1
  have hb := cx.1.2.1
  have hml := cx.1.2.2.1
  have hown := cx.1.2.2.2.1
  have hts := cx.1.2.2.2.2
  have hl : lv_has ls 2 [(0, .int a0)] := hl
  refine lv_iload_n hx hb dJ11_isValidCodePoint_9a6ad_0 rfl (lv_at hl 0 rfl) ?_
  refine lv_bipush (v := 16) hx hb dJ11_isValidCodePoint_9a6ad_1 (by decide) ?_
  refine lv_iushr hx hb dJ11_isValidCodePoint_9a6ad_3 rfl ?_
  refine lv_topi (fun v1 e1 => ?_)
  have i1 : Iv v1 0 65535 := iv_ushr16 e1
  refine lv_istore_n (lv' := [(1, .int v1), (0, .int a0)]) hx hb dJ11_isValidCodePoint_9a6ad_4 rfl hl (by decide) rfl (fun ls hl => ?_)
  refine lv_iload_n hx hb dJ11_isValidCodePoint_9a6ad_5 rfl (lv_at hl 0 rfl) ?_
  refine lv_bipush (v := 17) hx hb dJ11_isValidCodePoint_9a6ad_6 (by decide) ?_
  refine lv_icmp_ge (tgt := 15) hx hb dJ11_isValidCodePoint_9a6ad_8 (by decide) (fun c2 => ?_) (fun c2 => ?_)
  · --
    have i3 : Iv v1 17 65535 := iv_le2 c2 (⟨by decide, by decide⟩ : Iv 17 17 17) i1 (by decide)
    refine lv_iconst (v := 0) hx hb dJ11_isValidCodePoint_9a6ad_15 (by decide) ?_
    rw [← hQ]
    exact o_rz cx rx hw (iv_nz01 (iv_w (⟨by decide, by decide⟩ : Iv 0 0 0) (by decide))) dJ11_isValidCodePoint_9a6ad_16 ⟨rfl, (iv_w (⟨by decide, by decide⟩ : Iv 0 0 0) (by decide))⟩
  · --
    have i4 : Iv v1 0 16 := iv_lt1 (iv_nle c2) i1 (⟨by decide, by decide⟩ : Iv 17 17 17) (by decide)
    refine lv_iconst (v := 1) hx hb dJ11_isValidCodePoint_9a6ad_11 (by decide) ?_
    refine lv_goto (tgt := 16) hx hb dJ11_isValidCodePoint_9a6ad_12 (by decide) ?_
    rw [← hQ]
    exact o_rz cx rx hw (iv_nz01 (iv_w (⟨by decide, by decide⟩ : Iv 1 1 1) (by decide))) dJ11_isValidCodePoint_9a6ad_16 ⟨rfl, (iv_w (⟨by decide, by decide⟩ : Iv 1 1 1) (by decide))⟩
set_option maxHeartbeats 4000000 in
set_option maxRecDepth 100000 in
theorem c_J11_highSurrogate_5068e (a0 : Int32) : oMet l A L τ cy D K yJ11_highSurrogate_5068e cJ11_highSurrogate_5068e 1 (some .char) 0 0 [.int a0] σ (va_Qi (fun r σ1 => σ1 = σ ∧ Iv r 0 65535 ∧ narrow .char (.int r) = .int r) (oPo A L τ cy D) A) := by
  refine oMk (by decide) (Nat.le_of_ble_eq_true rfl) rfl ?_
  intro p e s m args below meth c ls cx rx hA hw hl
  generalize hQ : MQ below _ args s 0 0 A = Q
  have hx := cx.1.1
  have hb := cx.1.2.1
  have hml := cx.1.2.2.1
  have hown := cx.1.2.2.2.1
  have hts := cx.1.2.2.2.2
  have hl : lv_has ls 1 [(0, .int a0)] := hl
  refine lv_iload_n hx hb dJ11_highSurrogate_5068e_0 rfl (lv_at hl 0 rfl) ?_
  refine lv_bipush (v := 10) hx hb dJ11_highSurrogate_5068e_1 (by decide) ?_
  refine lv_iushr hx hb dJ11_highSurrogate_5068e_3 rfl ?_
  refine lv_topi (fun v1 e1 => ?_)
  refine lv_ldc (v := 55232) hx hb hown (hts _ k_k_J11_110) dJ11_highSurrogate_5068e_4 ?_
  refine lv_iadd hx hb dJ11_highSurrogate_5068e_6 ?_
  refine lv_topi (fun v2 e2 => ?_)
  refine lv_i2c hx hb dJ11_highSurrogate_5068e_7 rfl ?_
  refine lv_topi (fun v3 e3 => ?_)
  have i3 : Iv v3 0 65535 := iv_i2c e3
  rw [← hQ]
  exact o_rz cx rx hw (by rw [e3]; exact pk_nc _) dJ11_highSurrogate_5068e_8 ⟨rfl, (iv_w i3 (by decide)), (by rw [e3]; exact pk_nc _)⟩
set_option maxHeartbeats 4000000 in
set_option maxRecDepth 100000 in
theorem c_J11_lowSurrogate_5068e (a0 : Int32) : oMet l A L τ cy D K yJ11_lowSurrogate_5068e cJ11_lowSurrogate_5068e 1 (some .char) 0 0 [.int a0] σ (va_Qi (fun r σ1 => σ1 = σ ∧ Iv r 0 65535 ∧ narrow .char (.int r) = .int r) (oPo A L τ cy D) A) := by
  refine oMk (by decide) (Nat.le_of_ble_eq_true rfl) rfl ?_
  intro p e s m args below meth c ls cx rx hA hw hl
  generalize hQ : MQ below _ args s 0 0 A = Q
  have hx := cx.1.1
  have hb := cx.1.2.1
  have hml := cx.1.2.2.1
  have hown := cx.1.2.2.2.1
  have hts := cx.1.2.2.2.2
  have hl : lv_has ls 1 [(0, .int a0)] := hl
  refine lv_iload_n hx hb dJ11_lowSurrogate_5068e_0 rfl (lv_at hl 0 rfl) ?_
  refine lv_sipush (v := 1023) hx hb dJ11_lowSurrogate_5068e_1 (by decide) ?_
  refine lv_iand hx hb dJ11_lowSurrogate_5068e_4 ?_
  refine lv_topi (fun v1 e1 => ?_)
  have i1 : Iv v1 0 1023 := iv_and e1 (⟨by decide, by decide⟩ : Iv 1023 1023 1023) (by decide)
  refine lv_ldc (v := 56320) hx hb hown (hts _ k_k_J11_76) dJ11_lowSurrogate_5068e_5 ?_
  refine lv_iadd hx hb dJ11_lowSurrogate_5068e_7 ?_
  refine lv_topi (fun v2 e2 => ?_)
  have i2 : Iv v2 56320 57343 := iv_add e2 i1 (⟨by decide, by decide⟩ : Iv 56320 56320 56320) (by decide)
  have x2 : v2.toInt = v1.toInt + 56320 := ex_add e2 i1 (⟨by decide, by decide⟩ : Iv 56320 56320 56320) (by decide)
  refine lv_i2c hx hb dJ11_lowSurrogate_5068e_8 rfl ?_
  refine lv_topi (fun v3 e3 => ?_)
  have i3 : Iv v3 0 65535 := iv_i2c e3
  rw [← hQ]
  exact o_rz cx rx hw (by rw [e3]; exact pk_nc _) dJ11_lowSurrogate_5068e_9 ⟨rfl, (iv_w i3 (by decide)), (by rw [e3]; exact pk_nc _)⟩
set_option maxHeartbeats 4000000 in
set_option maxRecDepth 100000 in
theorem c_J0_indexOf_7cf53_1 (a1 : Int32) (a2 : Int32) (ia2 : Iv a2 0 0) : oMet l A L τ cy D K yJ0_indexOf_7cf53 cJ0_indexOf_7cf53 3 (some .int) 2 63 [.ref (K.1 1), .int a1, .int a2] σ (va_Qi (fun r σ1 => σ1 = σ ∧ Iv r (-1) 8) (oPo A L τ cy D) A) := by
  refine oMk (by decide) (Nat.le_of_ble_eq_true rfl) rfl ?_
  intro p e s m args below meth c ls cx rx hA hw hl
  generalize hQ : MQ below _ args s 0 0 A = Q
  have hx := cx.1.1
  have hb := cx.1.2.1
  have hml := cx.1.2.2.1
  have hown := cx.1.2.2.2.1
  have hts := cx.1.2.2.2.2
  have hl : lv_has ls 3 [(0, .ref (K.1 1)), (1, .int a1), (2, .int a2)] := hl
  refine lv_aload_n hx hb dJ0_indexOf_7cf53_0 rfl (lv_at hl 0 rfl) ?_
  refine o_ci hw (oRunK cx hA hw q_J0_isLatin1_aae02 k_m_J0_492 1 (by decide) (As := []) (c_J0_isLatin1_aae02_1 ) (by decide) rfl hl.1 rfl (Nat.le_of_ble_eq_true rfl) dJ0_indexOf_7cf53_1 (by decide)) (fun v2 σ1 H locs hp hw => ?_)
  obtain ⟨p2_0, p2_1⟩ := hp
  rw [p2_0] at hw
  refine lv_if_eq (tgt := 23) hx hb dJ0_indexOf_7cf53_4 (by decide) (fun c3 => ?_) (fun c3 => ?_)
  · --
    exact iv_no (iv_eq1 (lo := 1) (hi := 0) c3 p2_1 (⟨by decide, by decide⟩ : Iv 0 0 0) (by decide)) (by decide)
  · --
    refine lv_aload_n hx hb dJ0_indexOf_7cf53_7 rfl (lv_at hl 0 rfl) ?_
    refine vk_getf hx hb (cx.2.2.1.1 1 (by decide)).2.2.1 hw.2.2.1 hown (hts _ k_f_J0_9) (fun _ h => h) dJ0_indexOf_7cf53_8 ?_
    refine lv_iload_n hx hb dJ0_indexOf_7cf53_11 rfl (lv_at hl 1 rfl) ?_
    refine lv_iload_n hx hb dJ0_indexOf_7cf53_12 rfl (lv_at hl 2 rfl) ?_
    refine lv_aload_n hx hb dJ0_indexOf_7cf53_13 rfl (lv_at hl 0 rfl) ?_
    refine o_ci hw (oRunK cx hA hw q_J0_length_8abf5 k_m_J0_505 1 (by decide) (As := []) (c_J0_length_8abf5_1 ) (by decide) rfl hl.1 rfl (Nat.le_of_ble_eq_true rfl) dJ0_indexOf_7cf53_14 (by decide)) (fun v5 σ4 H locs hp hw => ?_)
    obtain ⟨p5_0, p5_1⟩ := hp
    rw [p5_0] at hw
    refine o_ci hw (oRunS cx hA hw q_J1_indexOf_4cfef k_m_J0_637 (As := [.ref (K.2 1), .int a1, .int a2, .int v5]) (c_J1_indexOf_4cfef_1 a1 a2 (iv_w ia2 (by decide)) v5 (iv_w p5_1 (by decide))) (by decide) rfl hl.1 rfl (Nat.le_of_ble_eq_true rfl) dJ0_indexOf_7cf53_17 (by decide)) (fun v7 σ6 H locs hp hw => ?_)
    obtain ⟨p7_0, p7_1⟩ := hp
    rw [p7_0] at hw
    refine lv_goto (tgt := 36) hx hb dJ0_indexOf_7cf53_20 (by decide) ?_
    rw [← hQ]
    exact o_ri cx rx hw dJ0_indexOf_7cf53_36 ⟨rfl, (iv_w p7_1 (by decide))⟩
set_option maxHeartbeats 4000000 in
set_option maxRecDepth 100000 in
theorem c_J0_indexOf_7cf53_2 (a1 : Int32) (a2 : Int32) (ia2 : Iv a2 0 0) : oMet l A L τ cy D K yJ0_indexOf_7cf53 cJ0_indexOf_7cf53 3 (some .int) 2 63 [.ref (K.1 2), .int a1, .int a2] σ (va_Qi (fun r σ1 => σ1 = σ ∧ Iv r (-1) 10) (oPo A L τ cy D) A) := by
  refine oMk (by decide) (Nat.le_of_ble_eq_true rfl) rfl ?_
  intro p e s m args below meth c ls cx rx hA hw hl
  generalize hQ : MQ below _ args s 0 0 A = Q
  have hx := cx.1.1
  have hb := cx.1.2.1
  have hml := cx.1.2.2.1
  have hown := cx.1.2.2.2.1
  have hts := cx.1.2.2.2.2
  have hl : lv_has ls 3 [(0, .ref (K.1 2)), (1, .int a1), (2, .int a2)] := hl
  refine lv_aload_n hx hb dJ0_indexOf_7cf53_0 rfl (lv_at hl 0 rfl) ?_
  refine o_ci hw (oRunK cx hA hw q_J0_isLatin1_aae02 k_m_J0_492 2 (by decide) (As := []) (c_J0_isLatin1_aae02_2 ) (by decide) rfl hl.1 rfl (Nat.le_of_ble_eq_true rfl) dJ0_indexOf_7cf53_1 (by decide)) (fun v2 σ1 H locs hp hw => ?_)
  obtain ⟨p2_0, p2_1⟩ := hp
  rw [p2_0] at hw
  refine lv_if_eq (tgt := 23) hx hb dJ0_indexOf_7cf53_4 (by decide) (fun c3 => ?_) (fun c3 => ?_)
  · --
    exact iv_no (iv_eq1 (lo := 1) (hi := 0) c3 p2_1 (⟨by decide, by decide⟩ : Iv 0 0 0) (by decide)) (by decide)
  · --
    refine lv_aload_n hx hb dJ0_indexOf_7cf53_7 rfl (lv_at hl 0 rfl) ?_
    refine vk_getf hx hb (cx.2.2.1.1 2 (by decide)).2.2.1 hw.2.2.1 hown (hts _ k_f_J0_9) (fun _ h => h) dJ0_indexOf_7cf53_8 ?_
    refine lv_iload_n hx hb dJ0_indexOf_7cf53_11 rfl (lv_at hl 1 rfl) ?_
    refine lv_iload_n hx hb dJ0_indexOf_7cf53_12 rfl (lv_at hl 2 rfl) ?_
    refine lv_aload_n hx hb dJ0_indexOf_7cf53_13 rfl (lv_at hl 0 rfl) ?_
    refine o_ci hw (oRunK cx hA hw q_J0_length_8abf5 k_m_J0_505 2 (by decide) (As := []) (c_J0_length_8abf5_2 ) (by decide) rfl hl.1 rfl (Nat.le_of_ble_eq_true rfl) dJ0_indexOf_7cf53_14 (by decide)) (fun v5 σ4 H locs hp hw => ?_)
    obtain ⟨p5_0, p5_1⟩ := hp
    rw [p5_0] at hw
    refine o_ci hw (oRunS cx hA hw q_J1_indexOf_4cfef k_m_J0_637 (As := [.ref (K.2 2), .int a1, .int a2, .int v5]) (c_J1_indexOf_4cfef_2 a1 a2 (iv_w ia2 (by decide)) v5 (iv_w p5_1 (by decide))) (by decide) rfl hl.1 rfl (Nat.le_of_ble_eq_true rfl) dJ0_indexOf_7cf53_17 (by decide)) (fun v7 σ6 H locs hp hw => ?_)
    obtain ⟨p7_0, p7_1⟩ := hp
    rw [p7_0] at hw
    refine lv_goto (tgt := 36) hx hb dJ0_indexOf_7cf53_20 (by decide) ?_
    rw [← hQ]
    exact o_ri cx rx hw dJ0_indexOf_7cf53_36 ⟨rfl, (iv_w p7_1 (by decide))⟩
set_option maxHeartbeats 4000000 in
set_option maxRecDepth 100000 in
theorem c_J0_indexOf_7cf53_3 (a1 : Int32) (a2 : Int32) (ia2 : Iv a2 0 0) : oMet l A L τ cy D K yJ0_indexOf_7cf53 cJ0_indexOf_7cf53 3 (some .int) 2 63 [.ref (K.1 3), .int a1, .int a2] σ (va_Qi (fun r σ1 => σ1 = σ ∧ Iv r (-1) 5) (oPo A L τ cy D) A) := by
  refine oMk (by decide) (Nat.le_of_ble_eq_true rfl) rfl ?_
  intro p e s m args below meth c ls cx rx hA hw hl
  generalize hQ : MQ below _ args s 0 0 A = Q
  have hx := cx.1.1
  have hb := cx.1.2.1
  have hml := cx.1.2.2.1
  have hown := cx.1.2.2.2.1
  have hts := cx.1.2.2.2.2
  have hl : lv_has ls 3 [(0, .ref (K.1 3)), (1, .int a1), (2, .int a2)] := hl
  refine lv_aload_n hx hb dJ0_indexOf_7cf53_0 rfl (lv_at hl 0 rfl) ?_
  refine o_ci hw (oRunK cx hA hw q_J0_isLatin1_aae02 k_m_J0_492 3 (by decide) (As := []) (c_J0_isLatin1_aae02_3 ) (by decide) rfl hl.1 rfl (Nat.le_of_ble_eq_true rfl) dJ0_indexOf_7cf53_1 (by decide)) (fun v2 σ1 H locs hp hw => ?_)
  obtain ⟨p2_0, p2_1⟩ := hp
  rw [p2_0] at hw
  refine lv_if_eq (tgt := 23) hx hb dJ0_indexOf_7cf53_4 (by decide) (fun c3 => ?_) (fun c3 => ?_)
  · --
    exact iv_no (iv_eq1 (lo := 1) (hi := 0) c3 p2_1 (⟨by decide, by decide⟩ : Iv 0 0 0) (by decide)) (by decide)
  · --
    refine lv_aload_n hx hb dJ0_indexOf_7cf53_7 rfl (lv_at hl 0 rfl) ?_
    refine vk_getf hx hb (cx.2.2.1.1 3 (by decide)).2.2.1 hw.2.2.1 hown (hts _ k_f_J0_9) (fun _ h => h) dJ0_indexOf_7cf53_8 ?_
    refine lv_iload_n hx hb dJ0_indexOf_7cf53_11 rfl (lv_at hl 1 rfl) ?_
    refine lv_iload_n hx hb dJ0_indexOf_7cf53_12 rfl (lv_at hl 2 rfl) ?_
    refine lv_aload_n hx hb dJ0_indexOf_7cf53_13 rfl (lv_at hl 0 rfl) ?_
    refine o_ci hw (oRunK cx hA hw q_J0_length_8abf5 k_m_J0_505 3 (by decide) (As := []) (c_J0_length_8abf5_3 ) (by decide) rfl hl.1 rfl (Nat.le_of_ble_eq_true rfl) dJ0_indexOf_7cf53_14 (by decide)) (fun v5 σ4 H locs hp hw => ?_)
    obtain ⟨p5_0, p5_1⟩ := hp
    rw [p5_0] at hw
    refine o_ci hw (oRunS cx hA hw q_J1_indexOf_4cfef k_m_J0_637 (As := [.ref (K.2 3), .int a1, .int a2, .int v5]) (c_J1_indexOf_4cfef_3 a1 a2 (iv_w ia2 (by decide)) v5 (iv_w p5_1 (by decide))) (by decide) rfl hl.1 rfl (Nat.le_of_ble_eq_true rfl) dJ0_indexOf_7cf53_17 (by decide)) (fun v7 σ6 H locs hp hw => ?_)
    obtain ⟨p7_0, p7_1⟩ := hp
    rw [p7_0] at hw
    refine lv_goto (tgt := 36) hx hb dJ0_indexOf_7cf53_20 (by decide) ?_
    rw [← hQ]
    exact o_ri cx rx hw dJ0_indexOf_7cf53_36 ⟨rfl, (iv_w p7_1 (by decide))⟩
set_option maxHeartbeats 4000000 in
set_option maxRecDepth 100000 in
theorem c_J0_indexOf_0f7a4_1 (a1 : Int32) : oMet l A L τ cy D K yJ0_indexOf_0f7a4 cJ0_indexOf_0f7a4 2 (some .int) 3 85 [.ref (K.1 1), .int a1] σ (va_Qi (fun r σ1 => σ1 = σ ∧ Iv r (-1) 8) (oPo A L τ cy D) A) := by
  refine oMk (by decide) (Nat.le_of_ble_eq_true rfl) rfl ?_
  intro p e s m args below meth c ls cx rx hA hw hl
  generalize hQ : MQ below _ args s 0 0 A = Q
  have hx := cx.1.1
  have hb := cx.1.2.1
  have hml := cx.1.2.2.1
  have hown := cx.1.2.2.2.1
  have hts := cx.1.2.2.2.2
  have hl : lv_has ls 2 [(0, .ref (K.1 1)), (1, .int a1)] := hl
  refine lv_aload_n hx hb dJ0_indexOf_0f7a4_0 rfl (lv_at hl 0 rfl) ?_
  refine lv_iload_n hx hb dJ0_indexOf_0f7a4_1 rfl (lv_at hl 1 rfl) ?_
  refine lv_iconst (v := 0) hx hb dJ0_indexOf_0f7a4_2 (by decide) ?_
  refine o_ci hw (oRunK cx hA hw q_J0_indexOf_7cf53 k_m_J0_633 1 (by decide) (As := [.int a1, .int 0]) (c_J0_indexOf_7cf53_1 a1 0 (iv_w (⟨by decide, by decide⟩ : Iv 0 0 0) (by decide))) (by decide) rfl hl.1 rfl (Nat.le_of_ble_eq_true rfl) dJ0_indexOf_0f7a4_3 (by decide)) (fun v2 σ1 H locs hp hw => ?_)
  obtain ⟨p2_0, p2_1⟩ := hp
  rw [p2_0] at hw
  rw [← hQ]
  exact o_ri cx rx hw dJ0_indexOf_0f7a4_6 ⟨rfl, (iv_w p2_1 (by decide))⟩
set_option maxHeartbeats 4000000 in
set_option maxRecDepth 100000 in
theorem c_J0_indexOf_0f7a4_2 (a1 : Int32) : oMet l A L τ cy D K yJ0_indexOf_0f7a4 cJ0_indexOf_0f7a4 2 (some .int) 3 85 [.ref (K.1 2), .int a1] σ (va_Qi (fun r σ1 => σ1 = σ ∧ Iv r (-1) 10) (oPo A L τ cy D) A) := by
  refine oMk (by decide) (Nat.le_of_ble_eq_true rfl) rfl ?_
  intro p e s m args below meth c ls cx rx hA hw hl
  generalize hQ : MQ below _ args s 0 0 A = Q
  have hx := cx.1.1
  have hb := cx.1.2.1
  have hml := cx.1.2.2.1
  have hown := cx.1.2.2.2.1
  have hts := cx.1.2.2.2.2
  have hl : lv_has ls 2 [(0, .ref (K.1 2)), (1, .int a1)] := hl
  refine lv_aload_n hx hb dJ0_indexOf_0f7a4_0 rfl (lv_at hl 0 rfl) ?_
  refine lv_iload_n hx hb dJ0_indexOf_0f7a4_1 rfl (lv_at hl 1 rfl) ?_
  refine lv_iconst (v := 0) hx hb dJ0_indexOf_0f7a4_2 (by decide) ?_
  refine o_ci hw (oRunK cx hA hw q_J0_indexOf_7cf53 k_m_J0_633 2 (by decide) (As := [.int a1, .int 0]) (c_J0_indexOf_7cf53_2 a1 0 (iv_w (⟨by decide, by decide⟩ : Iv 0 0 0) (by decide))) (by decide) rfl hl.1 rfl (Nat.le_of_ble_eq_true rfl) dJ0_indexOf_0f7a4_3 (by decide)) (fun v2 σ1 H locs hp hw => ?_)
  obtain ⟨p2_0, p2_1⟩ := hp
  rw [p2_0] at hw
  rw [← hQ]
  exact o_ri cx rx hw dJ0_indexOf_0f7a4_6 ⟨rfl, (iv_w p2_1 (by decide))⟩
set_option maxHeartbeats 4000000 in
set_option maxRecDepth 100000 in
theorem c_J0_indexOf_0f7a4_3 (a1 : Int32) : oMet l A L τ cy D K yJ0_indexOf_0f7a4 cJ0_indexOf_0f7a4 2 (some .int) 3 85 [.ref (K.1 3), .int a1] σ (va_Qi (fun r σ1 => σ1 = σ ∧ Iv r (-1) 5) (oPo A L τ cy D) A) := by
  refine oMk (by decide) (Nat.le_of_ble_eq_true rfl) rfl ?_
  intro p e s m args below meth c ls cx rx hA hw hl
  generalize hQ : MQ below _ args s 0 0 A = Q
  have hx := cx.1.1
  have hb := cx.1.2.1
  have hml := cx.1.2.2.1
  have hown := cx.1.2.2.2.1
  have hts := cx.1.2.2.2.2
  have hl : lv_has ls 2 [(0, .ref (K.1 3)), (1, .int a1)] := hl
  refine lv_aload_n hx hb dJ0_indexOf_0f7a4_0 rfl (lv_at hl 0 rfl) ?_
  refine lv_iload_n hx hb dJ0_indexOf_0f7a4_1 rfl (lv_at hl 1 rfl) ?_
  refine lv_iconst (v := 0) hx hb dJ0_indexOf_0f7a4_2 (by decide) ?_
  refine o_ci hw (oRunK cx hA hw q_J0_indexOf_7cf53 k_m_J0_633 3 (by decide) (As := [.int a1, .int 0]) (c_J0_indexOf_7cf53_3 a1 0 (iv_w (⟨by decide, by decide⟩ : Iv 0 0 0) (by decide))) (by decide) rfl hl.1 rfl (Nat.le_of_ble_eq_true rfl) dJ0_indexOf_0f7a4_3 (by decide)) (fun v2 σ1 H locs hp hw => ?_)
  obtain ⟨p2_0, p2_1⟩ := hp
  rw [p2_0] at hw
  rw [← hQ]
  exact o_ri cx rx hw dJ0_indexOf_0f7a4_6 ⟨rfl, (iv_w p2_1 (by decide))⟩
abbrev fs_X7_takeOneOf_1 : List Nat := [386]
abbrev ts_X7_takeOneOf_1 : List Nat := []
set_option maxHeartbeats 4000000 in
set_option maxRecDepth 100000 in
theorem c_X7_takeOneOf_1 (a0 : Nat) (ha0 : oA L τ a0 6) : oMet l A L τ cy D K yX7_takeOneOf cX7_takeOneOf 3 (some .int) 4 106 [.ref a0, .ref (K.1 1)] σ (va_Qi (fun r σ1 => oFr τ fs_X7_takeOneOf_1 ts_X7_takeOneOf_1 σ σ1 ∧ Iv r (-1) 2147483647) (oPo A L τ cy D) A) := by
  refine oMk (by decide) (Nat.le_of_ble_eq_true rfl) rfl ?_
  intro p e s m args below meth c ls cx rx hA hw hl
  generalize hQ : MQ below _ args s 0 0 A = Q
  have hx := cx.1.1
  have hb := cx.1.2.1
  have hml := cx.1.2.2.1
  have hown := cx.1.2.2.2.1
  have hts := cx.1.2.2.2.2
  have hl : lv_has ls 3 [(0, .ref a0), (1, .ref (K.1 1))] := hl
  have fr : oFr τ fs_X7_takeOneOf_1 ts_X7_takeOneOf_1 σ σ := oFr_rf
  refine lv_aload_n hx hb dX7_takeOneOf_0 rfl (lv_at hl 0 rfl) ?_
  refine o_ci hw (oRunV cx hA hw q_X7_here k_m_X7_40 rfl ha0 (by decide) (As := []) (c_X7_here a0 ha0) (by decide) rfl hl.1 rfl (Nat.le_of_ble_eq_true rfl) dX7_takeOneOf_1 (by decide)) (fun v2 σ1 H locs hp hw => ?_)
  have p2_0 := hp
  rw [p2_0] at hw
  refine lv_istore_n (lv' := [(2, .int v2), (0, .ref a0), (1, .ref (K.1 1))]) hx hb dX7_takeOneOf_4 rfl hl (by decide) rfl (fun ls hl => ?_)
  refine lv_iload_n hx hb dX7_takeOneOf_5 rfl (lv_at hl 0 rfl) ?_
  refine lv_if_lt (tgt := 18) hx hb dX7_takeOneOf_6 (by decide) (fun c3 => ?_) (fun c3 => ?_)
  · --
    have i4 : Iv v2 (-2147483648) (-1) := iv_lt1 c3 (iv_top v2) (⟨by decide, by decide⟩ : Iv 0 0 0) (by decide)
    refine lv_iconst (v := (-1)) hx hb dX7_takeOneOf_18 (by decide) ?_
    rw [← hQ]
    exact o_ri cx rx hw dX7_takeOneOf_19 ⟨fr, (iv_w (⟨by decide, by decide⟩ : Iv (-1) (-1) (-1)) (by decide))⟩
  · --
    have i5 : Iv v2 0 2147483647 := iv_le2 (iv_nlt c3) (⟨by decide, by decide⟩ : Iv 0 0 0) (iv_top v2) (by decide)
    refine lv_aload_n hx hb dX7_takeOneOf_9 rfl (lv_at hl 2 rfl) ?_
    refine lv_iload_n hx hb dX7_takeOneOf_10 rfl (lv_at hl 0 rfl) ?_
    refine lv_i2c hx hb dX7_takeOneOf_11 rfl ?_
    refine lv_topi (fun v6 e6 => ?_)
    have i6 : Iv v6 0 65535 := iv_i2c e6
    refine o_ci hw (oRunK cx hA hw q_J0_indexOf_0f7a4 k_m_X7_46 1 (by decide) (As := [.int v6]) (c_J0_indexOf_0f7a4_1 v6) (by decide) rfl hl.1 rfl (Nat.le_of_ble_eq_true rfl) dX7_takeOneOf_12 (by decide)) (fun v8 σ7 H locs hp hw => ?_)
    obtain ⟨p8_0, p8_1⟩ := hp
    rw [p8_0] at hw
    refine lv_if_ge (tgt := 20) hx hb dX7_takeOneOf_15 (by decide) (fun c9 => ?_) (fun c9 => ?_)
    · --
      have i10 : Iv v8 0 8 := iv_le2 c9 (⟨by decide, by decide⟩ : Iv 0 0 0) p8_1 (by decide)
      refine lv_aload_n hx hb dX7_takeOneOf_20 rfl (lv_at hl 1 rfl) ?_
      refine o_cv hw (oRunV cx hA hw q_X7_step k_m_X7_43 rfl ha0 (by decide) (As := []) (c_X7_step a0 ha0) (by decide) rfl hl.1 rfl (Nat.le_of_ble_eq_true rfl) dX7_takeOneOf_21 (by decide)) (fun σ11 H locs hp hw => ?_)
      have p12_0 := hp
      have fr := oFr_tr fr p12_0 (by decide)
      refine lv_iload_n hx hb dX7_takeOneOf_24 rfl (lv_at hl 0 rfl) ?_
      rw [← hQ]
      exact o_ri cx rx hw dX7_takeOneOf_25 ⟨fr, (iv_w i5 (by decide))⟩
    · --
      have i13 : Iv v8 (-1) (-1) := iv_lt1 (iv_nle c9) p8_1 (⟨by decide, by decide⟩ : Iv 0 0 0) (by decide)
      refine lv_iconst (v := (-1)) hx hb dX7_takeOneOf_18 (by decide) ?_
      rw [← hQ]
      exact o_ri cx rx hw dX7_takeOneOf_19 ⟨fr, (iv_w (⟨by decide, by decide⟩ : Iv (-1) (-1) (-1)) (by decide))⟩
abbrev fs_X7_takeOneOf_2 : List Nat := [386]
abbrev ts_X7_takeOneOf_2 : List Nat := []
set_option maxHeartbeats 4000000 in
set_option maxRecDepth 100000 in
theorem c_X7_takeOneOf_2 (a0 : Nat) (ha0 : oA L τ a0 6) : oMet l A L τ cy D K yX7_takeOneOf cX7_takeOneOf 3 (some .int) 4 106 [.ref a0, .ref (K.1 2)] σ (va_Qi (fun r σ1 => oFr τ fs_X7_takeOneOf_2 ts_X7_takeOneOf_2 σ σ1 ∧ Iv r (-1) 2147483647) (oPo A L τ cy D) A) := by
  refine oMk (by decide) (Nat.le_of_ble_eq_true rfl) rfl ?_
  intro p e s m args below meth c ls cx rx hA hw hl
  generalize hQ : MQ below _ args s 0 0 A = Q
  have hx := cx.1.1
  have hb := cx.1.2.1
  have hml := cx.1.2.2.1
  have hown := cx.1.2.2.2.1
  have hts := cx.1.2.2.2.2
  have hl : lv_has ls 3 [(0, .ref a0), (1, .ref (K.1 2))] := hl
  have fr : oFr τ fs_X7_takeOneOf_2 ts_X7_takeOneOf_2 σ σ := oFr_rf
  refine lv_aload_n hx hb dX7_takeOneOf_0 rfl (lv_at hl 0 rfl) ?_
  refine o_ci hw (oRunV cx hA hw q_X7_here k_m_X7_40 rfl ha0 (by decide) (As := []) (c_X7_here a0 ha0) (by decide) rfl hl.1 rfl (Nat.le_of_ble_eq_true rfl) dX7_takeOneOf_1 (by decide)) (fun v2 σ1 H locs hp hw => ?_)
  have p2_0 := hp
  rw [p2_0] at hw
  refine lv_istore_n (lv' := [(2, .int v2), (0, .ref a0), (1, .ref (K.1 2))]) hx hb dX7_takeOneOf_4 rfl hl (by decide) rfl (fun ls hl => ?_)
  refine lv_iload_n hx hb dX7_takeOneOf_5 rfl (lv_at hl 0 rfl) ?_
  refine lv_if_lt (tgt := 18) hx hb dX7_takeOneOf_6 (by decide) (fun c3 => ?_) (fun c3 => ?_)
  · --
    have i4 : Iv v2 (-2147483648) (-1) := iv_lt1 c3 (iv_top v2) (⟨by decide, by decide⟩ : Iv 0 0 0) (by decide)
    refine lv_iconst (v := (-1)) hx hb dX7_takeOneOf_18 (by decide) ?_
    rw [← hQ]
    exact o_ri cx rx hw dX7_takeOneOf_19 ⟨fr, (iv_w (⟨by decide, by decide⟩ : Iv (-1) (-1) (-1)) (by decide))⟩
  · --
    have i5 : Iv v2 0 2147483647 := iv_le2 (iv_nlt c3) (⟨by decide, by decide⟩ : Iv 0 0 0) (iv_top v2) (by decide)
    refine lv_aload_n hx hb dX7_takeOneOf_9 rfl (lv_at hl 2 rfl) ?_
    refine lv_iload_n hx hb dX7_takeOneOf_10 rfl (lv_at hl 0 rfl) ?_
    refine lv_i2c hx hb dX7_takeOneOf_11 rfl ?_
    refine lv_topi (fun v6 e6 => ?_)
    have i6 : Iv v6 0 65535 := iv_i2c e6
    refine o_ci hw (oRunK cx hA hw q_J0_indexOf_0f7a4 k_m_X7_46 2 (by decide) (As := [.int v6]) (c_J0_indexOf_0f7a4_2 v6) (by decide) rfl hl.1 rfl (Nat.le_of_ble_eq_true rfl) dX7_takeOneOf_12 (by decide)) (fun v8 σ7 H locs hp hw => ?_)
    obtain ⟨p8_0, p8_1⟩ := hp
    rw [p8_0] at hw
    refine lv_if_ge (tgt := 20) hx hb dX7_takeOneOf_15 (by decide) (fun c9 => ?_) (fun c9 => ?_)
    · --
      have i10 : Iv v8 0 10 := iv_le2 c9 (⟨by decide, by decide⟩ : Iv 0 0 0) p8_1 (by decide)
      refine lv_aload_n hx hb dX7_takeOneOf_20 rfl (lv_at hl 1 rfl) ?_
      refine o_cv hw (oRunV cx hA hw q_X7_step k_m_X7_43 rfl ha0 (by decide) (As := []) (c_X7_step a0 ha0) (by decide) rfl hl.1 rfl (Nat.le_of_ble_eq_true rfl) dX7_takeOneOf_21 (by decide)) (fun σ11 H locs hp hw => ?_)
      have p12_0 := hp
      have fr := oFr_tr fr p12_0 (by decide)
      refine lv_iload_n hx hb dX7_takeOneOf_24 rfl (lv_at hl 0 rfl) ?_
      rw [← hQ]
      exact o_ri cx rx hw dX7_takeOneOf_25 ⟨fr, (iv_w i5 (by decide))⟩
    · --
      have i13 : Iv v8 (-1) (-1) := iv_lt1 (iv_nle c9) p8_1 (⟨by decide, by decide⟩ : Iv 0 0 0) (by decide)
      refine lv_iconst (v := (-1)) hx hb dX7_takeOneOf_18 (by decide) ?_
      rw [← hQ]
      exact o_ri cx rx hw dX7_takeOneOf_19 ⟨fr, (iv_w (⟨by decide, by decide⟩ : Iv (-1) (-1) (-1)) (by decide))⟩
abbrev fs_X7_takeOneOf_3 : List Nat := [386]
abbrev ts_X7_takeOneOf_3 : List Nat := []
set_option maxHeartbeats 4000000 in
set_option maxRecDepth 100000 in
theorem c_X7_takeOneOf_3 (a0 : Nat) (ha0 : oA L τ a0 6) : oMet l A L τ cy D K yX7_takeOneOf cX7_takeOneOf 3 (some .int) 4 106 [.ref a0, .ref (K.1 3)] σ (va_Qi (fun r σ1 => oFr τ fs_X7_takeOneOf_3 ts_X7_takeOneOf_3 σ σ1 ∧ Iv r (-1) 2147483647) (oPo A L τ cy D) A) := by
  refine oMk (by decide) (Nat.le_of_ble_eq_true rfl) rfl ?_
  intro p e s m args below meth c ls cx rx hA hw hl
  generalize hQ : MQ below _ args s 0 0 A = Q
  have hx := cx.1.1
  have hb := cx.1.2.1
  have hml := cx.1.2.2.1
  have hown := cx.1.2.2.2.1
  have hts := cx.1.2.2.2.2
  have hl : lv_has ls 3 [(0, .ref a0), (1, .ref (K.1 3))] := hl
  have fr : oFr τ fs_X7_takeOneOf_3 ts_X7_takeOneOf_3 σ σ := oFr_rf
  refine lv_aload_n hx hb dX7_takeOneOf_0 rfl (lv_at hl 0 rfl) ?_
  refine o_ci hw (oRunV cx hA hw q_X7_here k_m_X7_40 rfl ha0 (by decide) (As := []) (c_X7_here a0 ha0) (by decide) rfl hl.1 rfl (Nat.le_of_ble_eq_true rfl) dX7_takeOneOf_1 (by decide)) (fun v2 σ1 H locs hp hw => ?_)
  have p2_0 := hp
  rw [p2_0] at hw
  refine lv_istore_n (lv' := [(2, .int v2), (0, .ref a0), (1, .ref (K.1 3))]) hx hb dX7_takeOneOf_4 rfl hl (by decide) rfl (fun ls hl => ?_)
  refine lv_iload_n hx hb dX7_takeOneOf_5 rfl (lv_at hl 0 rfl) ?_
  refine lv_if_lt (tgt := 18) hx hb dX7_takeOneOf_6 (by decide) (fun c3 => ?_) (fun c3 => ?_)
  · --
    have i4 : Iv v2 (-2147483648) (-1) := iv_lt1 c3 (iv_top v2) (⟨by decide, by decide⟩ : Iv 0 0 0) (by decide)
    refine lv_iconst (v := (-1)) hx hb dX7_takeOneOf_18 (by decide) ?_
    rw [← hQ]
    exact o_ri cx rx hw dX7_takeOneOf_19 ⟨fr, (iv_w (⟨by decide, by decide⟩ : Iv (-1) (-1) (-1)) (by decide))⟩
  · --
    have i5 : Iv v2 0 2147483647 := iv_le2 (iv_nlt c3) (⟨by decide, by decide⟩ : Iv 0 0 0) (iv_top v2) (by decide)
    refine lv_aload_n hx hb dX7_takeOneOf_9 rfl (lv_at hl 2 rfl) ?_
    refine lv_iload_n hx hb dX7_takeOneOf_10 rfl (lv_at hl 0 rfl) ?_
    refine lv_i2c hx hb dX7_takeOneOf_11 rfl ?_
    refine lv_topi (fun v6 e6 => ?_)
    have i6 : Iv v6 0 65535 := iv_i2c e6
    refine o_ci hw (oRunK cx hA hw q_J0_indexOf_0f7a4 k_m_X7_46 3 (by decide) (As := [.int v6]) (c_J0_indexOf_0f7a4_3 v6) (by decide) rfl hl.1 rfl (Nat.le_of_ble_eq_true rfl) dX7_takeOneOf_12 (by decide)) (fun v8 σ7 H locs hp hw => ?_)
    obtain ⟨p8_0, p8_1⟩ := hp
    rw [p8_0] at hw
    refine lv_if_ge (tgt := 20) hx hb dX7_takeOneOf_15 (by decide) (fun c9 => ?_) (fun c9 => ?_)
    · --
      have i10 : Iv v8 0 5 := iv_le2 c9 (⟨by decide, by decide⟩ : Iv 0 0 0) p8_1 (by decide)
      refine lv_aload_n hx hb dX7_takeOneOf_20 rfl (lv_at hl 1 rfl) ?_
      refine o_cv hw (oRunV cx hA hw q_X7_step k_m_X7_43 rfl ha0 (by decide) (As := []) (c_X7_step a0 ha0) (by decide) rfl hl.1 rfl (Nat.le_of_ble_eq_true rfl) dX7_takeOneOf_21 (by decide)) (fun σ11 H locs hp hw => ?_)
      have p12_0 := hp
      have fr := oFr_tr fr p12_0 (by decide)
      refine lv_iload_n hx hb dX7_takeOneOf_24 rfl (lv_at hl 0 rfl) ?_
      rw [← hQ]
      exact o_ri cx rx hw dX7_takeOneOf_25 ⟨fr, (iv_w i5 (by decide))⟩
    · --
      have i13 : Iv v8 (-1) (-1) := iv_lt1 (iv_nle c9) p8_1 (⟨by decide, by decide⟩ : Iv 0 0 0) (by decide)
      refine lv_iconst (v := (-1)) hx hb dX7_takeOneOf_18 (by decide) ?_
      rw [← hQ]
      exact o_ri cx rx hw dX7_takeOneOf_19 ⟨fr, (iv_w (⟨by decide, by decide⟩ : Iv (-1) (-1) (-1)) (by decide))⟩
end OM
