section OM
variable {l : Launch} {A : Nat → Prop} {L : List Nat} {τ : Nat → Nat} {cy : Nat → ClassId} {D : va_G} {K : (Nat → Nat) × (Nat → Nat)} {σ : oSt}
abbrev fs_X7_append : List Nat := [385]
abbrev ts_X7_append : List Nat := [35]
set_option maxHeartbeats 4000000 in
set_option maxRecDepth 100000 in
theorem c_X7_append (a0 : Nat) (ha0 : oA L τ a0 6) (a1 : Int32) : oMet l A L τ cy D K yX7_append cX7_append 3 (some .boolean) 0 0 [.ref a0, .int a1] σ (va_Qi (fun r σ1 => oFr τ fs_X7_append ts_X7_append σ σ1 ∧ Iv r 0 1 ∧ (((σ.1 385 a0).toInt + 4 ≤ 80 ∧ r.toInt = 1 ∧ (σ1.1 385 a0).toInt = (σ.1 385 a0).toInt + 4) ∨ (80 < (σ.1 385 a0).toInt + 4 ∧ r.toInt = 0 ∧ (σ1.1 385 a0).toInt = (σ.1 385 a0).toInt)) ∧ ((80 < (σ.1 385 a0).toInt + 4 ∧ oRw σ1 384 a0 = oRw σ 384 a0) ∨ ((σ.1 385 a0).toInt + 4 ≤ 80 ∧ tApp (oRw σ 384 a0) (oRw σ1 384 a0) (σ.1 385 a0).toInt a1))) (oPo A L τ cy D) A) := by
  refine oMk (by decide) (Nat.le_of_ble_eq_true rfl) rfl ?_
  intro p e s m args below meth c ls cx rx hA hw hl
  generalize hQ : MQ below _ args s 0 0 A = Q
  have hx := cx.1.1
  have hb := cx.1.2.1
  have hml := cx.1.2.2.1
  have hown := cx.1.2.2.2.1
  have hts := cx.1.2.2.2.2
  have hl : lv_has ls 3 [(0, .ref a0), (1, .int a1)] := hl
  have fr : oFr τ fs_X7_append ts_X7_append σ σ := oFr_rf
  obtain ⟨b384, hF384, hb384⟩ := hw.2.2.2.2.2 384 a0 35 (by rw [ha0.2]; rfl) ha0.1
  have iz385 : Iv (σ.1 385 a0) (0) 80 := o_fb (j := 385) hw ha0 rfl
  refine lv_aload_n hx hb dX7_append_0 rfl (lv_at hl 0 rfl) ?_
  refine g_385 cx hw ha0 k_f_X7_19 dX7_append_1 (fun v1 e1 i1 => ?_)
  rw [show v1 = (σ.1 385 a0) from e1.trans rfl]
  refine lv_iconst (v := 4) hx hb dX7_append_4 (by decide) ?_
  refine lv_iadd hx hb dX7_append_5 ?_
  refine lv_topi (fun v2 e2 => ?_)
  have i2 : Iv v2 4 84 := iv_add e2 iz385 (⟨by decide, by decide⟩ : Iv 4 4 4) (by decide)
  have x2 : v2.toInt = (σ.1 385 a0).toInt + 4 := ex_add e2 iz385 (⟨by decide, by decide⟩ : Iv 4 4 4) (by decide)
  refine lv_bipush (v := 80) hx hb dX7_append_6 (by decide) ?_
  refine lv_icmp_le (tgt := 13) hx hb dX7_append_8 (by decide) (fun c3 => ?_) (fun c3 => ?_)
  · --
    have i4 : Iv v2 4 80 := iv_le1 c3 i2 (⟨by decide, by decide⟩ : Iv 80 80 80) (by decide)
    have i5 : Iv (σ.1 385 a0) 0 76 := iv_lin x2 i4 iz385 (by decide)
    refine lv_bipush (v := 24) hx hb dX7_append_13 (by decide) ?_
    refine lv_istore_n (lv' := [(2, .int 24), (0, .ref a0), (1, .int a1)]) hx hb dX7_append_15 rfl hl (by decide) rfl (fun ls hl => ?_)
    refine lv_iload_n hx hb dX7_append_16 rfl (lv_at hl 0 rfl) ?_
    refine lv_if_lt (tgt := 53) hx hb dX7_append_17 (by decide) (fun c6 => ?_) (fun c6 => ?_)
    · --
      exact iv_no (iv_lt1 (b' := 23) c6 (⟨by decide, by decide⟩ : Iv 24 24 24) (⟨by decide, by decide⟩ : Iv 0 0 0) (by decide)) (by decide)
    · --
      refine lv_aload_n hx hb dX7_append_20 rfl (lv_at hl 1 rfl) ?_
      refine g_384 cx hw ha0 k_f_X7_11 dX7_append_21 (fun v7 e7 h7 => ?_)
      rw [show v7 = b384 from Option.some.inj (e7.symm.trans (hF384))]
      refine lv_aload_n hx hb dX7_append_24 rfl (lv_at hl 1 rfl) ?_
      refine g_385 cx hw ha0 k_f_X7_19 dX7_append_25 (fun v8 e8 i8 => ?_)
      rw [show v8 = (σ.1 385 a0) from e8.trans rfl]
      refine lv_iload_n hx hb dX7_append_28 rfl (lv_at hl 2 rfl) ?_
      refine lv_iload_n hx hb dX7_append_29 rfl (lv_at hl 0 rfl) ?_
      refine lv_iushr hx hb dX7_append_30 rfl ?_
      refine lv_topi (fun v9 e9 => ?_)
      refine lv_sipush (v := 255) hx hb dX7_append_31 (by decide) ?_
      refine lv_iand hx hb dX7_append_34 ?_
      refine lv_topi (fun v10 e10 => ?_)
      have i10 : Iv v10 0 255 := iv_and e10 (⟨by decide, by decide⟩ : Iv 255 255 255) (by decide)
      refine lv_i2c hx hb dX7_append_35 rfl ?_
      refine lv_topi (fun v11 e11 => ?_)
      have i11 : Iv v11 0 65535 := iv_i2c e11
      refine o_cast cx hw hb384 (by decide) rfl (iv_in i5 (by decide)) (rb_char _) dX7_append_36 (fun σ12 H locs eσ12 hw => ?_)
      have fr := oFr_p fr eσ12 hb384 (by decide)
      refine lv_aload_n hx hb dX7_append_37 rfl (lv_at hl 1 rfl) ?_
      refine lv_dup hx hb dX7_append_38 rfl ?_
      refine g_385 cx hw ha0 k_f_X7_19 dX7_append_39 (fun v13 e13 i13 => ?_)
      rw [show v13 = (σ.1 385 a0) from e13.trans ((kp_p eσ12).trans rfl)]
      refine lv_iconst (v := 1) hx hb dX7_append_42 (by decide) ?_
      refine lv_iadd hx hb dX7_append_43 ?_
      refine lv_topi (fun v14 e14 => ?_)
      have i14 : Iv v14 1 77 := iv_add e14 i5 (⟨by decide, by decide⟩ : Iv 1 1 1) (by decide)
      have x14 : v14.toInt = (σ.1 385 a0).toInt + 1 := ex_add e14 i5 (⟨by decide, by decide⟩ : Iv 1 1 1) (by decide)
      refine p_385 cx hw ha0 (iv_w i14 (by decide)) k_f_X7_19 dX7_append_44 (fun σ15 H locs eσ15 hw => ?_)
      have fr := oFr_i fr eσ15 (by decide)
      refine lv_iinc (v := 16) (lv' := [(2, .int 16), (0, .ref a0), (1, .int a1)]) hx hb dX7_append_47 hl (k := 0) rfl (by decide) (by decide) rfl (fun ls hl => ?_)
      refine lv_goto (tgt := 16) hx hb dX7_append_50 (by decide) ?_
      refine lv_iload_n hx hb dX7_append_16 rfl (lv_at hl 0 rfl) ?_
      refine lv_if_lt (tgt := 53) hx hb dX7_append_17 (by decide) (fun c17 => ?_) (fun c17 => ?_)
      · --
        exact iv_no (iv_lt1 (b' := 15) c17 (⟨by decide, by decide⟩ : Iv 16 16 16) (⟨by decide, by decide⟩ : Iv 0 0 0) (by decide)) (by decide)
      · --
        refine lv_aload_n hx hb dX7_append_20 rfl (lv_at hl 1 rfl) ?_
        refine g_384 cx hw ha0 k_f_X7_11 dX7_append_21 (fun v18 e18 h18 => ?_)
        rw [show v18 = b384 from Option.some.inj (e18.symm.trans (((kr_i eσ15).trans ((kr_p eσ12).trans hF384))))]
        refine lv_aload_n hx hb dX7_append_24 rfl (lv_at hl 1 rfl) ?_
        refine g_385 cx hw ha0 k_f_X7_19 dX7_append_25 (fun v19 e19 i19 => ?_)
        rw [show v19 = v14 from e19.trans (kp_s eσ15)]
        refine lv_iload_n hx hb dX7_append_28 rfl (lv_at hl 2 rfl) ?_
        refine lv_iload_n hx hb dX7_append_29 rfl (lv_at hl 0 rfl) ?_
        refine lv_iushr hx hb dX7_append_30 rfl ?_
        refine lv_topi (fun v20 e20 => ?_)
        have i20 : Iv v20 0 65535 := iv_ushr16 e20
        refine lv_sipush (v := 255) hx hb dX7_append_31 (by decide) ?_
        refine lv_iand hx hb dX7_append_34 ?_
        refine lv_topi (fun v21 e21 => ?_)
        have i21 : Iv v21 0 255 := iv_and e21 (⟨by decide, by decide⟩ : Iv 255 255 255) (by decide)
        refine lv_i2c hx hb dX7_append_35 rfl ?_
        refine lv_topi (fun v22 e22 => ?_)
        have i22 : Iv v22 0 65535 := iv_i2c e22
        refine o_cast cx hw hb384 (by decide) rfl (iv_in i14 (by decide)) (rb_char _) dX7_append_36 (fun σ23 H locs eσ23 hw => ?_)
        have fr := oFr_p fr eσ23 hb384 (by decide)
        refine lv_aload_n hx hb dX7_append_37 rfl (lv_at hl 1 rfl) ?_
        refine lv_dup hx hb dX7_append_38 rfl ?_
        refine g_385 cx hw ha0 k_f_X7_19 dX7_append_39 (fun v24 e24 i24 => ?_)
        rw [show v24 = v14 from e24.trans ((kp_p eσ23).trans (kp_s eσ15))]
        refine lv_iconst (v := 1) hx hb dX7_append_42 (by decide) ?_
        refine lv_iadd hx hb dX7_append_43 ?_
        refine lv_topi (fun v25 e25 => ?_)
        have i25 : Iv v25 2 78 := iv_add e25 i14 (⟨by decide, by decide⟩ : Iv 1 1 1) (by decide)
        have x25 : v25.toInt = v14.toInt + 1 := ex_add e25 i14 (⟨by decide, by decide⟩ : Iv 1 1 1) (by decide)
        refine p_385 cx hw ha0 (iv_w i25 (by decide)) k_f_X7_19 dX7_append_44 (fun σ26 H locs eσ26 hw => ?_)
        have fr := oFr_i fr eσ26 (by decide)
        refine lv_iinc (v := 8) (lv' := [(2, .int 8), (0, .ref a0), (1, .int a1)]) hx hb dX7_append_47 hl (k := 0) rfl (by decide) (by decide) rfl (fun ls hl => ?_)
        refine lv_goto (tgt := 16) hx hb dX7_append_50 (by decide) ?_
        refine lv_iload_n hx hb dX7_append_16 rfl (lv_at hl 0 rfl) ?_
        refine lv_if_lt (tgt := 53) hx hb dX7_append_17 (by decide) (fun c28 => ?_) (fun c28 => ?_)
        · --
          exact iv_no (iv_lt1 (b' := 7) c28 (⟨by decide, by decide⟩ : Iv 8 8 8) (⟨by decide, by decide⟩ : Iv 0 0 0) (by decide)) (by decide)
        · --
          refine lv_aload_n hx hb dX7_append_20 rfl (lv_at hl 1 rfl) ?_
          refine g_384 cx hw ha0 k_f_X7_11 dX7_append_21 (fun v29 e29 h29 => ?_)
          rw [show v29 = b384 from Option.some.inj (e29.symm.trans (((kr_i eσ26).trans ((kr_p eσ23).trans ((kr_i eσ15).trans ((kr_p eσ12).trans hF384))))))]
          refine lv_aload_n hx hb dX7_append_24 rfl (lv_at hl 1 rfl) ?_
          refine g_385 cx hw ha0 k_f_X7_19 dX7_append_25 (fun v30 e30 i30 => ?_)
          rw [show v30 = v25 from e30.trans (kp_s eσ26)]
          refine lv_iload_n hx hb dX7_append_28 rfl (lv_at hl 2 rfl) ?_
          refine lv_iload_n hx hb dX7_append_29 rfl (lv_at hl 0 rfl) ?_
          refine lv_iushr hx hb dX7_append_30 rfl ?_
          refine lv_topi (fun v31 e31 => ?_)
          refine lv_sipush (v := 255) hx hb dX7_append_31 (by decide) ?_
          refine lv_iand hx hb dX7_append_34 ?_
          refine lv_topi (fun v32 e32 => ?_)
          have i32 : Iv v32 0 255 := iv_and e32 (⟨by decide, by decide⟩ : Iv 255 255 255) (by decide)
          refine lv_i2c hx hb dX7_append_35 rfl ?_
          refine lv_topi (fun v33 e33 => ?_)
          have i33 : Iv v33 0 65535 := iv_i2c e33
          refine o_cast cx hw hb384 (by decide) rfl (iv_in i25 (by decide)) (rb_char _) dX7_append_36 (fun σ34 H locs eσ34 hw => ?_)
          have fr := oFr_p fr eσ34 hb384 (by decide)
          refine lv_aload_n hx hb dX7_append_37 rfl (lv_at hl 1 rfl) ?_
          refine lv_dup hx hb dX7_append_38 rfl ?_
          refine g_385 cx hw ha0 k_f_X7_19 dX7_append_39 (fun v35 e35 i35 => ?_)
          rw [show v35 = v25 from e35.trans ((kp_p eσ34).trans (kp_s eσ26))]
          refine lv_iconst (v := 1) hx hb dX7_append_42 (by decide) ?_
          refine lv_iadd hx hb dX7_append_43 ?_
          refine lv_topi (fun v36 e36 => ?_)
          have i36 : Iv v36 3 79 := iv_add e36 i25 (⟨by decide, by decide⟩ : Iv 1 1 1) (by decide)
          have x36 : v36.toInt = v25.toInt + 1 := ex_add e36 i25 (⟨by decide, by decide⟩ : Iv 1 1 1) (by decide)
          refine p_385 cx hw ha0 (iv_w i36 (by decide)) k_f_X7_19 dX7_append_44 (fun σ37 H locs eσ37 hw => ?_)
          have fr := oFr_i fr eσ37 (by decide)
          refine lv_iinc (v := 0) (lv' := [(2, .int 0), (0, .ref a0), (1, .int a1)]) hx hb dX7_append_47 hl (k := 0) rfl (by decide) (by decide) rfl (fun ls hl => ?_)
          refine lv_goto (tgt := 16) hx hb dX7_append_50 (by decide) ?_
          refine lv_iload_n hx hb dX7_append_16 rfl (lv_at hl 0 rfl) ?_
          refine lv_if_lt (tgt := 53) hx hb dX7_append_17 (by decide) (fun c39 => ?_) (fun c39 => ?_)
          · --
            exact iv_no (iv_lt1 (b' := (-1)) c39 (⟨by decide, by decide⟩ : Iv 0 0 0) (⟨by decide, by decide⟩ : Iv 0 0 0) (by decide)) (by decide)
          · --
            refine lv_aload_n hx hb dX7_append_20 rfl (lv_at hl 1 rfl) ?_
            refine g_384 cx hw ha0 k_f_X7_11 dX7_append_21 (fun v40 e40 h40 => ?_)
            rw [show v40 = b384 from Option.some.inj (e40.symm.trans (((kr_i eσ37).trans ((kr_p eσ34).trans ((kr_i eσ26).trans ((kr_p eσ23).trans ((kr_i eσ15).trans ((kr_p eσ12).trans hF384))))))))]
            refine lv_aload_n hx hb dX7_append_24 rfl (lv_at hl 1 rfl) ?_
            refine g_385 cx hw ha0 k_f_X7_19 dX7_append_25 (fun v41 e41 i41 => ?_)
            rw [show v41 = v36 from e41.trans (kp_s eσ37)]
            refine lv_iload_n hx hb dX7_append_28 rfl (lv_at hl 2 rfl) ?_
            refine lv_iload_n hx hb dX7_append_29 rfl (lv_at hl 0 rfl) ?_
            refine lv_iushr hx hb dX7_append_30 rfl ?_
            refine lv_topi (fun v42 e42 => ?_)
            refine lv_sipush (v := 255) hx hb dX7_append_31 (by decide) ?_
            refine lv_iand hx hb dX7_append_34 ?_
            refine lv_topi (fun v43 e43 => ?_)
            have i43 : Iv v43 0 255 := iv_and e43 (⟨by decide, by decide⟩ : Iv 255 255 255) (by decide)
            refine lv_i2c hx hb dX7_append_35 rfl ?_
            refine lv_topi (fun v44 e44 => ?_)
            have i44 : Iv v44 0 65535 := iv_i2c e44
            refine o_cast cx hw hb384 (by decide) rfl (iv_in i36 (by decide)) (rb_char _) dX7_append_36 (fun σ45 H locs eσ45 hw => ?_)
            have fr := oFr_p fr eσ45 hb384 (by decide)
            refine lv_aload_n hx hb dX7_append_37 rfl (lv_at hl 1 rfl) ?_
            refine lv_dup hx hb dX7_append_38 rfl ?_
            refine g_385 cx hw ha0 k_f_X7_19 dX7_append_39 (fun v46 e46 i46 => ?_)
            rw [show v46 = v36 from e46.trans ((kp_p eσ45).trans (kp_s eσ37))]
            refine lv_iconst (v := 1) hx hb dX7_append_42 (by decide) ?_
            refine lv_iadd hx hb dX7_append_43 ?_
            refine lv_topi (fun v47 e47 => ?_)
            have i47 : Iv v47 4 80 := iv_add e47 i36 (⟨by decide, by decide⟩ : Iv 1 1 1) (by decide)
            have x47 : v47.toInt = v36.toInt + 1 := ex_add e47 i36 (⟨by decide, by decide⟩ : Iv 1 1 1) (by decide)
            refine p_385 cx hw ha0 (iv_w i47 (by decide)) k_f_X7_19 dX7_append_44 (fun σ48 H locs eσ48 hw => ?_)
            have fr := oFr_i fr eσ48 (by decide)
            refine lv_iinc (v := (-8)) (lv' := [(2, .int (-8)), (0, .ref a0), (1, .int a1)]) hx hb dX7_append_47 hl (k := 0) rfl (by decide) (by decide) rfl (fun ls hl => ?_)
            refine lv_goto (tgt := 16) hx hb dX7_append_50 (by decide) ?_
            refine lv_iload_n hx hb dX7_append_16 rfl (lv_at hl 0 rfl) ?_
            refine lv_if_lt (tgt := 53) hx hb dX7_append_17 (by decide) (fun c50 => ?_) (fun c50 => ?_)
            · --
              refine lv_iconst (v := 1) hx hb dX7_append_53 (by decide) ?_
              rw [← hQ]
              exact o_rz cx rx hw (iv_nz01 (iv_w (⟨by decide, by decide⟩ : Iv 1 1 1) (by decide))) dX7_append_54 ⟨fr, (iv_w (⟨by decide, by decide⟩ : Iv 1 1 1) (by decide)), (by exact (by have := (i47).1; have := (i47).2; have := (i5).1; have := (i5).2; have := (i4).1; have := (i4).2; have := (i10).1; have := (i10).2; have := (i11).1; have := (i11).2; have := (i14).1; have := (i14).2; have := (i20).1; have := (i20).2; have := (i21).1; have := (i21).2; have := (i22).1; have := (i22).2; have := (i25).1; have := (i25).2; have := (i32).1; have := (i32).2; have := (i33).1; have := (i33).2; have := (i36).1; have := (i36).2; have := (i43).1; have := (i43).2; have := (i44).1; have := (i44).2; have : (σ48.1 385 a0).toInt = (v47 : Int32).toInt := congrArg Int32.toInt (show σ48.1 385 a0 = v47 from (kp_s eσ48)); have : (v2 : Int32).toInt ≤ (80 : Int32).toInt := iv_le.mp c3; have : (0 : Int32).toInt ≤ (24 : Int32).toInt := iv_le.mp (iv_nlt c6); have : (0 : Int32).toInt ≤ (16 : Int32).toInt := iv_le.mp (iv_nlt c17); have : (0 : Int32).toInt ≤ (8 : Int32).toInt := iv_le.mp (iv_nlt c28); have : (0 : Int32).toInt ≤ (0 : Int32).toInt := iv_le.mp (iv_nlt c39); have : ((-8) : Int32).toInt < (0 : Int32).toInt := iv_lt.mp c50; have : ((-8) : Int32).toInt = (-8) := (by decide); have : (0 : Int32).toInt = 0 := (by decide); have : (1 : Int32).toInt = 1 := (by decide); have : (16 : Int32).toInt = 16 := (by decide); have : (24 : Int32).toInt = 24 := (by decide); have : (8 : Int32).toInt = 8 := (by decide); have : (80 : Int32).toInt = 80 := (by decide); omega)), (by refine Or.inr ⟨(by have := (i47).1; have := (i47).2; have := (i5).1; have := (i5).2; have := (i4).1; have := (i4).2; have := (i10).1; have := (i10).2; have := (i11).1; have := (i11).2; have := (i14).1; have := (i14).2; have := (i20).1; have := (i20).2; have := (i21).1; have := (i21).2; have := (i22).1; have := (i22).2; have := (i25).1; have := (i25).2; have := (i32).1; have := (i32).2; have := (i33).1; have := (i33).2; have := (i36).1; have := (i36).2; have := (i43).1; have := (i43).2; have := (i44).1; have := (i44).2; have : (σ48.1 385 a0).toInt = (v47 : Int32).toInt := congrArg Int32.toInt (show σ48.1 385 a0 = v47 from (kp_s eσ48)); have : (v2 : Int32).toInt ≤ (80 : Int32).toInt := iv_le.mp c3; have : (0 : Int32).toInt ≤ (24 : Int32).toInt := iv_le.mp (iv_nlt c6); have : (0 : Int32).toInt ≤ (16 : Int32).toInt := iv_le.mp (iv_nlt c17); have : (0 : Int32).toInt ≤ (8 : Int32).toInt := iv_le.mp (iv_nlt c28); have : (0 : Int32).toInt ≤ (0 : Int32).toInt := iv_le.mp (iv_nlt c39); have : ((-8) : Int32).toInt < (0 : Int32).toInt := iv_lt.mp c50; have : ((-8) : Int32).toInt = (-8) := (by decide); have : (0 : Int32).toInt = 0 := (by decide); have : (1 : Int32).toInt = 1 := (by decide); have : (16 : Int32).toInt = 16 := (by decide); have : (24 : Int32).toInt = 24 := (by decide); have : (8 : Int32).toInt = 8 := (by decide); have : (80 : Int32).toInt = 80 := (by decide); omega), ?_⟩; rw [oRw_s (((kr_i eσ48).trans ((kr_p eσ45).trans ((kr_i eσ37).trans ((kr_p eσ34).trans ((kr_i eσ26).trans ((kr_p eσ23).trans ((kr_i eσ15).trans ((kr_p eσ12).trans hF384))))))))), oRw_s hF384, show σ48.2.2.1 b384 = _ from ((rw_i eσ48).trans rfl)]; exact tApp_of (app4 (rw_s eσ12) (((rw_i eσ15).trans rfl)) (rw_s eσ23) (((rw_i eσ26).trans rfl)) (rw_s eσ34) (((rw_i eσ37).trans rfl)) (rw_s eσ45) (by have := (i47).1; have := (i47).2; have := (i5).1; have := (i5).2; have := (i4).1; have := (i4).2; have := (i10).1; have := (i10).2; have := (i11).1; have := (i11).2; have := (i14).1; have := (i14).2; have := (i20).1; have := (i20).2; have := (i21).1; have := (i21).2; have := (i22).1; have := (i22).2; have := (i25).1; have := (i25).2; have := (i32).1; have := (i32).2; have := (i33).1; have := (i33).2; have := (i36).1; have := (i36).2; have := (i43).1; have := (i43).2; have := (i44).1; have := (i44).2; have : (σ48.1 385 a0).toInt = (v47 : Int32).toInt := congrArg Int32.toInt (show σ48.1 385 a0 = v47 from (kp_s eσ48)); have : (v2 : Int32).toInt ≤ (80 : Int32).toInt := iv_le.mp c3; have : (0 : Int32).toInt ≤ (24 : Int32).toInt := iv_le.mp (iv_nlt c6); have : (0 : Int32).toInt ≤ (16 : Int32).toInt := iv_le.mp (iv_nlt c17); have : (0 : Int32).toInt ≤ (8 : Int32).toInt := iv_le.mp (iv_nlt c28); have : (0 : Int32).toInt ≤ (0 : Int32).toInt := iv_le.mp (iv_nlt c39); have : ((-8) : Int32).toInt < (0 : Int32).toInt := iv_lt.mp c50; have : ((-8) : Int32).toInt = (-8) := (by decide); have : (0 : Int32).toInt = 0 := (by decide); have : (1 : Int32).toInt = 1 := (by decide); have : (16 : Int32).toInt = 16 := (by decide); have : (24 : Int32).toInt = 24 := (by decide); have : (8 : Int32).toInt = 8 := (by decide); have : (80 : Int32).toInt = 80 := (by decide); omega)) (tb_c a1 24 24 (by decide) e9 e10 e11) (tb_c a1 16 16 (by decide) e20 e21 e22) (tb_c a1 8 8 (by decide) e31 e32 e33) (tb_c a1 0 0 (by decide) e42 e43 e44))⟩
            · --
              exact iv_no (iv_le1 (b' := (-1)) (iv_nlt c50) (⟨by decide, by decide⟩ : Iv 0 0 0) (⟨by decide, by decide⟩ : Iv (-8) (-8) (-8)) (by decide)) (by decide)
  · --
    have i51 : Iv v2 81 84 := iv_lt2 (iv_nle c3) (⟨by decide, by decide⟩ : Iv 80 80 80) i2 (by decide)
    have i52 : Iv (σ.1 385 a0) 77 80 := iv_lin x2 i51 iz385 (by decide)
    refine lv_iconst (v := 0) hx hb dX7_append_11 (by decide) ?_
    rw [← hQ]
    exact o_rz cx rx hw (iv_nz01 (iv_w (⟨by decide, by decide⟩ : Iv 0 0 0) (by decide))) dX7_append_12 ⟨fr, (iv_w (⟨by decide, by decide⟩ : Iv 0 0 0) (by decide)), (by exact (by have := (i52).1; have := (i52).2; have := (i51).1; have := (i51).2; have : (80 : Int32).toInt < (v2 : Int32).toInt := iv_lt.mp (iv_nle c3); have : (0 : Int32).toInt = 0 := (by decide); have : (80 : Int32).toInt = 80 := (by decide); omega)), (by exact Or.inl ⟨(by have := (i52).1; have := (i52).2; have := (i51).1; have := (i51).2; have : (80 : Int32).toInt < (v2 : Int32).toInt := iv_lt.mp (iv_nle c3); have : (0 : Int32).toInt = 0 := (by decide); have : (80 : Int32).toInt = 80 := (by decide); omega), rfl⟩)⟩
abbrev fs_X7_begin : List Nat := [386, 387]
abbrev ts_X7_begin : List Nat := []
set_option maxHeartbeats 4000000 in
set_option maxRecDepth 100000 in
theorem c_X7_begin (a0 : Nat) (ha0 : oA L τ a0 6) (a1 : Int32) : oMet l A L τ cy D K yX7_begin cX7_begin 2 none 0 0 [.ref a0, .int a1] σ (va_Qv (fun σ1 => oFr τ fs_X7_begin ts_X7_begin σ σ1 ∧ ((σ1.1 386 a0).toInt = 0 ∧ (σ1.1 387 a0).toInt = a1.toInt)) (oPo A L τ cy D) A) := by
  refine oMk (by decide) (Nat.le_of_ble_eq_true rfl) rfl ?_
  intro p e s m args below meth c ls cx rx hA hw hl
  generalize hQ : MQ below _ args s 0 0 A = Q
  have hx := cx.1.1
  have hb := cx.1.2.1
  have hml := cx.1.2.2.1
  have hown := cx.1.2.2.2.1
  have hts := cx.1.2.2.2.2
  have hl : lv_has ls 2 [(0, .ref a0), (1, .int a1)] := hl
  have fr : oFr τ fs_X7_begin ts_X7_begin σ σ := oFr_rf
  refine lv_aload_n hx hb dX7_begin_0 rfl (lv_at hl 0 rfl) ?_
  refine lv_iconst (v := 0) hx hb dX7_begin_1 (by decide) ?_
  refine p_386 cx hw ha0 k_f_X7_37 dX7_begin_2 (fun σ1 H locs eσ1 hw => ?_)
  have fr := oFr_i fr eσ1 (by decide)
  refine lv_aload_n hx hb dX7_begin_5 rfl (lv_at hl 0 rfl) ?_
  refine lv_iload_n hx hb dX7_begin_6 rfl (lv_at hl 1 rfl) ?_
  refine p_387 cx hw ha0 k_f_X7_15 dX7_begin_7 (fun σ2 H locs eσ2 hw => ?_)
  have fr := oFr_i fr eσ2 (by decide)
  rw [← hQ]
  exact o_rv cx rx hw dX7_begin_10 ⟨fr, (by exact (by have : (σ2.1 386 a0).toInt = (0 : Int32).toInt := congrArg Int32.toInt (show σ2.1 386 a0 = 0 from ((kp_i eσ2 (by decide)).trans (kp_s eσ1))); have : (σ2.1 387 a0).toInt = (a1 : Int32).toInt := congrArg Int32.toInt (show σ2.1 387 a0 = a1 from (kp_s eσ2)); have : (0 : Int32).toInt = 0 := (by decide); omega))⟩
set_option maxHeartbeats 4000000 in
set_option maxRecDepth 100000 in
theorem c_X7_here (a0 : Nat) (ha0 : oA L τ a0 6) : oMet l A L τ cy D K yX7_here cX7_here 1 (some .int) 0 0 [.ref a0] σ (va_Qi (fun r σ1 => σ1 = σ ∧ Iv r (-2) 65535 ∧ (r.toInt = tC (oRw σ 384 a0) (σ.1 385 a0).toInt (σ.1 387 a0).toInt (σ.1 386 a0).toInt)) (oPo A L τ cy D) A) := by
  refine oMk (by decide) (Nat.le_of_ble_eq_true rfl) rfl ?_
  intro p e s m args below meth c ls cx rx hA hw hl
  generalize hQ : MQ below _ args s 0 0 A = Q
  have hx := cx.1.1
  have hb := cx.1.2.1
  have hml := cx.1.2.2.1
  have hown := cx.1.2.2.2.1
  have hts := cx.1.2.2.2.2
  have hl : lv_has ls 1 [(0, .ref a0)] := hl
  obtain ⟨b384, hF384, hb384⟩ := hw.2.2.2.2.2 384 a0 35 (by rw [ha0.2]; rfl) ha0.1
  have iz385 : Iv (σ.1 385 a0) (0) 80 := o_fb (j := 385) hw ha0 rfl
  refine lv_aload_n hx hb dX7_here_0 rfl (lv_at hl 0 rfl) ?_
  refine g_386 cx hw ha0 k_f_X7_37 dX7_here_1 (fun v1 e1 => ?_)
  rw [show v1 = (σ.1 386 a0) from e1.trans rfl]
  refine lv_aload_n hx hb dX7_here_4 rfl (lv_at hl 0 rfl) ?_
  refine g_387 cx hw ha0 k_f_X7_15 dX7_here_5 (fun v2 e2 => ?_)
  rw [show v2 = (σ.1 387 a0) from e2.trans rfl]
  refine lv_icmp_lt (tgt := 29) hx hb dX7_here_8 (by decide) (fun c3 => ?_) (fun c3 => ?_)
  · --
    have i4 : Iv (σ.1 386 a0) (-2147483648) 2147483646 := iv_lt1 c3 (iv_top (σ.1 386 a0)) (iv_top (σ.1 387 a0)) (by decide)
    have i5 : Iv (σ.1 387 a0) (-2147483647) 2147483647 := iv_lt2 c3 (iv_top (σ.1 386 a0)) (iv_top (σ.1 387 a0)) (by decide)
    refine lv_aload_n hx hb dX7_here_29 rfl (lv_at hl 0 rfl) ?_
    refine g_386 cx hw ha0 k_f_X7_37 dX7_here_30 (fun v6 e6 => ?_)
    rw [show v6 = (σ.1 386 a0) from e6.trans rfl]
    refine lv_if_lt (tgt := 59) hx hb dX7_here_33 (by decide) (fun c7 => ?_) (fun c7 => ?_)
    · --
      have i8 : Iv (σ.1 386 a0) (-2147483648) (-1) := iv_lt1 c7 i4 (⟨by decide, by decide⟩ : Iv 0 0 0) (by decide)
      refine lv_iconst (v := (-1)) hx hb dX7_here_59 (by decide) ?_
      rw [← hQ]
      exact o_ri cx rx hw dX7_here_60 ⟨rfl, (iv_w (⟨by decide, by decide⟩ : Iv (-1) (-1) (-1)) (by decide)), (by exact tC_end rfl (by have := (iz385).1; have := (iz385).2; have := (i8).1; have := (i8).2; have := (i5).1; have := (i5).2; have : ((σ.1 386 a0) : Int32).toInt < ((σ.1 387 a0) : Int32).toInt := iv_lt.mp c3; have : ((σ.1 386 a0) : Int32).toInt < (0 : Int32).toInt := iv_lt.mp c7; have : ((-1) : Int32).toInt = (-1) := (by decide); have : (0 : Int32).toInt = 0 := (by decide); omega))⟩
    · --
      have i9 : Iv (σ.1 386 a0) 0 2147483646 := iv_le2 (iv_nlt c7) (⟨by decide, by decide⟩ : Iv 0 0 0) i4 (by decide)
      refine lv_aload_n hx hb dX7_here_36 rfl (lv_at hl 0 rfl) ?_
      refine g_386 cx hw ha0 k_f_X7_37 dX7_here_37 (fun v10 e10 => ?_)
      rw [show v10 = (σ.1 386 a0) from e10.trans rfl]
      refine lv_aload_n hx hb dX7_here_40 rfl (lv_at hl 0 rfl) ?_
      refine g_385 cx hw ha0 k_f_X7_19 dX7_here_41 (fun v11 e11 i11 => ?_)
      rw [show v11 = (σ.1 385 a0) from e11.trans rfl]
      refine lv_icmp_ge (tgt := 59) hx hb dX7_here_44 (by decide) (fun c12 => ?_) (fun c12 => ?_)
      · --
        refine lv_iconst (v := (-1)) hx hb dX7_here_59 (by decide) ?_
        rw [← hQ]
        exact o_ri cx rx hw dX7_here_60 ⟨rfl, (iv_w (⟨by decide, by decide⟩ : Iv (-1) (-1) (-1)) (by decide)), (by exact tC_end rfl (by have := (iz385).1; have := (iz385).2; have := (i9).1; have := (i9).2; have := (i5).1; have := (i5).2; have : ((σ.1 386 a0) : Int32).toInt < ((σ.1 387 a0) : Int32).toInt := iv_lt.mp c3; have : (0 : Int32).toInt ≤ ((σ.1 386 a0) : Int32).toInt := iv_le.mp (iv_nlt c7); have : ((σ.1 385 a0) : Int32).toInt ≤ ((σ.1 386 a0) : Int32).toInt := iv_le.mp c12; have : ((-1) : Int32).toInt = (-1) := (by decide); have : (0 : Int32).toInt = 0 := (by decide); omega))⟩
      · --
        have i13 : Iv (σ.1 386 a0) 0 79 := iv_lt1 (iv_nle c12) i9 iz385 (by decide)
        have i14 : Iv (σ.1 385 a0) 1 80 := iv_lt2 (iv_nle c12) i9 iz385 (by decide)
        refine lv_aload_n hx hb dX7_here_47 rfl (lv_at hl 0 rfl) ?_
        refine g_384 cx hw ha0 k_f_X7_11 dX7_here_48 (fun v15 e15 h15 => ?_)
        rw [show v15 = b384 from Option.some.inj (e15.symm.trans (hF384))]
        refine lv_aload_n hx hb dX7_here_51 rfl (lv_at hl 0 rfl) ?_
        refine g_386 cx hw ha0 k_f_X7_37 dX7_here_52 (fun v16 e16 => ?_)
        rw [show v16 = (σ.1 386 a0) from e16.trans rfl]
        refine o_cald cx hw hb384 (by decide) rfl (iv_in i13 (by decide)) dX7_here_55 (fun v17 e17 b17 => ?_)
        have i17 : Iv v17 0 65535 := b17
        refine lv_goto (tgt := 60) hx hb dX7_here_56 (by decide) ?_
        rw [← hQ]
        exact o_ri cx rx hw dX7_here_60 ⟨rfl, (iv_w i17 (by decide)), (by exact tC_at (by have := (i17).1; have := (i17).2; have := (i14).1; have := (i14).2; have := (i13).1; have := (i13).2; have := (i5).1; have := (i5).2; have : ((σ.1 386 a0) : Int32).toInt < ((σ.1 387 a0) : Int32).toInt := iv_lt.mp c3; have : (0 : Int32).toInt ≤ ((σ.1 386 a0) : Int32).toInt := iv_le.mp (iv_nlt c7); have : ((σ.1 386 a0) : Int32).toInt < ((σ.1 385 a0) : Int32).toInt := iv_lt.mp (iv_nle c12); have : (0 : Int32).toInt = 0 := (by decide); omega) (by have := (i17).1; have := (i17).2; have := (i14).1; have := (i14).2; have := (i13).1; have := (i13).2; have := (i5).1; have := (i5).2; have : ((σ.1 386 a0) : Int32).toInt < ((σ.1 387 a0) : Int32).toInt := iv_lt.mp c3; have : (0 : Int32).toInt ≤ ((σ.1 386 a0) : Int32).toInt := iv_le.mp (iv_nlt c7); have : ((σ.1 386 a0) : Int32).toInt < ((σ.1 385 a0) : Int32).toInt := iv_lt.mp (iv_nle c12); have : (0 : Int32).toInt = 0 := (by decide); omega) rfl (by rw [oRw_s hF384]; exact e17))⟩
  · --
    refine lv_aload_n hx hb dX7_here_11 rfl (lv_at hl 0 rfl) ?_
    refine g_385 cx hw ha0 k_f_X7_19 dX7_here_12 (fun v18 e18 i18 => ?_)
    rw [show v18 = (σ.1 385 a0) from e18.trans rfl]
    refine lv_aload_n hx hb dX7_here_15 rfl (lv_at hl 0 rfl) ?_
    refine g_387 cx hw ha0 k_f_X7_15 dX7_here_16 (fun v19 e19 => ?_)
    rw [show v19 = (σ.1 387 a0) from e19.trans rfl]
    refine lv_icmp_le (tgt := 27) hx hb dX7_here_19 (by decide) (fun c20 => ?_) (fun c20 => ?_)
    · --
      have i21 : Iv (σ.1 387 a0) 0 2147483647 := iv_le2 c20 iz385 (iv_top (σ.1 387 a0)) (by decide)
      refine lv_iconst (v := (-1)) hx hb dX7_here_27 (by decide) ?_
      rw [← hQ]
      exact o_ri cx rx hw dX7_here_28 ⟨rfl, (iv_w (⟨by decide, by decide⟩ : Iv (-1) (-1) (-1)) (by decide)), (by exact tC_end rfl (by have := (iz385).1; have := (iz385).2; have := (i21).1; have := (i21).2; have : ((σ.1 387 a0) : Int32).toInt ≤ ((σ.1 386 a0) : Int32).toInt := iv_le.mp (iv_nlt c3); have : ((σ.1 385 a0) : Int32).toInt ≤ ((σ.1 387 a0) : Int32).toInt := iv_le.mp c20; have : ((-1) : Int32).toInt = (-1) := (by decide); omega))⟩
    · --
      have i22 : Iv (σ.1 387 a0) (-2147483648) 79 := iv_lt1 (iv_nle c20) (iv_top (σ.1 387 a0)) iz385 (by decide)
      refine lv_bipush (v := (-2)) hx hb dX7_here_22 (by decide) ?_
      refine lv_goto (tgt := 28) hx hb dX7_here_24 (by decide) ?_
      rw [← hQ]
      exact o_ri cx rx hw dX7_here_28 ⟨rfl, (iv_w (⟨by decide, by decide⟩ : Iv (-2) (-2) (-2)) (by decide)), (by exact tC_cut rfl (by have := (iz385).1; have := (iz385).2; have := (i22).1; have := (i22).2; have : ((σ.1 387 a0) : Int32).toInt ≤ ((σ.1 386 a0) : Int32).toInt := iv_le.mp (iv_nlt c3); have : ((σ.1 387 a0) : Int32).toInt < ((σ.1 385 a0) : Int32).toInt := iv_lt.mp (iv_nle c20); have : ((-2) : Int32).toInt = (-2) := (by decide); omega))⟩
set_option maxHeartbeats 4000000 in
set_option maxRecDepth 100000 in
theorem c_X7_isAtEnd (a0 : Nat) (ha0 : oA L τ a0 6) : oMet l A L τ cy D K yX7_isAtEnd cX7_isAtEnd 1 (some .boolean) 1 20 [.ref a0] σ (va_Qi (fun r σ1 => σ1 = σ ∧ Iv r 0 1 ∧ ((r.toInt = 1 ∧ tC (oRw σ 384 a0) (σ.1 385 a0).toInt (σ.1 387 a0).toInt (σ.1 386 a0).toInt = -1) ∨ (r.toInt = 0 ∧ tC (oRw σ 384 a0) (σ.1 385 a0).toInt (σ.1 387 a0).toInt (σ.1 386 a0).toInt ≠ -1))) (oPo A L τ cy D) A) := by
  refine oMk (by decide) (Nat.le_of_ble_eq_true rfl) rfl ?_
  intro p e s m args below meth c ls cx rx hA hw hl
  generalize hQ : MQ below _ args s 0 0 A = Q
  have hx := cx.1.1
  have hb := cx.1.2.1
  have hml := cx.1.2.2.1
  have hown := cx.1.2.2.2.1
  have hts := cx.1.2.2.2.2
  have hl : lv_has ls 1 [(0, .ref a0)] := hl
  have iz385 : Iv (σ.1 385 a0) (0) 80 := o_fb (j := 385) hw ha0 rfl
  refine lv_aload_n hx hb dX7_isAtEnd_0 rfl (lv_at hl 0 rfl) ?_
  refine o_ci hw (oRunV cx hA hw q_X7_here k_m_X7_40 rfl ha0 (by decide) (As := []) (c_X7_here a0 ha0) (by decide) rfl hl.1 rfl (Nat.le_of_ble_eq_true rfl) dX7_isAtEnd_1 (by decide)) (fun v2 σ1 H locs hp hw => ?_)
  obtain ⟨p2_0, p2_1, p2_2⟩ := hp
  rw [p2_0] at hw
  refine lv_iconst (v := (-1)) hx hb dX7_isAtEnd_4 (by decide) ?_
  refine lv_icmp_ne (tgt := 12) hx hb dX7_isAtEnd_5 (by decide) (fun c3 => ?_) (fun c3 => ?_)
  · --
    refine lv_iconst (v := 0) hx hb dX7_isAtEnd_12 (by decide) ?_
    rw [← hQ]
    exact o_rz cx rx hw (iv_nz01 (iv_w (⟨by decide, by decide⟩ : Iv 0 0 0) (by decide))) dX7_isAtEnd_13 ⟨rfl, (iv_w (⟨by decide, by decide⟩ : Iv 0 0 0) (by decide)), (by exact (by have := (iz385).1; have := (iz385).2; have := (p2_1).1; have := (p2_1).2; have : (v2 : Int32).toInt ≠ ((-1) : Int32).toInt := fun q => c3 (Int32.toInt_inj.mp q); have : ((-1) : Int32).toInt = (-1) := (by decide); have : (0 : Int32).toInt = 0 := (by decide); omega))⟩
  · --
    have i4 : Iv v2 (-1) (-1) := iv_eq1 c3 p2_1 (⟨by decide, by decide⟩ : Iv (-1) (-1) (-1)) (by decide)
    refine lv_iconst (v := 1) hx hb dX7_isAtEnd_8 (by decide) ?_
    refine lv_goto (tgt := 13) hx hb dX7_isAtEnd_9 (by decide) ?_
    rw [← hQ]
    exact o_rz cx rx hw (iv_nz01 (iv_w (⟨by decide, by decide⟩ : Iv 1 1 1) (by decide))) dX7_isAtEnd_13 ⟨rfl, (iv_w (⟨by decide, by decide⟩ : Iv 1 1 1) (by decide)), (by exact (by have := (iz385).1; have := (iz385).2; have := (i4).1; have := (i4).2; have : (v2 : Int32).toInt = ((-1) : Int32).toInt := congrArg Int32.toInt c3; have : ((-1) : Int32).toInt = (-1) := (by decide); have : (1 : Int32).toInt = 1 := (by decide); omega))⟩
abbrev fs_X7_stepF : List Nat := [386]
abbrev ts_X7_stepF : List Nat := []
set_option maxHeartbeats 4000000 in
set_option maxRecDepth 100000 in
theorem c_X7_stepF (a0 : Nat) (ha0 : oA L τ a0 6) (hf386 : Iv (σ.1 386 a0) (-1) 1000) : oMet l A L τ cy D K yX7_step cX7_step 1 none 0 0 [.ref a0] σ (va_Qv (fun σ1 => oFr τ fs_X7_stepF ts_X7_stepF σ σ1 ∧ (σ1.1 386 a0).toInt = (σ.1 386 a0).toInt + 1) (oPo A L τ cy D) A) := by
  refine oMk (by decide) (Nat.le_of_ble_eq_true rfl) rfl ?_
  intro p e s m args below meth c ls cx rx hA hw hl
  generalize hQ : MQ below _ args s 0 0 A = Q
  have hx := cx.1.1
  have hb := cx.1.2.1
  have hml := cx.1.2.2.1
  have hown := cx.1.2.2.2.1
  have hts := cx.1.2.2.2.2
  have hl : lv_has ls 1 [(0, .ref a0)] := hl
  have fr : oFr τ fs_X7_stepF ts_X7_stepF σ σ := oFr_rf
  refine lv_aload_n hx hb dX7_step_0 rfl (lv_at hl 0 rfl) ?_
  refine lv_dup hx hb dX7_step_1 rfl ?_
  refine g_386 cx hw ha0 k_f_X7_37 dX7_step_2 (fun v1 e1 => ?_)
  rw [show v1 = (σ.1 386 a0) from e1.trans rfl]
  refine lv_iconst (v := 1) hx hb dX7_step_5 (by decide) ?_
  refine lv_iadd hx hb dX7_step_6 ?_
  refine lv_topi (fun v2 e2 => ?_)
  have i2 : Iv v2 0 1001 := iv_add e2 hf386 (⟨by decide, by decide⟩ : Iv 1 1 1) (by decide)
  have x2 : v2.toInt = (σ.1 386 a0).toInt + 1 := ex_add e2 hf386 (⟨by decide, by decide⟩ : Iv 1 1 1) (by decide)
  refine p_386 cx hw ha0 k_f_X7_37 dX7_step_7 (fun σ3 H locs eσ3 hw => ?_)
  have fr := oFr_i fr eσ3 (by decide)
  rw [← hQ]
  exact o_rv cx rx hw dX7_step_10 ⟨fr, (fin_eq ((kp_s eσ3)) x2)⟩
abbrev fs_X7_step : List Nat := [386]
abbrev ts_X7_step : List Nat := []
set_option maxHeartbeats 4000000 in
set_option maxRecDepth 100000 in
theorem c_X7_step (a0 : Nat) (ha0 : oA L τ a0 6) : oMet l A L τ cy D K yX7_step cX7_step 1 none 0 0 [.ref a0] σ (va_Qv (fun σ1 => oFr τ fs_X7_step ts_X7_step σ σ1) (oPo A L τ cy D) A) := by
  refine oMk (by decide) (Nat.le_of_ble_eq_true rfl) rfl ?_
  intro p e s m args below meth c ls cx rx hA hw hl
  generalize hQ : MQ below _ args s 0 0 A = Q
  have hx := cx.1.1
  have hb := cx.1.2.1
  have hml := cx.1.2.2.1
  have hown := cx.1.2.2.2.1
  have hts := cx.1.2.2.2.2
  have hl : lv_has ls 1 [(0, .ref a0)] := hl
  have fr : oFr τ fs_X7_step ts_X7_step σ σ := oFr_rf
  refine lv_aload_n hx hb dX7_step_0 rfl (lv_at hl 0 rfl) ?_
  refine lv_dup hx hb dX7_step_1 rfl ?_
  refine g_386 cx hw ha0 k_f_X7_37 dX7_step_2 (fun v1 e1 => ?_)
  refine lv_iconst (v := 1) hx hb dX7_step_5 (by decide) ?_
  refine lv_iadd hx hb dX7_step_6 ?_
  refine lv_topi (fun v2 e2 => ?_)
  refine p_386 cx hw ha0 k_f_X7_37 dX7_step_7 (fun σ3 H locs eσ3 hw => ?_)
  have fr := oFr_i fr eσ3 (by decide)
  rw [← hQ]
  exact o_rv cx rx hw dX7_step_10 fr
abbrev fs_X7_take : List Nat := [386]
abbrev ts_X7_take : List Nat := []
set_option maxHeartbeats 4000000 in
set_option maxRecDepth 100000 in
theorem c_X7_take (a0 : Nat) (ha0 : oA L τ a0 6) (a1 : Int32) (ia1 : Iv a1 0 65535) : oMet l A L τ cy D K yX7_take cX7_take 2 (some .boolean) 1 20 [.ref a0, .int a1] σ (va_Qi (fun r σ1 => oFr τ fs_X7_take ts_X7_take σ σ1 ∧ Iv r 0 1 ∧ ((tC (oRw σ 384 a0) (σ.1 385 a0).toInt (σ.1 387 a0).toInt (σ.1 386 a0).toInt = a1.toInt ∧ r.toInt = 1 ∧ (σ1.1 386 a0).toInt = (σ.1 386 a0).toInt + 1) ∨ (tC (oRw σ 384 a0) (σ.1 385 a0).toInt (σ.1 387 a0).toInt (σ.1 386 a0).toInt ≠ a1.toInt ∧ r.toInt = 0 ∧ (σ1.1 386 a0).toInt = (σ.1 386 a0).toInt))) (oPo A L τ cy D) A) := by
  refine oMk (by decide) (Nat.le_of_ble_eq_true rfl) rfl ?_
  intro p e s m args below meth c ls cx rx hA hw hl
  generalize hQ : MQ below _ args s 0 0 A = Q
  have hx := cx.1.1
  have hb := cx.1.2.1
  have hml := cx.1.2.2.1
  have hown := cx.1.2.2.2.1
  have hts := cx.1.2.2.2.2
  have hl : lv_has ls 2 [(0, .ref a0), (1, .int a1)] := hl
  have fr : oFr τ fs_X7_take ts_X7_take σ σ := oFr_rf
  have iz385 : Iv (σ.1 385 a0) (0) 80 := o_fb (j := 385) hw ha0 rfl
  refine lv_aload_n hx hb dX7_take_0 rfl (lv_at hl 0 rfl) ?_
  refine o_ci hw (oRunV cx hA hw q_X7_here k_m_X7_40 rfl ha0 (by decide) (As := []) (c_X7_here a0 ha0) (by decide) rfl hl.1 rfl (Nat.le_of_ble_eq_true rfl) dX7_take_1 (by decide)) (fun v2 σ1 H locs hp hw => ?_)
  obtain ⟨p2_0, p2_1, p2_2⟩ := hp
  rw [p2_0] at hw
  refine lv_iload_n hx hb dX7_take_4 rfl (lv_at hl 1 rfl) ?_
  refine lv_icmp_eq (tgt := 10) hx hb dX7_take_5 (by decide) (fun c3 => ?_) (fun c3 => ?_)
  · --
    have i4 : Iv v2 0 65535 := iv_eq1 c3 p2_1 ia1 (by decide)
    refine lv_aload_n hx hb dX7_take_10 rfl (lv_at hl 0 rfl) ?_
    have i5 : Iv (σ.1 386 a0) 0 79 := (by have q9 := tC_pos (show 0 ≤ tC (oRw σ 384 a0) (σ.1 385 a0).toInt (σ.1 387 a0).toInt (σ.1 386 a0).toInt from (by have := (ia1).1; have := (ia1).2; have := (iz385).1; have := (iz385).2; have := (i4).1; have := (i4).2; have : (v2 : Int32).toInt = (a1 : Int32).toInt := congrArg Int32.toInt c3; omega)); exact (by have := (ia1).1; have := (ia1).2; have := (iz385).1; have := (iz385).2; have := (i4).1; have := (i4).2; have : (v2 : Int32).toInt = (a1 : Int32).toInt := congrArg Int32.toInt c3; exact ⟨by omega, by omega⟩))
    refine o_cv hw (oRunV cx hA hw q_X7_step k_m_X7_43 rfl ha0 (by decide) (As := []) (c_X7_stepF a0 ha0 (kn_iv (rfl) (iv_w i5 (by decide)))) (by decide) rfl hl.1 rfl (Nat.le_of_ble_eq_true rfl) dX7_take_11 (by decide)) (fun σ6 H locs hp hw => ?_)
    obtain ⟨p7_0, p7_1⟩ := hp
    have fr := oFr_tr fr p7_0 (by decide)
    have x9 : (σ6.1 386 a0).toInt = (σ.1 386 a0).toInt + 1 := fin_tr p7_1 (rfl)
    have i8 : Iv (σ6.1 386 a0) 1 80 := iv_fin x9 i5 (by decide)
    refine lv_iconst (v := 1) hx hb dX7_take_14 (by decide) ?_
    rw [← hQ]
    exact o_rz cx rx hw (iv_nz01 (iv_w (⟨by decide, by decide⟩ : Iv 1 1 1) (by decide))) dX7_take_15 ⟨fr, (iv_w (⟨by decide, by decide⟩ : Iv 1 1 1) (by decide)), (by exact (by have := (ia1).1; have := (ia1).2; have := (iz385).1; have := (iz385).2; have := (i8).1; have := (i8).2; have := (i4).1; have := (i4).2; have := (i5).1; have := (i5).2; have : (σ6.1 385 a0).toInt = ((σ.1 385 a0) : Int32).toInt := congrArg Int32.toInt (show σ6.1 385 a0 = (σ.1 385 a0) from ((kp_c p7_0 (by decide)).trans rfl)); have : (σ6.1 387 a0).toInt = ((σ.1 387 a0) : Int32).toInt := congrArg Int32.toInt (show σ6.1 387 a0 = (σ.1 387 a0) from ((kp_c p7_0 (by decide)).trans rfl)); have : (v2 : Int32).toInt = (a1 : Int32).toInt := congrArg Int32.toInt c3; have : (1 : Int32).toInt = 1 := (by decide); omega))⟩
  · --
    refine lv_iconst (v := 0) hx hb dX7_take_8 (by decide) ?_
    rw [← hQ]
    exact o_rz cx rx hw (iv_nz01 (iv_w (⟨by decide, by decide⟩ : Iv 0 0 0) (by decide))) dX7_take_9 ⟨fr, (iv_w (⟨by decide, by decide⟩ : Iv 0 0 0) (by decide)), (by exact (by have := (ia1).1; have := (ia1).2; have := (iz385).1; have := (iz385).2; have := (p2_1).1; have := (p2_1).2; have : (v2 : Int32).toInt ≠ (a1 : Int32).toInt := fun q => c3 (Int32.toInt_inj.mp q); have : (0 : Int32).toInt = 0 := (by decide); omega))⟩
set_option maxHeartbeats 4000000 in
set_option maxRecDepth 100000 in
theorem c_J0_isLatin1_aae02_0  : oMet l A L τ cy D K yJ0_isLatin1_aae02 cJ0_isLatin1_aae02 1 (some .boolean) 0 0 [.ref (K.1 0)] σ (va_Qi (fun r σ1 => σ1 = σ ∧ Iv r 1 1) (oPo A L τ cy D) A) := by
  refine oMk (by decide) (Nat.le_of_ble_eq_true rfl) rfl ?_
  intro p e s m args below meth c ls cx rx hA hw hl
  generalize hQ : MQ below _ args s 0 0 A = Q
  have hx := cx.1.1
  have hb := cx.1.2.1
  have hml := cx.1.2.2.1
  have hown := cx.1.2.2.2.1
  have hts := cx.1.2.2.2.2
  have hl : lv_has ls 1 [(0, .ref (K.1 0))] := hl
  refine va_gets hx hb cx.2.2.2.2.1 hw.2.2.1 hown (hts _ k_f_J0_38) (fun _ h => h) dJ0_isLatin1_aae02_0 ?_
  refine lv_if_eq (tgt := 17) hx hb dJ0_isLatin1_aae02_3 (by decide) (fun c1 => ?_) (fun c1 => ?_)
  · --
    exact iv_no (iv_eq1 (lo := 1) (hi := 0) c1 (⟨by decide, by decide⟩ : Iv 1 1 1) (⟨by decide, by decide⟩ : Iv 0 0 0) (by decide)) (by decide)
  · --
    refine lv_aload_n hx hb dJ0_isLatin1_aae02_6 rfl (lv_at hl 0 rfl) ?_
    refine vk_getf hx hb (cx.2.2.1.1 0 (by decide)).2.1 hw.2.2.1 hown (hts _ k_f_J0_15) (fun _ h => h) dJ0_isLatin1_aae02_7 ?_
    refine lv_if_ne (tgt := 17) hx hb dJ0_isLatin1_aae02_10 (by decide) (fun c2 => ?_) (fun c2 => ?_)
    · --
      exact absurd rfl c2
    · --
      refine lv_iconst (v := 1) hx hb dJ0_isLatin1_aae02_13 (by decide) ?_
      refine lv_goto (tgt := 18) hx hb dJ0_isLatin1_aae02_14 (by decide) ?_
      rw [← hQ]
      exact o_rz cx rx hw (iv_nz01 (iv_w (⟨by decide, by decide⟩ : Iv 1 1 1) (by decide))) dJ0_isLatin1_aae02_18 ⟨rfl, (iv_w (⟨by decide, by decide⟩ : Iv 1 1 1) (by decide))⟩
set_option maxHeartbeats 4000000 in
set_option maxRecDepth 100000 in
theorem c_J0_isLatin1_aae02_1  : oMet l A L τ cy D K yJ0_isLatin1_aae02 cJ0_isLatin1_aae02 1 (some .boolean) 0 0 [.ref (K.1 1)] σ (va_Qi (fun r σ1 => σ1 = σ ∧ Iv r 1 1) (oPo A L τ cy D) A) := by
  refine oMk (by decide) (Nat.le_of_ble_eq_true rfl) rfl ?_
  intro p e s m args below meth c ls cx rx hA hw hl
  generalize hQ : MQ below _ args s 0 0 A = Q
  have hx := cx.1.1
  have hb := cx.1.2.1
  have hml := cx.1.2.2.1
  have hown := cx.1.2.2.2.1
  have hts := cx.1.2.2.2.2
  have hl : lv_has ls 1 [(0, .ref (K.1 1))] := hl
  refine va_gets hx hb cx.2.2.2.2.1 hw.2.2.1 hown (hts _ k_f_J0_38) (fun _ h => h) dJ0_isLatin1_aae02_0 ?_
  refine lv_if_eq (tgt := 17) hx hb dJ0_isLatin1_aae02_3 (by decide) (fun c1 => ?_) (fun c1 => ?_)
  · --
    exact iv_no (iv_eq1 (lo := 1) (hi := 0) c1 (⟨by decide, by decide⟩ : Iv 1 1 1) (⟨by decide, by decide⟩ : Iv 0 0 0) (by decide)) (by decide)
  · --
    refine lv_aload_n hx hb dJ0_isLatin1_aae02_6 rfl (lv_at hl 0 rfl) ?_
    refine vk_getf hx hb (cx.2.2.1.1 1 (by decide)).2.1 hw.2.2.1 hown (hts _ k_f_J0_15) (fun _ h => h) dJ0_isLatin1_aae02_7 ?_
    refine lv_if_ne (tgt := 17) hx hb dJ0_isLatin1_aae02_10 (by decide) (fun c2 => ?_) (fun c2 => ?_)
    · --
      exact absurd rfl c2
    · --
      refine lv_iconst (v := 1) hx hb dJ0_isLatin1_aae02_13 (by decide) ?_
      refine lv_goto (tgt := 18) hx hb dJ0_isLatin1_aae02_14 (by decide) ?_
      rw [← hQ]
      exact o_rz cx rx hw (iv_nz01 (iv_w (⟨by decide, by decide⟩ : Iv 1 1 1) (by decide))) dJ0_isLatin1_aae02_18 ⟨rfl, (iv_w (⟨by decide, by decide⟩ : Iv 1 1 1) (by decide))⟩
set_option maxHeartbeats 4000000 in
set_option maxRecDepth 100000 in
theorem c_J0_isLatin1_aae02_2  : oMet l A L τ cy D K yJ0_isLatin1_aae02 cJ0_isLatin1_aae02 1 (some .boolean) 0 0 [.ref (K.1 2)] σ (va_Qi (fun r σ1 => σ1 = σ ∧ Iv r 1 1) (oPo A L τ cy D) A) := by
  refine oMk (by decide) (Nat.le_of_ble_eq_true rfl) rfl ?_
  intro p e s m args below meth c ls cx rx hA hw hl
  generalize hQ : MQ below _ args s 0 0 A = Q
  have hx := cx.1.1
  have hb := cx.1.2.1
  have hml := cx.1.2.2.1
  have hown := cx.1.2.2.2.1
  have hts := cx.1.2.2.2.2
  have hl : lv_has ls 1 [(0, .ref (K.1 2))] := hl
  refine va_gets hx hb cx.2.2.2.2.1 hw.2.2.1 hown (hts _ k_f_J0_38) (fun _ h => h) dJ0_isLatin1_aae02_0 ?_
  refine lv_if_eq (tgt := 17) hx hb dJ0_isLatin1_aae02_3 (by decide) (fun c1 => ?_) (fun c1 => ?_)
  · --
    exact iv_no (iv_eq1 (lo := 1) (hi := 0) c1 (⟨by decide, by decide⟩ : Iv 1 1 1) (⟨by decide, by decide⟩ : Iv 0 0 0) (by decide)) (by decide)
  · --
    refine lv_aload_n hx hb dJ0_isLatin1_aae02_6 rfl (lv_at hl 0 rfl) ?_
    refine vk_getf hx hb (cx.2.2.1.1 2 (by decide)).2.1 hw.2.2.1 hown (hts _ k_f_J0_15) (fun _ h => h) dJ0_isLatin1_aae02_7 ?_
    refine lv_if_ne (tgt := 17) hx hb dJ0_isLatin1_aae02_10 (by decide) (fun c2 => ?_) (fun c2 => ?_)
    · --
      exact absurd rfl c2
    · --
      refine lv_iconst (v := 1) hx hb dJ0_isLatin1_aae02_13 (by decide) ?_
      refine lv_goto (tgt := 18) hx hb dJ0_isLatin1_aae02_14 (by decide) ?_
      rw [← hQ]
      exact o_rz cx rx hw (iv_nz01 (iv_w (⟨by decide, by decide⟩ : Iv 1 1 1) (by decide))) dJ0_isLatin1_aae02_18 ⟨rfl, (iv_w (⟨by decide, by decide⟩ : Iv 1 1 1) (by decide))⟩
set_option maxHeartbeats 4000000 in
set_option maxRecDepth 100000 in
theorem c_J0_isLatin1_aae02_3  : oMet l A L τ cy D K yJ0_isLatin1_aae02 cJ0_isLatin1_aae02 1 (some .boolean) 0 0 [.ref (K.1 3)] σ (va_Qi (fun r σ1 => σ1 = σ ∧ Iv r 1 1) (oPo A L τ cy D) A) := by
  refine oMk (by decide) (Nat.le_of_ble_eq_true rfl) rfl ?_
  intro p e s m args below meth c ls cx rx hA hw hl
  generalize hQ : MQ below _ args s 0 0 A = Q
  have hx := cx.1.1
  have hb := cx.1.2.1
  have hml := cx.1.2.2.1
  have hown := cx.1.2.2.2.1
  have hts := cx.1.2.2.2.2
  have hl : lv_has ls 1 [(0, .ref (K.1 3))] := hl
  refine va_gets hx hb cx.2.2.2.2.1 hw.2.2.1 hown (hts _ k_f_J0_38) (fun _ h => h) dJ0_isLatin1_aae02_0 ?_
  refine lv_if_eq (tgt := 17) hx hb dJ0_isLatin1_aae02_3 (by decide) (fun c1 => ?_) (fun c1 => ?_)
  · --
    exact iv_no (iv_eq1 (lo := 1) (hi := 0) c1 (⟨by decide, by decide⟩ : Iv 1 1 1) (⟨by decide, by decide⟩ : Iv 0 0 0) (by decide)) (by decide)
  · --
    refine lv_aload_n hx hb dJ0_isLatin1_aae02_6 rfl (lv_at hl 0 rfl) ?_
    refine vk_getf hx hb (cx.2.2.1.1 3 (by decide)).2.1 hw.2.2.1 hown (hts _ k_f_J0_15) (fun _ h => h) dJ0_isLatin1_aae02_7 ?_
    refine lv_if_ne (tgt := 17) hx hb dJ0_isLatin1_aae02_10 (by decide) (fun c2 => ?_) (fun c2 => ?_)
    · --
      exact absurd rfl c2
    · --
      refine lv_iconst (v := 1) hx hb dJ0_isLatin1_aae02_13 (by decide) ?_
      refine lv_goto (tgt := 18) hx hb dJ0_isLatin1_aae02_14 (by decide) ?_
      rw [← hQ]
      exact o_rz cx rx hw (iv_nz01 (iv_w (⟨by decide, by decide⟩ : Iv 1 1 1) (by decide))) dJ0_isLatin1_aae02_18 ⟨rfl, (iv_w (⟨by decide, by decide⟩ : Iv 1 1 1) (by decide))⟩
set_option maxHeartbeats 4000000 in
set_option maxRecDepth 100000 in
theorem c_J0_coder_7d493_0  : oMet l A L τ cy D K yJ0_coder_7d493 cJ0_coder_7d493 1 (some .byte) 0 0 [.ref (K.1 0)] σ (va_Qi (fun r σ1 => σ1 = σ ∧ Iv r 0 0 ∧ narrow .byte (.int r) = .int r) (oPo A L τ cy D) A) := by
  refine oMk (by decide) (Nat.le_of_ble_eq_true rfl) rfl ?_
  intro p e s m args below meth c ls cx rx hA hw hl
  generalize hQ : MQ below _ args s 0 0 A = Q
  have hx := cx.1.1
  have hb := cx.1.2.1
  have hml := cx.1.2.2.1
  have hown := cx.1.2.2.2.1
  have hts := cx.1.2.2.2.2
  have hl : lv_has ls 1 [(0, .ref (K.1 0))] := hl
  refine va_gets hx hb cx.2.2.2.2.1 hw.2.2.1 hown (hts _ k_f_J0_38) (fun _ h => h) dJ0_coder_7d493_0 ?_
  refine lv_if_eq (tgt := 13) hx hb dJ0_coder_7d493_3 (by decide) (fun c1 => ?_) (fun c1 => ?_)
  · --
    exact iv_no (iv_eq1 (lo := 1) (hi := 0) c1 (⟨by decide, by decide⟩ : Iv 1 1 1) (⟨by decide, by decide⟩ : Iv 0 0 0) (by decide)) (by decide)
  · --
    refine lv_aload_n hx hb dJ0_coder_7d493_6 rfl (lv_at hl 0 rfl) ?_
    refine vk_getf hx hb (cx.2.2.1.1 0 (by decide)).2.1 hw.2.2.1 hown (hts _ k_f_J0_15) (fun _ h => h) dJ0_coder_7d493_7 ?_
    refine lv_goto (tgt := 14) hx hb dJ0_coder_7d493_10 (by decide) ?_
    rw [← hQ]
    exact o_rz cx rx hw (by decide) dJ0_coder_7d493_14 ⟨rfl, (iv_w (⟨by decide, by decide⟩ : Iv 0 0 0) (by decide)), (by decide)⟩
set_option maxHeartbeats 4000000 in
set_option maxRecDepth 100000 in
theorem c_J0_coder_7d493_1  : oMet l A L τ cy D K yJ0_coder_7d493 cJ0_coder_7d493 1 (some .byte) 0 0 [.ref (K.1 1)] σ (va_Qi (fun r σ1 => σ1 = σ ∧ Iv r 0 0 ∧ narrow .byte (.int r) = .int r) (oPo A L τ cy D) A) := by
  refine oMk (by decide) (Nat.le_of_ble_eq_true rfl) rfl ?_
  intro p e s m args below meth c ls cx rx hA hw hl
  generalize hQ : MQ below _ args s 0 0 A = Q
  have hx := cx.1.1
  have hb := cx.1.2.1
  have hml := cx.1.2.2.1
  have hown := cx.1.2.2.2.1
  have hts := cx.1.2.2.2.2
  have hl : lv_has ls 1 [(0, .ref (K.1 1))] := hl
  refine va_gets hx hb cx.2.2.2.2.1 hw.2.2.1 hown (hts _ k_f_J0_38) (fun _ h => h) dJ0_coder_7d493_0 ?_
  refine lv_if_eq (tgt := 13) hx hb dJ0_coder_7d493_3 (by decide) (fun c1 => ?_) (fun c1 => ?_)
  · --
    exact iv_no (iv_eq1 (lo := 1) (hi := 0) c1 (⟨by decide, by decide⟩ : Iv 1 1 1) (⟨by decide, by decide⟩ : Iv 0 0 0) (by decide)) (by decide)
  · --
    refine lv_aload_n hx hb dJ0_coder_7d493_6 rfl (lv_at hl 0 rfl) ?_
    refine vk_getf hx hb (cx.2.2.1.1 1 (by decide)).2.1 hw.2.2.1 hown (hts _ k_f_J0_15) (fun _ h => h) dJ0_coder_7d493_7 ?_
    refine lv_goto (tgt := 14) hx hb dJ0_coder_7d493_10 (by decide) ?_
    rw [← hQ]
    exact o_rz cx rx hw (by decide) dJ0_coder_7d493_14 ⟨rfl, (iv_w (⟨by decide, by decide⟩ : Iv 0 0 0) (by decide)), (by decide)⟩
set_option maxHeartbeats 4000000 in
set_option maxRecDepth 100000 in
theorem c_J0_coder_7d493_2  : oMet l A L τ cy D K yJ0_coder_7d493 cJ0_coder_7d493 1 (some .byte) 0 0 [.ref (K.1 2)] σ (va_Qi (fun r σ1 => σ1 = σ ∧ Iv r 0 0 ∧ narrow .byte (.int r) = .int r) (oPo A L τ cy D) A) := by
  refine oMk (by decide) (Nat.le_of_ble_eq_true rfl) rfl ?_
  intro p e s m args below meth c ls cx rx hA hw hl
  generalize hQ : MQ below _ args s 0 0 A = Q
  have hx := cx.1.1
  have hb := cx.1.2.1
  have hml := cx.1.2.2.1
  have hown := cx.1.2.2.2.1
  have hts := cx.1.2.2.2.2
  have hl : lv_has ls 1 [(0, .ref (K.1 2))] := hl
  refine va_gets hx hb cx.2.2.2.2.1 hw.2.2.1 hown (hts _ k_f_J0_38) (fun _ h => h) dJ0_coder_7d493_0 ?_
  refine lv_if_eq (tgt := 13) hx hb dJ0_coder_7d493_3 (by decide) (fun c1 => ?_) (fun c1 => ?_)
  · --
    exact iv_no (iv_eq1 (lo := 1) (hi := 0) c1 (⟨by decide, by decide⟩ : Iv 1 1 1) (⟨by decide, by decide⟩ : Iv 0 0 0) (by decide)) (by decide)
  · --
    refine lv_aload_n hx hb dJ0_coder_7d493_6 rfl (lv_at hl 0 rfl) ?_
    refine vk_getf hx hb (cx.2.2.1.1 2 (by decide)).2.1 hw.2.2.1 hown (hts _ k_f_J0_15) (fun _ h => h) dJ0_coder_7d493_7 ?_
    refine lv_goto (tgt := 14) hx hb dJ0_coder_7d493_10 (by decide) ?_
    rw [← hQ]
    exact o_rz cx rx hw (by decide) dJ0_coder_7d493_14 ⟨rfl, (iv_w (⟨by decide, by decide⟩ : Iv 0 0 0) (by decide)), (by decide)⟩
set_option maxHeartbeats 4000000 in
set_option maxRecDepth 100000 in
theorem c_J0_coder_7d493_3  : oMet l A L τ cy D K yJ0_coder_7d493 cJ0_coder_7d493 1 (some .byte) 0 0 [.ref (K.1 3)] σ (va_Qi (fun r σ1 => σ1 = σ ∧ Iv r 0 0 ∧ narrow .byte (.int r) = .int r) (oPo A L τ cy D) A) := by
  refine oMk (by decide) (Nat.le_of_ble_eq_true rfl) rfl ?_
  intro p e s m args below meth c ls cx rx hA hw hl
  generalize hQ : MQ below _ args s 0 0 A = Q
  have hx := cx.1.1
  have hb := cx.1.2.1
  have hml := cx.1.2.2.1
  have hown := cx.1.2.2.2.1
  have hts := cx.1.2.2.2.2
  have hl : lv_has ls 1 [(0, .ref (K.1 3))] := hl
  refine va_gets hx hb cx.2.2.2.2.1 hw.2.2.1 hown (hts _ k_f_J0_38) (fun _ h => h) dJ0_coder_7d493_0 ?_
  refine lv_if_eq (tgt := 13) hx hb dJ0_coder_7d493_3 (by decide) (fun c1 => ?_) (fun c1 => ?_)
  · --
    exact iv_no (iv_eq1 (lo := 1) (hi := 0) c1 (⟨by decide, by decide⟩ : Iv 1 1 1) (⟨by decide, by decide⟩ : Iv 0 0 0) (by decide)) (by decide)
  · --
    refine lv_aload_n hx hb dJ0_coder_7d493_6 rfl (lv_at hl 0 rfl) ?_
    refine vk_getf hx hb (cx.2.2.1.1 3 (by decide)).2.1 hw.2.2.1 hown (hts _ k_f_J0_15) (fun _ h => h) dJ0_coder_7d493_7 ?_
    refine lv_goto (tgt := 14) hx hb dJ0_coder_7d493_10 (by decide) ?_
    rw [← hQ]
    exact o_rz cx rx hw (by decide) dJ0_coder_7d493_14 ⟨rfl, (iv_w (⟨by decide, by decide⟩ : Iv 0 0 0) (by decide)), (by decide)⟩
set_option maxHeartbeats 4000000 in
set_option maxRecDepth 100000 in
theorem c_J0_length_8abf5_0  : oMet l A L τ cy D K yJ0_length_8abf5 cJ0_length_8abf5 1 (some .int) 1 20 [.ref (K.1 0)] σ (va_Qi (fun r σ1 => σ1 = σ ∧ Iv r 13 13) (oPo A L τ cy D) A) := by
  refine oMk (by decide) (Nat.le_of_ble_eq_true rfl) rfl ?_
  intro p e s m args below meth c ls cx rx hA hw hl
  generalize hQ : MQ below _ args s 0 0 A = Q
  have hx := cx.1.1
  have hb := cx.1.2.1
  have hml := cx.1.2.2.1
  have hown := cx.1.2.2.2.1
  have hts := cx.1.2.2.2.2
  have hl : lv_has ls 1 [(0, .ref (K.1 0))] := hl
  refine lv_aload_n hx hb dJ0_length_8abf5_0 rfl (lv_at hl 0 rfl) ?_
  refine vk_getf hx hb (cx.2.2.1.1 0 (by decide)).2.2.1 hw.2.2.1 hown (hts _ k_f_J0_9) (fun _ h => h) dJ0_length_8abf5_1 ?_
  refine va_tlen (v := 13) hx hb (cx.2.2.1.1 0 (by decide)).2.2.2 hw.2.2.1 (by decide) dJ0_length_8abf5_4 ?_
  refine lv_aload_n hx hb dJ0_length_8abf5_5 rfl (lv_at hl 0 rfl) ?_
  refine o_ci hw (oRunK cx hA hw q_J0_coder_7d493 k_m_J0_335 0 (by decide) (As := []) (c_J0_coder_7d493_0 ) (by decide) rfl hl.1 rfl (Nat.le_of_ble_eq_true rfl) dJ0_length_8abf5_6 (by decide)) (fun v2 σ1 H locs hp hw => ?_)
  obtain ⟨p2_0, p2_1, p2_2⟩ := hp
  rw [p2_0] at hw
  refine lv_ishr hx hb dJ0_length_8abf5_9 ?_
  refine lv_topi (fun v3 e3 => ?_)
  have i3 : Iv v3 13 13 := iv_shr0 e3 (⟨by decide, by decide⟩ : Iv 13 13 13) p2_1
  rw [← hQ]
  exact o_ri cx rx hw dJ0_length_8abf5_10 ⟨rfl, (iv_w i3 (by decide))⟩
set_option maxHeartbeats 4000000 in
set_option maxRecDepth 100000 in
theorem c_J0_length_8abf5_1  : oMet l A L τ cy D K yJ0_length_8abf5 cJ0_length_8abf5 1 (some .int) 1 20 [.ref (K.1 1)] σ (va_Qi (fun r σ1 => σ1 = σ ∧ Iv r 9 9) (oPo A L τ cy D) A) := by
  refine oMk (by decide) (Nat.le_of_ble_eq_true rfl) rfl ?_
  intro p e s m args below meth c ls cx rx hA hw hl
  generalize hQ : MQ below _ args s 0 0 A = Q
  have hx := cx.1.1
  have hb := cx.1.2.1
  have hml := cx.1.2.2.1
  have hown := cx.1.2.2.2.1
  have hts := cx.1.2.2.2.2
  have hl : lv_has ls 1 [(0, .ref (K.1 1))] := hl
  refine lv_aload_n hx hb dJ0_length_8abf5_0 rfl (lv_at hl 0 rfl) ?_
  refine vk_getf hx hb (cx.2.2.1.1 1 (by decide)).2.2.1 hw.2.2.1 hown (hts _ k_f_J0_9) (fun _ h => h) dJ0_length_8abf5_1 ?_
  refine va_tlen (v := 9) hx hb (cx.2.2.1.1 1 (by decide)).2.2.2 hw.2.2.1 (by decide) dJ0_length_8abf5_4 ?_
  refine lv_aload_n hx hb dJ0_length_8abf5_5 rfl (lv_at hl 0 rfl) ?_
  refine o_ci hw (oRunK cx hA hw q_J0_coder_7d493 k_m_J0_335 1 (by decide) (As := []) (c_J0_coder_7d493_1 ) (by decide) rfl hl.1 rfl (Nat.le_of_ble_eq_true rfl) dJ0_length_8abf5_6 (by decide)) (fun v2 σ1 H locs hp hw => ?_)
  obtain ⟨p2_0, p2_1, p2_2⟩ := hp
  rw [p2_0] at hw
  refine lv_ishr hx hb dJ0_length_8abf5_9 ?_
  refine lv_topi (fun v3 e3 => ?_)
  have i3 : Iv v3 9 9 := iv_shr0 e3 (⟨by decide, by decide⟩ : Iv 9 9 9) p2_1
  rw [← hQ]
  exact o_ri cx rx hw dJ0_length_8abf5_10 ⟨rfl, (iv_w i3 (by decide))⟩
set_option maxHeartbeats 4000000 in
set_option maxRecDepth 100000 in
theorem c_J0_length_8abf5_2  : oMet l A L τ cy D K yJ0_length_8abf5 cJ0_length_8abf5 1 (some .int) 1 20 [.ref (K.1 2)] σ (va_Qi (fun r σ1 => σ1 = σ ∧ Iv r 11 11) (oPo A L τ cy D) A) := by
  refine oMk (by decide) (Nat.le_of_ble_eq_true rfl) rfl ?_
  intro p e s m args below meth c ls cx rx hA hw hl
  generalize hQ : MQ below _ args s 0 0 A = Q
  have hx := cx.1.1
  have hb := cx.1.2.1
  have hml := cx.1.2.2.1
  have hown := cx.1.2.2.2.1
  have hts := cx.1.2.2.2.2
  have hl : lv_has ls 1 [(0, .ref (K.1 2))] := hl
  refine lv_aload_n hx hb dJ0_length_8abf5_0 rfl (lv_at hl 0 rfl) ?_
  refine vk_getf hx hb (cx.2.2.1.1 2 (by decide)).2.2.1 hw.2.2.1 hown (hts _ k_f_J0_9) (fun _ h => h) dJ0_length_8abf5_1 ?_
  refine va_tlen (v := 11) hx hb (cx.2.2.1.1 2 (by decide)).2.2.2 hw.2.2.1 (by decide) dJ0_length_8abf5_4 ?_
  refine lv_aload_n hx hb dJ0_length_8abf5_5 rfl (lv_at hl 0 rfl) ?_
  refine o_ci hw (oRunK cx hA hw q_J0_coder_7d493 k_m_J0_335 2 (by decide) (As := []) (c_J0_coder_7d493_2 ) (by decide) rfl hl.1 rfl (Nat.le_of_ble_eq_true rfl) dJ0_length_8abf5_6 (by decide)) (fun v2 σ1 H locs hp hw => ?_)
  obtain ⟨p2_0, p2_1, p2_2⟩ := hp
  rw [p2_0] at hw
  refine lv_ishr hx hb dJ0_length_8abf5_9 ?_
  refine lv_topi (fun v3 e3 => ?_)
  have i3 : Iv v3 11 11 := iv_shr0 e3 (⟨by decide, by decide⟩ : Iv 11 11 11) p2_1
  rw [← hQ]
  exact o_ri cx rx hw dJ0_length_8abf5_10 ⟨rfl, (iv_w i3 (by decide))⟩
set_option maxHeartbeats 4000000 in
set_option maxRecDepth 100000 in
theorem c_J0_length_8abf5_3  : oMet l A L τ cy D K yJ0_length_8abf5 cJ0_length_8abf5 1 (some .int) 1 20 [.ref (K.1 3)] σ (va_Qi (fun r σ1 => σ1 = σ ∧ Iv r 6 6) (oPo A L τ cy D) A) := by
  refine oMk (by decide) (Nat.le_of_ble_eq_true rfl) rfl ?_
  intro p e s m args below meth c ls cx rx hA hw hl
  generalize hQ : MQ below _ args s 0 0 A = Q
  have hx := cx.1.1
  have hb := cx.1.2.1
  have hml := cx.1.2.2.1
  have hown := cx.1.2.2.2.1
  have hts := cx.1.2.2.2.2
  have hl : lv_has ls 1 [(0, .ref (K.1 3))] := hl
  refine lv_aload_n hx hb dJ0_length_8abf5_0 rfl (lv_at hl 0 rfl) ?_
  refine vk_getf hx hb (cx.2.2.1.1 3 (by decide)).2.2.1 hw.2.2.1 hown (hts _ k_f_J0_9) (fun _ h => h) dJ0_length_8abf5_1 ?_
  refine va_tlen (v := 6) hx hb (cx.2.2.1.1 3 (by decide)).2.2.2 hw.2.2.1 (by decide) dJ0_length_8abf5_4 ?_
  refine lv_aload_n hx hb dJ0_length_8abf5_5 rfl (lv_at hl 0 rfl) ?_
  refine o_ci hw (oRunK cx hA hw q_J0_coder_7d493 k_m_J0_335 3 (by decide) (As := []) (c_J0_coder_7d493_3 ) (by decide) rfl hl.1 rfl (Nat.le_of_ble_eq_true rfl) dJ0_length_8abf5_6 (by decide)) (fun v2 σ1 H locs hp hw => ?_)
  obtain ⟨p2_0, p2_1, p2_2⟩ := hp
  rw [p2_0] at hw
  refine lv_ishr hx hb dJ0_length_8abf5_9 ?_
  refine lv_topi (fun v3 e3 => ?_)
  have i3 : Iv v3 6 6 := iv_shr0 e3 (⟨by decide, by decide⟩ : Iv 6 6 6) p2_1
  rw [← hQ]
  exact o_ri cx rx hw dJ0_length_8abf5_10 ⟨rfl, (iv_w i3 (by decide))⟩
set_option maxHeartbeats 4000000 in
set_option maxRecDepth 100000 in
theorem c_J1_canEncode_9a6ad (a0 : Int32) : oMet l A L τ cy D K yJ1_canEncode_9a6ad cJ1_canEncode_9a6ad 1 (some .boolean) 0 0 [.int a0] σ (va_Qi (fun r σ1 => σ1 = σ ∧ Iv r 0 1 ∧ (¬ r = 0 → Iv a0 0 255) ∧ ((r.toInt = 1 ∧ 0 ≤ a0.toInt ∧ a0.toInt ≤ 255) ∨ (r.toInt = 0 ∧ (a0.toInt < 0 ∨ 255 < a0.toInt)))) (oPo A L τ cy D) A) := by
  refine oMk (by decide) (Nat.le_of_ble_eq_true rfl) rfl ?_
  intro p e s m args below meth c ls cx rx hA hw hl
  generalize hQ : MQ below _ args s 0 0 A = Q
  have hx := cx.1.1
  have hb := cx.1.2.1
  have hml := cx.1.2.2.1
  have hown := cx.1.2.2.2.1
  have hts := cx.1.2.2.2.2
  have hl : lv_has ls 1 [(0, .int a0)] := hl
  refine lv_iload_n hx hb dJ1_canEncode_9a6ad_0 rfl (lv_at hl 0 rfl) ?_
  refine lv_if_lt (tgt := 15) hx hb dJ1_canEncode_9a6ad_1 (by decide) (fun c1 => ?_) (fun c1 => ?_)
  · --
    have i2 : Iv a0 (-2147483648) (-1) := iv_lt1 c1 (iv_top a0) (⟨by decide, by decide⟩ : Iv 0 0 0) (by decide)
    refine lv_iconst (v := 0) hx hb dJ1_canEncode_9a6ad_15 (by decide) ?_
    rw [← hQ]
    exact o_rz cx rx hw (iv_nz01 (iv_w (⟨by decide, by decide⟩ : Iv 0 0 0) (by decide))) dJ1_canEncode_9a6ad_16 ⟨rfl, (iv_w (⟨by decide, by decide⟩ : Iv 0 0 0) (by decide)), (fun h => absurd rfl h), (by exact (by have := (i2).1; have := (i2).2; have : (a0 : Int32).toInt < (0 : Int32).toInt := iv_lt.mp c1; have : (0 : Int32).toInt = 0 := (by decide); omega))⟩
  · --
    have i3 : Iv a0 0 2147483647 := iv_le2 (iv_nlt c1) (⟨by decide, by decide⟩ : Iv 0 0 0) (iv_top a0) (by decide)
    refine lv_iload_n hx hb dJ1_canEncode_9a6ad_4 rfl (lv_at hl 0 rfl) ?_
    refine lv_sipush (v := 255) hx hb dJ1_canEncode_9a6ad_5 (by decide) ?_
    refine lv_icmp_gt (tgt := 15) hx hb dJ1_canEncode_9a6ad_8 (by decide) (fun c4 => ?_) (fun c4 => ?_)
    · --
      have i5 : Iv a0 256 2147483647 := iv_lt2 c4 (⟨by decide, by decide⟩ : Iv 255 255 255) i3 (by decide)
      refine lv_iconst (v := 0) hx hb dJ1_canEncode_9a6ad_15 (by decide) ?_
      rw [← hQ]
      exact o_rz cx rx hw (iv_nz01 (iv_w (⟨by decide, by decide⟩ : Iv 0 0 0) (by decide))) dJ1_canEncode_9a6ad_16 ⟨rfl, (iv_w (⟨by decide, by decide⟩ : Iv 0 0 0) (by decide)), (fun h => absurd rfl h), (by exact (by have := (i5).1; have := (i5).2; have : (0 : Int32).toInt ≤ (a0 : Int32).toInt := iv_le.mp (iv_nlt c1); have : (255 : Int32).toInt < (a0 : Int32).toInt := iv_lt.mp c4; have : (0 : Int32).toInt = 0 := (by decide); have : (255 : Int32).toInt = 255 := (by decide); omega))⟩
    · --
      have i6 : Iv a0 0 255 := iv_le1 (iv_nlt c4) i3 (⟨by decide, by decide⟩ : Iv 255 255 255) (by decide)
      refine lv_iconst (v := 1) hx hb dJ1_canEncode_9a6ad_11 (by decide) ?_
      refine lv_goto (tgt := 16) hx hb dJ1_canEncode_9a6ad_12 (by decide) ?_
      rw [← hQ]
      exact o_rz cx rx hw (iv_nz01 (iv_w (⟨by decide, by decide⟩ : Iv 1 1 1) (by decide))) dJ1_canEncode_9a6ad_16 ⟨rfl, (iv_w (⟨by decide, by decide⟩ : Iv 1 1 1) (by decide)), (fun _ => iv_w i6 (by decide)), (by exact (by have := (i6).1; have := (i6).2; have : (0 : Int32).toInt ≤ (a0 : Int32).toInt := iv_le.mp (iv_nlt c1); have : (a0 : Int32).toInt ≤ (255 : Int32).toInt := iv_le.mp (iv_nlt c4); have : (0 : Int32).toInt = 0 := (by decide); have : (1 : Int32).toInt = 1 := (by decide); have : (255 : Int32).toInt = 255 := (by decide); omega))⟩
set_option maxHeartbeats 4000000 in
set_option maxRecDepth 100000 in
theorem c_J1_indexOfChar_4cfef_1 (a1 : Int32) (ia1 : Iv a1 0 255) (a2 : Int32) (ia2 : Iv a2 0 0) (a3 : Int32) (ia3 : Iv a3 9 9) : oMet l A L τ cy D K yJ1_indexOfChar_4cfef cJ1_indexOfChar_4cfef 6 (some .int) 0 0 [.ref (K.2 1), .int a1, .int a2, .int a3] σ (va_Qi (fun r σ1 => σ1 = σ ∧ Iv r (-1) 8 ∧ ((0 ≤ r.toInt ∧ (a1.toInt = 103 ∨ a1.toInt = 115 ∨ a1.toInt = 116 ∨ a1.toInt = 114 ∨ a1.toInt = 109 ∨ a1.toInt = 111 ∨ a1.toInt = 101 ∨ a1.toInt = 105 ∨ a1.toInt = 107)) ∨ (r.toInt = -1 ∧ ¬ (a1.toInt = 103 ∨ a1.toInt = 115 ∨ a1.toInt = 116 ∨ a1.toInt = 114 ∨ a1.toInt = 109 ∨ a1.toInt = 111 ∨ a1.toInt = 101 ∨ a1.toInt = 105 ∨ a1.toInt = 107)))) (oPo A L τ cy D) A) := by
  refine oMk (by decide) (Nat.le_of_ble_eq_true rfl) rfl ?_
  intro p e s m args below meth c ls cx rx hA hw hl
  generalize hQ : MQ below _ args s 0 0 A = Q
  have hx := cx.1.1
  have hb := cx.1.2.1
  have hml := cx.1.2.2.1
  have hown := cx.1.2.2.2.1
  have hts := cx.1.2.2.2.2
  have hl : lv_has ls 6 [(0, .ref (K.2 1)), (1, .int a1), (2, .int a2), (3, .int a3)] := hl
  refine lv_iload_n hx hb dJ1_indexOfChar_4cfef_0 rfl (lv_at hl 1 rfl) ?_
  refine lv_i2b hx hb dJ1_indexOfChar_4cfef_1 rfl ?_
  refine lv_topi (fun v1 e1 => ?_)
  have b9 := ex_i2b e1 ia1
  refine lv_istore (lv' := [(4, .int v1), (0, .ref (K.2 1)), (1, .int a1), (2, .int a2), (3, .int a3)]) hx hb dJ1_indexOfChar_4cfef_2 hl (by decide) rfl (fun ls hl => ?_)
  refine lv_iload_n hx hb dJ1_indexOfChar_4cfef_4 rfl (lv_at hl 3 rfl) ?_
  refine lv_istore (lv' := [(5, .int a2), (4, .int v1), (0, .ref (K.2 1)), (1, .int a1), (2, .int a2), (3, .int a3)]) hx hb dJ1_indexOfChar_4cfef_5 hl (by decide) rfl (fun ls hl => ?_)
  refine lv_iload hx hb dJ1_indexOfChar_4cfef_7 (lv_at hl 0 rfl) ?_
  refine lv_iload_n hx hb dJ1_indexOfChar_4cfef_9 rfl (lv_at hl 5 rfl) ?_
  refine lv_icmp_ge (tgt := 31) hx hb dJ1_indexOfChar_4cfef_10 (by decide) (fun c2 => ?_) (fun c2 => ?_)
  · --
    exact iv_no (iv_le1 (b' := 8) c2 ia3 ia2 (by decide)) (by decide)
  · --
    refine lv_aload_n hx hb dJ1_indexOfChar_4cfef_13 rfl (lv_at hl 2 rfl) ?_
    refine lv_iload hx hb dJ1_indexOfChar_4cfef_14 (lv_at hl 0 rfl) ?_
    refine va_tb hx hb (cx.2.2.1.1 1 (by decide)).2.2.2 hw.2.2.1 (iv_in ia2 (by decide)) rfl dJ1_indexOfChar_4cfef_16 ?_
    refine lv_topi (fun v3 e3 => ?_)
    refine lv_iload hx hb dJ1_indexOfChar_4cfef_17 (lv_at hl 1 rfl) ?_
    have nv3 : v3.toInt = 103 := by rw [e3, show a2 = 0 from i32_eq (by have : (0 : Int32).toInt = 0 := (by decide); have := (ia1).1; have := (ia1).2; have := (ia2).1; have := (ia2).2; have := (ia3).1; have := (ia3).2; have : (a2 : Int32).toInt < (a3 : Int32).toInt := iv_lt.mp (iv_nle c2); omega)]; decide
    refine lv_icmp_ne (tgt := 25) hx hb dJ1_indexOfChar_4cfef_19 (by decide) (fun c4 => ?_) (fun c4 => ?_)
    · --
      obtain ⟨v5, e5⟩ : ∃ y : Int32, y = a2 + 1 := ⟨_, rfl⟩
      have i5 : Iv v5 1 1 := iv_add e5 ia2 (⟨by decide, by decide⟩ : Iv 1 1 1) (by decide)
      have x5 : v5.toInt = a2.toInt + 1 := ex_add e5 ia2 (⟨by decide, by decide⟩ : Iv 1 1 1) (by decide)
      refine lv_iinc (v := v5) (lv' := [(5, .int v5), (4, .int v1), (0, .ref (K.2 1)), (1, .int a1), (2, .int a2), (3, .int a3)]) hx hb dJ1_indexOfChar_4cfef_25 hl (k := 0) rfl (by rw [e5]; rfl) (by decide) rfl (fun ls hl => ?_)
      refine lv_goto (tgt := 7) hx hb dJ1_indexOfChar_4cfef_28 (by decide) ?_
      refine lv_iload hx hb dJ1_indexOfChar_4cfef_7 (lv_at hl 0 rfl) ?_
      refine lv_iload_n hx hb dJ1_indexOfChar_4cfef_9 rfl (lv_at hl 5 rfl) ?_
      refine lv_icmp_ge (tgt := 31) hx hb dJ1_indexOfChar_4cfef_10 (by decide) (fun c6 => ?_) (fun c6 => ?_)
      · --
        exact iv_no (iv_le1 (b' := 8) c6 ia3 i5 (by decide)) (by decide)
      · --
        refine lv_aload_n hx hb dJ1_indexOfChar_4cfef_13 rfl (lv_at hl 2 rfl) ?_
        refine lv_iload hx hb dJ1_indexOfChar_4cfef_14 (lv_at hl 0 rfl) ?_
        refine va_tb hx hb (cx.2.2.1.1 1 (by decide)).2.2.2 hw.2.2.1 (iv_in i5 (by decide)) rfl dJ1_indexOfChar_4cfef_16 ?_
        refine lv_topi (fun v7 e7 => ?_)
        refine lv_iload hx hb dJ1_indexOfChar_4cfef_17 (lv_at hl 1 rfl) ?_
        have nv7 : v7.toInt = 115 := by rw [e7, show v5 = 1 from i32_eq (by have : (1 : Int32).toInt = 1 := (by decide); have := (ia1).1; have := (ia1).2; have := (ia2).1; have := (ia2).2; have := (ia3).1; have := (ia3).2; have := (i5).1; have := (i5).2; have : (a2 : Int32).toInt < (a3 : Int32).toInt := iv_lt.mp (iv_nle c2); have : (v3 : Int32).toInt ≠ (v1 : Int32).toInt := fun q => c4 (Int32.toInt_inj.mp q); have : (v5 : Int32).toInt < (a3 : Int32).toInt := iv_lt.mp (iv_nle c6); omega)]; decide
        refine lv_icmp_ne (tgt := 25) hx hb dJ1_indexOfChar_4cfef_19 (by decide) (fun c8 => ?_) (fun c8 => ?_)
        · --
          obtain ⟨v9, e9⟩ : ∃ y : Int32, y = v5 + 1 := ⟨_, rfl⟩
          have i9 : Iv v9 2 2 := iv_add e9 i5 (⟨by decide, by decide⟩ : Iv 1 1 1) (by decide)
          have x9 : v9.toInt = v5.toInt + 1 := ex_add e9 i5 (⟨by decide, by decide⟩ : Iv 1 1 1) (by decide)
          have y9 : v9.toInt = a2.toInt + 2 := by rw [x9, x5]; omega
          refine lv_iinc (v := v9) (lv' := [(5, .int v9), (4, .int v1), (0, .ref (K.2 1)), (1, .int a1), (2, .int a2), (3, .int a3)]) hx hb dJ1_indexOfChar_4cfef_25 hl (k := 0) rfl (by rw [e9]; rfl) (by decide) rfl (fun ls hl => ?_)
          refine lv_goto (tgt := 7) hx hb dJ1_indexOfChar_4cfef_28 (by decide) ?_
          refine lv_iload hx hb dJ1_indexOfChar_4cfef_7 (lv_at hl 0 rfl) ?_
          refine lv_iload_n hx hb dJ1_indexOfChar_4cfef_9 rfl (lv_at hl 5 rfl) ?_
          refine lv_icmp_ge (tgt := 31) hx hb dJ1_indexOfChar_4cfef_10 (by decide) (fun c10 => ?_) (fun c10 => ?_)
          · --
            exact iv_no (iv_le1 (b' := 8) c10 ia3 i9 (by decide)) (by decide)
          · --
            refine lv_aload_n hx hb dJ1_indexOfChar_4cfef_13 rfl (lv_at hl 2 rfl) ?_
            refine lv_iload hx hb dJ1_indexOfChar_4cfef_14 (lv_at hl 0 rfl) ?_
            refine va_tb hx hb (cx.2.2.1.1 1 (by decide)).2.2.2 hw.2.2.1 (iv_in i9 (by decide)) rfl dJ1_indexOfChar_4cfef_16 ?_
            refine lv_topi (fun v11 e11 => ?_)
            refine lv_iload hx hb dJ1_indexOfChar_4cfef_17 (lv_at hl 1 rfl) ?_
            have nv11 : v11.toInt = 116 := by rw [e11, show v9 = 2 from i32_eq (by have : (2 : Int32).toInt = 2 := (by decide); have := (ia1).1; have := (ia1).2; have := (ia2).1; have := (ia2).2; have := (ia3).1; have := (ia3).2; have := (i9).1; have := (i9).2; have : (a2 : Int32).toInt < (a3 : Int32).toInt := iv_lt.mp (iv_nle c2); have : (v3 : Int32).toInt ≠ (v1 : Int32).toInt := fun q => c4 (Int32.toInt_inj.mp q); have : (v5 : Int32).toInt < (a3 : Int32).toInt := iv_lt.mp (iv_nle c6); have : (v7 : Int32).toInt ≠ (v1 : Int32).toInt := fun q => c8 (Int32.toInt_inj.mp q); have : (v9 : Int32).toInt < (a3 : Int32).toInt := iv_lt.mp (iv_nle c10); omega)]; decide
            refine lv_icmp_ne (tgt := 25) hx hb dJ1_indexOfChar_4cfef_19 (by decide) (fun c12 => ?_) (fun c12 => ?_)
            · --
              obtain ⟨v13, e13⟩ : ∃ y : Int32, y = v9 + 1 := ⟨_, rfl⟩
              have i13 : Iv v13 3 3 := iv_add e13 i9 (⟨by decide, by decide⟩ : Iv 1 1 1) (by decide)
              have x13 : v13.toInt = v9.toInt + 1 := ex_add e13 i9 (⟨by decide, by decide⟩ : Iv 1 1 1) (by decide)
              have y13 : v13.toInt = a2.toInt + 3 := by rw [x13, y9]; omega
              refine lv_iinc (v := v13) (lv' := [(5, .int v13), (4, .int v1), (0, .ref (K.2 1)), (1, .int a1), (2, .int a2), (3, .int a3)]) hx hb dJ1_indexOfChar_4cfef_25 hl (k := 0) rfl (by rw [e13]; rfl) (by decide) rfl (fun ls hl => ?_)
              refine lv_goto (tgt := 7) hx hb dJ1_indexOfChar_4cfef_28 (by decide) ?_
              refine lv_iload hx hb dJ1_indexOfChar_4cfef_7 (lv_at hl 0 rfl) ?_
              refine lv_iload_n hx hb dJ1_indexOfChar_4cfef_9 rfl (lv_at hl 5 rfl) ?_
              refine lv_icmp_ge (tgt := 31) hx hb dJ1_indexOfChar_4cfef_10 (by decide) (fun c14 => ?_) (fun c14 => ?_)
              · --
                exact iv_no (iv_le1 (b' := 8) c14 ia3 i13 (by decide)) (by decide)
              · --
                refine lv_aload_n hx hb dJ1_indexOfChar_4cfef_13 rfl (lv_at hl 2 rfl) ?_
                refine lv_iload hx hb dJ1_indexOfChar_4cfef_14 (lv_at hl 0 rfl) ?_
                refine va_tb hx hb (cx.2.2.1.1 1 (by decide)).2.2.2 hw.2.2.1 (iv_in i13 (by decide)) rfl dJ1_indexOfChar_4cfef_16 ?_
                refine lv_topi (fun v15 e15 => ?_)
                refine lv_iload hx hb dJ1_indexOfChar_4cfef_17 (lv_at hl 1 rfl) ?_
                have nv15 : v15.toInt = 114 := by rw [e15, show v13 = 3 from i32_eq (by have : (3 : Int32).toInt = 3 := (by decide); have := (ia1).1; have := (ia1).2; have := (ia2).1; have := (ia2).2; have := (ia3).1; have := (ia3).2; have := (i13).1; have := (i13).2; have : (a2 : Int32).toInt < (a3 : Int32).toInt := iv_lt.mp (iv_nle c2); have : (v3 : Int32).toInt ≠ (v1 : Int32).toInt := fun q => c4 (Int32.toInt_inj.mp q); have : (v5 : Int32).toInt < (a3 : Int32).toInt := iv_lt.mp (iv_nle c6); have : (v7 : Int32).toInt ≠ (v1 : Int32).toInt := fun q => c8 (Int32.toInt_inj.mp q); have : (v9 : Int32).toInt < (a3 : Int32).toInt := iv_lt.mp (iv_nle c10); have : (v11 : Int32).toInt ≠ (v1 : Int32).toInt := fun q => c12 (Int32.toInt_inj.mp q); have : (v13 : Int32).toInt < (a3 : Int32).toInt := iv_lt.mp (iv_nle c14); omega)]; decide
                refine lv_icmp_ne (tgt := 25) hx hb dJ1_indexOfChar_4cfef_19 (by decide) (fun c16 => ?_) (fun c16 => ?_)
                · --
                  obtain ⟨v17, e17⟩ : ∃ y : Int32, y = v13 + 1 := ⟨_, rfl⟩
                  have i17 : Iv v17 4 4 := iv_add e17 i13 (⟨by decide, by decide⟩ : Iv 1 1 1) (by decide)
                  have x17 : v17.toInt = v13.toInt + 1 := ex_add e17 i13 (⟨by decide, by decide⟩ : Iv 1 1 1) (by decide)
                  have y17 : v17.toInt = a2.toInt + 4 := by rw [x17, y13]; omega
                  refine lv_iinc (v := v17) (lv' := [(5, .int v17), (4, .int v1), (0, .ref (K.2 1)), (1, .int a1), (2, .int a2), (3, .int a3)]) hx hb dJ1_indexOfChar_4cfef_25 hl (k := 0) rfl (by rw [e17]; rfl) (by decide) rfl (fun ls hl => ?_)
                  refine lv_goto (tgt := 7) hx hb dJ1_indexOfChar_4cfef_28 (by decide) ?_
                  refine lv_iload hx hb dJ1_indexOfChar_4cfef_7 (lv_at hl 0 rfl) ?_
                  refine lv_iload_n hx hb dJ1_indexOfChar_4cfef_9 rfl (lv_at hl 5 rfl) ?_
                  refine lv_icmp_ge (tgt := 31) hx hb dJ1_indexOfChar_4cfef_10 (by decide) (fun c18 => ?_) (fun c18 => ?_)
                  · --
                    exact iv_no (iv_le1 (b' := 8) c18 ia3 i17 (by decide)) (by decide)
                  · --
                    refine lv_aload_n hx hb dJ1_indexOfChar_4cfef_13 rfl (lv_at hl 2 rfl) ?_
                    refine lv_iload hx hb dJ1_indexOfChar_4cfef_14 (lv_at hl 0 rfl) ?_
                    refine va_tb hx hb (cx.2.2.1.1 1 (by decide)).2.2.2 hw.2.2.1 (iv_in i17 (by decide)) rfl dJ1_indexOfChar_4cfef_16 ?_
                    refine lv_topi (fun v19 e19 => ?_)
                    refine lv_iload hx hb dJ1_indexOfChar_4cfef_17 (lv_at hl 1 rfl) ?_
                    have nv19 : v19.toInt = 109 := by rw [e19, show v17 = 4 from i32_eq (by have : (4 : Int32).toInt = 4 := (by decide); have := (ia1).1; have := (ia1).2; have := (ia2).1; have := (ia2).2; have := (ia3).1; have := (ia3).2; have := (i17).1; have := (i17).2; have : (a2 : Int32).toInt < (a3 : Int32).toInt := iv_lt.mp (iv_nle c2); have : (v3 : Int32).toInt ≠ (v1 : Int32).toInt := fun q => c4 (Int32.toInt_inj.mp q); have : (v5 : Int32).toInt < (a3 : Int32).toInt := iv_lt.mp (iv_nle c6); have : (v7 : Int32).toInt ≠ (v1 : Int32).toInt := fun q => c8 (Int32.toInt_inj.mp q); have : (v9 : Int32).toInt < (a3 : Int32).toInt := iv_lt.mp (iv_nle c10); have : (v11 : Int32).toInt ≠ (v1 : Int32).toInt := fun q => c12 (Int32.toInt_inj.mp q); have : (v13 : Int32).toInt < (a3 : Int32).toInt := iv_lt.mp (iv_nle c14); have : (v15 : Int32).toInt ≠ (v1 : Int32).toInt := fun q => c16 (Int32.toInt_inj.mp q); have : (v17 : Int32).toInt < (a3 : Int32).toInt := iv_lt.mp (iv_nle c18); omega)]; decide
                    refine lv_icmp_ne (tgt := 25) hx hb dJ1_indexOfChar_4cfef_19 (by decide) (fun c20 => ?_) (fun c20 => ?_)
                    · --
                      obtain ⟨v21, e21⟩ : ∃ y : Int32, y = v17 + 1 := ⟨_, rfl⟩
                      have i21 : Iv v21 5 5 := iv_add e21 i17 (⟨by decide, by decide⟩ : Iv 1 1 1) (by decide)
                      have x21 : v21.toInt = v17.toInt + 1 := ex_add e21 i17 (⟨by decide, by decide⟩ : Iv 1 1 1) (by decide)
                      have y21 : v21.toInt = a2.toInt + 5 := by rw [x21, y17]; omega
                      refine lv_iinc (v := v21) (lv' := [(5, .int v21), (4, .int v1), (0, .ref (K.2 1)), (1, .int a1), (2, .int a2), (3, .int a3)]) hx hb dJ1_indexOfChar_4cfef_25 hl (k := 0) rfl (by rw [e21]; rfl) (by decide) rfl (fun ls hl => ?_)
                      refine lv_goto (tgt := 7) hx hb dJ1_indexOfChar_4cfef_28 (by decide) ?_
                      refine lv_iload hx hb dJ1_indexOfChar_4cfef_7 (lv_at hl 0 rfl) ?_
                      refine lv_iload_n hx hb dJ1_indexOfChar_4cfef_9 rfl (lv_at hl 5 rfl) ?_
                      refine lv_icmp_ge (tgt := 31) hx hb dJ1_indexOfChar_4cfef_10 (by decide) (fun c22 => ?_) (fun c22 => ?_)
                      · --
                        exact iv_no (iv_le1 (b' := 8) c22 ia3 i21 (by decide)) (by decide)
                      · --
                        refine lv_aload_n hx hb dJ1_indexOfChar_4cfef_13 rfl (lv_at hl 2 rfl) ?_
                        refine lv_iload hx hb dJ1_indexOfChar_4cfef_14 (lv_at hl 0 rfl) ?_
                        refine va_tb hx hb (cx.2.2.1.1 1 (by decide)).2.2.2 hw.2.2.1 (iv_in i21 (by decide)) rfl dJ1_indexOfChar_4cfef_16 ?_
                        refine lv_topi (fun v23 e23 => ?_)
                        refine lv_iload hx hb dJ1_indexOfChar_4cfef_17 (lv_at hl 1 rfl) ?_
                        have nv23 : v23.toInt = 111 := by rw [e23, show v21 = 5 from i32_eq (by have : (5 : Int32).toInt = 5 := (by decide); have := (ia1).1; have := (ia1).2; have := (ia2).1; have := (ia2).2; have := (ia3).1; have := (ia3).2; have := (i21).1; have := (i21).2; have : (a2 : Int32).toInt < (a3 : Int32).toInt := iv_lt.mp (iv_nle c2); have : (v3 : Int32).toInt ≠ (v1 : Int32).toInt := fun q => c4 (Int32.toInt_inj.mp q); have : (v5 : Int32).toInt < (a3 : Int32).toInt := iv_lt.mp (iv_nle c6); have : (v7 : Int32).toInt ≠ (v1 : Int32).toInt := fun q => c8 (Int32.toInt_inj.mp q); have : (v9 : Int32).toInt < (a3 : Int32).toInt := iv_lt.mp (iv_nle c10); have : (v11 : Int32).toInt ≠ (v1 : Int32).toInt := fun q => c12 (Int32.toInt_inj.mp q); have : (v13 : Int32).toInt < (a3 : Int32).toInt := iv_lt.mp (iv_nle c14); have : (v15 : Int32).toInt ≠ (v1 : Int32).toInt := fun q => c16 (Int32.toInt_inj.mp q); have : (v17 : Int32).toInt < (a3 : Int32).toInt := iv_lt.mp (iv_nle c18); have : (v19 : Int32).toInt ≠ (v1 : Int32).toInt := fun q => c20 (Int32.toInt_inj.mp q); have : (v21 : Int32).toInt < (a3 : Int32).toInt := iv_lt.mp (iv_nle c22); omega)]; decide
                        refine lv_icmp_ne (tgt := 25) hx hb dJ1_indexOfChar_4cfef_19 (by decide) (fun c24 => ?_) (fun c24 => ?_)
                        · --
                          obtain ⟨v25, e25⟩ : ∃ y : Int32, y = v21 + 1 := ⟨_, rfl⟩
                          have i25 : Iv v25 6 6 := iv_add e25 i21 (⟨by decide, by decide⟩ : Iv 1 1 1) (by decide)
                          have x25 : v25.toInt = v21.toInt + 1 := ex_add e25 i21 (⟨by decide, by decide⟩ : Iv 1 1 1) (by decide)
                          have y25 : v25.toInt = a2.toInt + 6 := by rw [x25, y21]; omega
                          refine lv_iinc (v := v25) (lv' := [(5, .int v25), (4, .int v1), (0, .ref (K.2 1)), (1, .int a1), (2, .int a2), (3, .int a3)]) hx hb dJ1_indexOfChar_4cfef_25 hl (k := 0) rfl (by rw [e25]; rfl) (by decide) rfl (fun ls hl => ?_)
                          refine lv_goto (tgt := 7) hx hb dJ1_indexOfChar_4cfef_28 (by decide) ?_
                          refine lv_iload hx hb dJ1_indexOfChar_4cfef_7 (lv_at hl 0 rfl) ?_
                          refine lv_iload_n hx hb dJ1_indexOfChar_4cfef_9 rfl (lv_at hl 5 rfl) ?_
                          refine lv_icmp_ge (tgt := 31) hx hb dJ1_indexOfChar_4cfef_10 (by decide) (fun c26 => ?_) (fun c26 => ?_)
                          · --
                            exact iv_no (iv_le1 (b' := 8) c26 ia3 i25 (by decide)) (by decide)
                          · --
                            refine lv_aload_n hx hb dJ1_indexOfChar_4cfef_13 rfl (lv_at hl 2 rfl) ?_
                            refine lv_iload hx hb dJ1_indexOfChar_4cfef_14 (lv_at hl 0 rfl) ?_
                            refine va_tb hx hb (cx.2.2.1.1 1 (by decide)).2.2.2 hw.2.2.1 (iv_in i25 (by decide)) rfl dJ1_indexOfChar_4cfef_16 ?_
                            refine lv_topi (fun v27 e27 => ?_)
                            refine lv_iload hx hb dJ1_indexOfChar_4cfef_17 (lv_at hl 1 rfl) ?_
                            have nv27 : v27.toInt = 101 := by rw [e27, show v25 = 6 from i32_eq (by have : (6 : Int32).toInt = 6 := (by decide); have := (ia1).1; have := (ia1).2; have := (ia2).1; have := (ia2).2; have := (ia3).1; have := (ia3).2; have := (i25).1; have := (i25).2; have : (a2 : Int32).toInt < (a3 : Int32).toInt := iv_lt.mp (iv_nle c2); have : (v3 : Int32).toInt ≠ (v1 : Int32).toInt := fun q => c4 (Int32.toInt_inj.mp q); have : (v5 : Int32).toInt < (a3 : Int32).toInt := iv_lt.mp (iv_nle c6); have : (v7 : Int32).toInt ≠ (v1 : Int32).toInt := fun q => c8 (Int32.toInt_inj.mp q); have : (v9 : Int32).toInt < (a3 : Int32).toInt := iv_lt.mp (iv_nle c10); have : (v11 : Int32).toInt ≠ (v1 : Int32).toInt := fun q => c12 (Int32.toInt_inj.mp q); have : (v13 : Int32).toInt < (a3 : Int32).toInt := iv_lt.mp (iv_nle c14); have : (v15 : Int32).toInt ≠ (v1 : Int32).toInt := fun q => c16 (Int32.toInt_inj.mp q); have : (v17 : Int32).toInt < (a3 : Int32).toInt := iv_lt.mp (iv_nle c18); have : (v19 : Int32).toInt ≠ (v1 : Int32).toInt := fun q => c20 (Int32.toInt_inj.mp q); have : (v21 : Int32).toInt < (a3 : Int32).toInt := iv_lt.mp (iv_nle c22); have : (v23 : Int32).toInt ≠ (v1 : Int32).toInt := fun q => c24 (Int32.toInt_inj.mp q); have : (v25 : Int32).toInt < (a3 : Int32).toInt := iv_lt.mp (iv_nle c26); omega)]; decide
                            refine lv_icmp_ne (tgt := 25) hx hb dJ1_indexOfChar_4cfef_19 (by decide) (fun c28 => ?_) (fun c28 => ?_)
                            · --
                              obtain ⟨v29, e29⟩ : ∃ y : Int32, y = v25 + 1 := ⟨_, rfl⟩
                              have i29 : Iv v29 7 7 := iv_add e29 i25 (⟨by decide, by decide⟩ : Iv 1 1 1) (by decide)
                              have x29 : v29.toInt = v25.toInt + 1 := ex_add e29 i25 (⟨by decide, by decide⟩ : Iv 1 1 1) (by decide)
                              have y29 : v29.toInt = a2.toInt + 7 := by rw [x29, y25]; omega
                              refine lv_iinc (v := v29) (lv' := [(5, .int v29), (4, .int v1), (0, .ref (K.2 1)), (1, .int a1), (2, .int a2), (3, .int a3)]) hx hb dJ1_indexOfChar_4cfef_25 hl (k := 0) rfl (by rw [e29]; rfl) (by decide) rfl (fun ls hl => ?_)
                              refine lv_goto (tgt := 7) hx hb dJ1_indexOfChar_4cfef_28 (by decide) ?_
                              refine lv_iload hx hb dJ1_indexOfChar_4cfef_7 (lv_at hl 0 rfl) ?_
                              refine lv_iload_n hx hb dJ1_indexOfChar_4cfef_9 rfl (lv_at hl 5 rfl) ?_
                              refine lv_icmp_ge (tgt := 31) hx hb dJ1_indexOfChar_4cfef_10 (by decide) (fun c30 => ?_) (fun c30 => ?_)
                              · --
                                exact iv_no (iv_le1 (b' := 8) c30 ia3 i29 (by decide)) (by decide)
                              · --
                                refine lv_aload_n hx hb dJ1_indexOfChar_4cfef_13 rfl (lv_at hl 2 rfl) ?_
                                refine lv_iload hx hb dJ1_indexOfChar_4cfef_14 (lv_at hl 0 rfl) ?_
                                refine va_tb hx hb (cx.2.2.1.1 1 (by decide)).2.2.2 hw.2.2.1 (iv_in i29 (by decide)) rfl dJ1_indexOfChar_4cfef_16 ?_
                                refine lv_topi (fun v31 e31 => ?_)
                                refine lv_iload hx hb dJ1_indexOfChar_4cfef_17 (lv_at hl 1 rfl) ?_
                                have nv31 : v31.toInt = 105 := by rw [e31, show v29 = 7 from i32_eq (by have : (7 : Int32).toInt = 7 := (by decide); have := (ia1).1; have := (ia1).2; have := (ia2).1; have := (ia2).2; have := (ia3).1; have := (ia3).2; have := (i29).1; have := (i29).2; have : (a2 : Int32).toInt < (a3 : Int32).toInt := iv_lt.mp (iv_nle c2); have : (v3 : Int32).toInt ≠ (v1 : Int32).toInt := fun q => c4 (Int32.toInt_inj.mp q); have : (v5 : Int32).toInt < (a3 : Int32).toInt := iv_lt.mp (iv_nle c6); have : (v7 : Int32).toInt ≠ (v1 : Int32).toInt := fun q => c8 (Int32.toInt_inj.mp q); have : (v9 : Int32).toInt < (a3 : Int32).toInt := iv_lt.mp (iv_nle c10); have : (v11 : Int32).toInt ≠ (v1 : Int32).toInt := fun q => c12 (Int32.toInt_inj.mp q); have : (v13 : Int32).toInt < (a3 : Int32).toInt := iv_lt.mp (iv_nle c14); have : (v15 : Int32).toInt ≠ (v1 : Int32).toInt := fun q => c16 (Int32.toInt_inj.mp q); have : (v17 : Int32).toInt < (a3 : Int32).toInt := iv_lt.mp (iv_nle c18); have : (v19 : Int32).toInt ≠ (v1 : Int32).toInt := fun q => c20 (Int32.toInt_inj.mp q); have : (v21 : Int32).toInt < (a3 : Int32).toInt := iv_lt.mp (iv_nle c22); have : (v23 : Int32).toInt ≠ (v1 : Int32).toInt := fun q => c24 (Int32.toInt_inj.mp q); have : (v25 : Int32).toInt < (a3 : Int32).toInt := iv_lt.mp (iv_nle c26); have : (v27 : Int32).toInt ≠ (v1 : Int32).toInt := fun q => c28 (Int32.toInt_inj.mp q); have : (v29 : Int32).toInt < (a3 : Int32).toInt := iv_lt.mp (iv_nle c30); omega)]; decide
                                refine lv_icmp_ne (tgt := 25) hx hb dJ1_indexOfChar_4cfef_19 (by decide) (fun c32 => ?_) (fun c32 => ?_)
                                · --
                                  obtain ⟨v33, e33⟩ : ∃ y : Int32, y = v29 + 1 := ⟨_, rfl⟩
                                  have i33 : Iv v33 8 8 := iv_add e33 i29 (⟨by decide, by decide⟩ : Iv 1 1 1) (by decide)
                                  have x33 : v33.toInt = v29.toInt + 1 := ex_add e33 i29 (⟨by decide, by decide⟩ : Iv 1 1 1) (by decide)
                                  have y33 : v33.toInt = a2.toInt + 8 := by rw [x33, y29]; omega
                                  refine lv_iinc (v := v33) (lv' := [(5, .int v33), (4, .int v1), (0, .ref (K.2 1)), (1, .int a1), (2, .int a2), (3, .int a3)]) hx hb dJ1_indexOfChar_4cfef_25 hl (k := 0) rfl (by rw [e33]; rfl) (by decide) rfl (fun ls hl => ?_)
                                  refine lv_goto (tgt := 7) hx hb dJ1_indexOfChar_4cfef_28 (by decide) ?_
                                  refine lv_iload hx hb dJ1_indexOfChar_4cfef_7 (lv_at hl 0 rfl) ?_
                                  refine lv_iload_n hx hb dJ1_indexOfChar_4cfef_9 rfl (lv_at hl 5 rfl) ?_
                                  refine lv_icmp_ge (tgt := 31) hx hb dJ1_indexOfChar_4cfef_10 (by decide) (fun c34 => ?_) (fun c34 => ?_)
                                  · --
                                    exact iv_no (iv_le1 (b' := 8) c34 ia3 i33 (by decide)) (by decide)
                                  · --
                                    refine lv_aload_n hx hb dJ1_indexOfChar_4cfef_13 rfl (lv_at hl 2 rfl) ?_
                                    refine lv_iload hx hb dJ1_indexOfChar_4cfef_14 (lv_at hl 0 rfl) ?_
                                    refine va_tb hx hb (cx.2.2.1.1 1 (by decide)).2.2.2 hw.2.2.1 (iv_in i33 (by decide)) rfl dJ1_indexOfChar_4cfef_16 ?_
                                    refine lv_topi (fun v35 e35 => ?_)
                                    refine lv_iload hx hb dJ1_indexOfChar_4cfef_17 (lv_at hl 1 rfl) ?_
                                    have nv35 : v35.toInt = 107 := by rw [e35, show v33 = 8 from i32_eq (by have : (8 : Int32).toInt = 8 := (by decide); have := (ia1).1; have := (ia1).2; have := (ia2).1; have := (ia2).2; have := (ia3).1; have := (ia3).2; have := (i33).1; have := (i33).2; have : (a2 : Int32).toInt < (a3 : Int32).toInt := iv_lt.mp (iv_nle c2); have : (v3 : Int32).toInt ≠ (v1 : Int32).toInt := fun q => c4 (Int32.toInt_inj.mp q); have : (v5 : Int32).toInt < (a3 : Int32).toInt := iv_lt.mp (iv_nle c6); have : (v7 : Int32).toInt ≠ (v1 : Int32).toInt := fun q => c8 (Int32.toInt_inj.mp q); have : (v9 : Int32).toInt < (a3 : Int32).toInt := iv_lt.mp (iv_nle c10); have : (v11 : Int32).toInt ≠ (v1 : Int32).toInt := fun q => c12 (Int32.toInt_inj.mp q); have : (v13 : Int32).toInt < (a3 : Int32).toInt := iv_lt.mp (iv_nle c14); have : (v15 : Int32).toInt ≠ (v1 : Int32).toInt := fun q => c16 (Int32.toInt_inj.mp q); have : (v17 : Int32).toInt < (a3 : Int32).toInt := iv_lt.mp (iv_nle c18); have : (v19 : Int32).toInt ≠ (v1 : Int32).toInt := fun q => c20 (Int32.toInt_inj.mp q); have : (v21 : Int32).toInt < (a3 : Int32).toInt := iv_lt.mp (iv_nle c22); have : (v23 : Int32).toInt ≠ (v1 : Int32).toInt := fun q => c24 (Int32.toInt_inj.mp q); have : (v25 : Int32).toInt < (a3 : Int32).toInt := iv_lt.mp (iv_nle c26); have : (v27 : Int32).toInt ≠ (v1 : Int32).toInt := fun q => c28 (Int32.toInt_inj.mp q); have : (v29 : Int32).toInt < (a3 : Int32).toInt := iv_lt.mp (iv_nle c30); have : (v31 : Int32).toInt ≠ (v1 : Int32).toInt := fun q => c32 (Int32.toInt_inj.mp q); have : (v33 : Int32).toInt < (a3 : Int32).toInt := iv_lt.mp (iv_nle c34); omega)]; decide
                                    refine lv_icmp_ne (tgt := 25) hx hb dJ1_indexOfChar_4cfef_19 (by decide) (fun c36 => ?_) (fun c36 => ?_)
                                    · --
                                      obtain ⟨v37, e37⟩ : ∃ y : Int32, y = v33 + 1 := ⟨_, rfl⟩
                                      have i37 : Iv v37 9 9 := iv_add e37 i33 (⟨by decide, by decide⟩ : Iv 1 1 1) (by decide)
                                      have x37 : v37.toInt = v33.toInt + 1 := ex_add e37 i33 (⟨by decide, by decide⟩ : Iv 1 1 1) (by decide)
                                      have y37 : v37.toInt = a2.toInt + 9 := by rw [x37, y33]; omega
                                      refine lv_iinc (v := v37) (lv' := [(5, .int v37), (4, .int v1), (0, .ref (K.2 1)), (1, .int a1), (2, .int a2), (3, .int a3)]) hx hb dJ1_indexOfChar_4cfef_25 hl (k := 0) rfl (by rw [e37]; rfl) (by decide) rfl (fun ls hl => ?_)
                                      refine lv_goto (tgt := 7) hx hb dJ1_indexOfChar_4cfef_28 (by decide) ?_
                                      refine lv_iload hx hb dJ1_indexOfChar_4cfef_7 (lv_at hl 0 rfl) ?_
                                      refine lv_iload_n hx hb dJ1_indexOfChar_4cfef_9 rfl (lv_at hl 5 rfl) ?_
                                      refine lv_icmp_ge (tgt := 31) hx hb dJ1_indexOfChar_4cfef_10 (by decide) (fun c38 => ?_) (fun c38 => ?_)
                                      · --
                                        refine lv_iconst (v := (-1)) hx hb dJ1_indexOfChar_4cfef_31 (by decide) ?_
                                        rw [← hQ]
                                        exact o_ri cx rx hw dJ1_indexOfChar_4cfef_32 ⟨rfl, (iv_w (⟨by decide, by decide⟩ : Iv (-1) (-1) (-1)) (by decide)), (by exact (by have := (ia1).1; have := (ia1).2; have := (ia2).1; have := (ia2).2; have := (ia3).1; have := (ia3).2; have := (i37).1; have := (i37).2; have : (a2 : Int32).toInt < (a3 : Int32).toInt := iv_lt.mp (iv_nle c2); have : (v3 : Int32).toInt ≠ (v1 : Int32).toInt := fun q => c4 (Int32.toInt_inj.mp q); have : (v5 : Int32).toInt < (a3 : Int32).toInt := iv_lt.mp (iv_nle c6); have : (v7 : Int32).toInt ≠ (v1 : Int32).toInt := fun q => c8 (Int32.toInt_inj.mp q); have : (v9 : Int32).toInt < (a3 : Int32).toInt := iv_lt.mp (iv_nle c10); have : (v11 : Int32).toInt ≠ (v1 : Int32).toInt := fun q => c12 (Int32.toInt_inj.mp q); have : (v13 : Int32).toInt < (a3 : Int32).toInt := iv_lt.mp (iv_nle c14); have : (v15 : Int32).toInt ≠ (v1 : Int32).toInt := fun q => c16 (Int32.toInt_inj.mp q); have : (v17 : Int32).toInt < (a3 : Int32).toInt := iv_lt.mp (iv_nle c18); have : (v19 : Int32).toInt ≠ (v1 : Int32).toInt := fun q => c20 (Int32.toInt_inj.mp q); have : (v21 : Int32).toInt < (a3 : Int32).toInt := iv_lt.mp (iv_nle c22); have : (v23 : Int32).toInt ≠ (v1 : Int32).toInt := fun q => c24 (Int32.toInt_inj.mp q); have : (v25 : Int32).toInt < (a3 : Int32).toInt := iv_lt.mp (iv_nle c26); have : (v27 : Int32).toInt ≠ (v1 : Int32).toInt := fun q => c28 (Int32.toInt_inj.mp q); have : (v29 : Int32).toInt < (a3 : Int32).toInt := iv_lt.mp (iv_nle c30); have : (v31 : Int32).toInt ≠ (v1 : Int32).toInt := fun q => c32 (Int32.toInt_inj.mp q); have : (v33 : Int32).toInt < (a3 : Int32).toInt := iv_lt.mp (iv_nle c34); have : (v35 : Int32).toInt ≠ (v1 : Int32).toInt := fun q => c36 (Int32.toInt_inj.mp q); have : (a3 : Int32).toInt ≤ (v37 : Int32).toInt := iv_le.mp c38; have : ((-1) : Int32).toInt = (-1) := (by decide); omega))⟩
                                      · --
                                        exact iv_no (iv_lt1 (b' := 8) (iv_nle c38) i37 ia3 (by decide)) (by decide)
                                    · --
                                      refine lv_iload hx hb dJ1_indexOfChar_4cfef_22 (lv_at hl 0 rfl) ?_
                                      rw [← hQ]
                                      exact o_ri cx rx hw dJ1_indexOfChar_4cfef_24 ⟨rfl, (iv_w i33 (by decide)), (by exact (by have := (ia1).1; have := (ia1).2; have := (ia2).1; have := (ia2).2; have := (ia3).1; have := (ia3).2; have := (i33).1; have := (i33).2; have : (a2 : Int32).toInt < (a3 : Int32).toInt := iv_lt.mp (iv_nle c2); have : (v3 : Int32).toInt ≠ (v1 : Int32).toInt := fun q => c4 (Int32.toInt_inj.mp q); have : (v5 : Int32).toInt < (a3 : Int32).toInt := iv_lt.mp (iv_nle c6); have : (v7 : Int32).toInt ≠ (v1 : Int32).toInt := fun q => c8 (Int32.toInt_inj.mp q); have : (v9 : Int32).toInt < (a3 : Int32).toInt := iv_lt.mp (iv_nle c10); have : (v11 : Int32).toInt ≠ (v1 : Int32).toInt := fun q => c12 (Int32.toInt_inj.mp q); have : (v13 : Int32).toInt < (a3 : Int32).toInt := iv_lt.mp (iv_nle c14); have : (v15 : Int32).toInt ≠ (v1 : Int32).toInt := fun q => c16 (Int32.toInt_inj.mp q); have : (v17 : Int32).toInt < (a3 : Int32).toInt := iv_lt.mp (iv_nle c18); have : (v19 : Int32).toInt ≠ (v1 : Int32).toInt := fun q => c20 (Int32.toInt_inj.mp q); have : (v21 : Int32).toInt < (a3 : Int32).toInt := iv_lt.mp (iv_nle c22); have : (v23 : Int32).toInt ≠ (v1 : Int32).toInt := fun q => c24 (Int32.toInt_inj.mp q); have : (v25 : Int32).toInt < (a3 : Int32).toInt := iv_lt.mp (iv_nle c26); have : (v27 : Int32).toInt ≠ (v1 : Int32).toInt := fun q => c28 (Int32.toInt_inj.mp q); have : (v29 : Int32).toInt < (a3 : Int32).toInt := iv_lt.mp (iv_nle c30); have : (v31 : Int32).toInt ≠ (v1 : Int32).toInt := fun q => c32 (Int32.toInt_inj.mp q); have : (v33 : Int32).toInt < (a3 : Int32).toInt := iv_lt.mp (iv_nle c34); have : (v35 : Int32).toInt = (v1 : Int32).toInt := congrArg Int32.toInt c36; omega))⟩
                                · --
                                  refine lv_iload hx hb dJ1_indexOfChar_4cfef_22 (lv_at hl 0 rfl) ?_
                                  rw [← hQ]
                                  exact o_ri cx rx hw dJ1_indexOfChar_4cfef_24 ⟨rfl, (iv_w i29 (by decide)), (by exact (by have := (ia1).1; have := (ia1).2; have := (ia2).1; have := (ia2).2; have := (ia3).1; have := (ia3).2; have := (i29).1; have := (i29).2; have : (a2 : Int32).toInt < (a3 : Int32).toInt := iv_lt.mp (iv_nle c2); have : (v3 : Int32).toInt ≠ (v1 : Int32).toInt := fun q => c4 (Int32.toInt_inj.mp q); have : (v5 : Int32).toInt < (a3 : Int32).toInt := iv_lt.mp (iv_nle c6); have : (v7 : Int32).toInt ≠ (v1 : Int32).toInt := fun q => c8 (Int32.toInt_inj.mp q); have : (v9 : Int32).toInt < (a3 : Int32).toInt := iv_lt.mp (iv_nle c10); have : (v11 : Int32).toInt ≠ (v1 : Int32).toInt := fun q => c12 (Int32.toInt_inj.mp q); have : (v13 : Int32).toInt < (a3 : Int32).toInt := iv_lt.mp (iv_nle c14); have : (v15 : Int32).toInt ≠ (v1 : Int32).toInt := fun q => c16 (Int32.toInt_inj.mp q); have : (v17 : Int32).toInt < (a3 : Int32).toInt := iv_lt.mp (iv_nle c18); have : (v19 : Int32).toInt ≠ (v1 : Int32).toInt := fun q => c20 (Int32.toInt_inj.mp q); have : (v21 : Int32).toInt < (a3 : Int32).toInt := iv_lt.mp (iv_nle c22); have : (v23 : Int32).toInt ≠ (v1 : Int32).toInt := fun q => c24 (Int32.toInt_inj.mp q); have : (v25 : Int32).toInt < (a3 : Int32).toInt := iv_lt.mp (iv_nle c26); have : (v27 : Int32).toInt ≠ (v1 : Int32).toInt := fun q => c28 (Int32.toInt_inj.mp q); have : (v29 : Int32).toInt < (a3 : Int32).toInt := iv_lt.mp (iv_nle c30); have : (v31 : Int32).toInt = (v1 : Int32).toInt := congrArg Int32.toInt c32; omega))⟩
                            · --
                              refine lv_iload hx hb dJ1_indexOfChar_4cfef_22 (lv_at hl 0 rfl) ?_
                              rw [← hQ]
                              exact o_ri cx rx hw dJ1_indexOfChar_4cfef_24 ⟨rfl, (iv_w i25 (by decide)), (by exact (by have := (ia1).1; have := (ia1).2; have := (ia2).1; have := (ia2).2; have := (ia3).1; have := (ia3).2; have := (i25).1; have := (i25).2; have : (a2 : Int32).toInt < (a3 : Int32).toInt := iv_lt.mp (iv_nle c2); have : (v3 : Int32).toInt ≠ (v1 : Int32).toInt := fun q => c4 (Int32.toInt_inj.mp q); have : (v5 : Int32).toInt < (a3 : Int32).toInt := iv_lt.mp (iv_nle c6); have : (v7 : Int32).toInt ≠ (v1 : Int32).toInt := fun q => c8 (Int32.toInt_inj.mp q); have : (v9 : Int32).toInt < (a3 : Int32).toInt := iv_lt.mp (iv_nle c10); have : (v11 : Int32).toInt ≠ (v1 : Int32).toInt := fun q => c12 (Int32.toInt_inj.mp q); have : (v13 : Int32).toInt < (a3 : Int32).toInt := iv_lt.mp (iv_nle c14); have : (v15 : Int32).toInt ≠ (v1 : Int32).toInt := fun q => c16 (Int32.toInt_inj.mp q); have : (v17 : Int32).toInt < (a3 : Int32).toInt := iv_lt.mp (iv_nle c18); have : (v19 : Int32).toInt ≠ (v1 : Int32).toInt := fun q => c20 (Int32.toInt_inj.mp q); have : (v21 : Int32).toInt < (a3 : Int32).toInt := iv_lt.mp (iv_nle c22); have : (v23 : Int32).toInt ≠ (v1 : Int32).toInt := fun q => c24 (Int32.toInt_inj.mp q); have : (v25 : Int32).toInt < (a3 : Int32).toInt := iv_lt.mp (iv_nle c26); have : (v27 : Int32).toInt = (v1 : Int32).toInt := congrArg Int32.toInt c28; omega))⟩
                        · --
                          refine lv_iload hx hb dJ1_indexOfChar_4cfef_22 (lv_at hl 0 rfl) ?_
                          rw [← hQ]
                          exact o_ri cx rx hw dJ1_indexOfChar_4cfef_24 ⟨rfl, (iv_w i21 (by decide)), (by exact (by have := (ia1).1; have := (ia1).2; have := (ia2).1; have := (ia2).2; have := (ia3).1; have := (ia3).2; have := (i21).1; have := (i21).2; have : (a2 : Int32).toInt < (a3 : Int32).toInt := iv_lt.mp (iv_nle c2); have : (v3 : Int32).toInt ≠ (v1 : Int32).toInt := fun q => c4 (Int32.toInt_inj.mp q); have : (v5 : Int32).toInt < (a3 : Int32).toInt := iv_lt.mp (iv_nle c6); have : (v7 : Int32).toInt ≠ (v1 : Int32).toInt := fun q => c8 (Int32.toInt_inj.mp q); have : (v9 : Int32).toInt < (a3 : Int32).toInt := iv_lt.mp (iv_nle c10); have : (v11 : Int32).toInt ≠ (v1 : Int32).toInt := fun q => c12 (Int32.toInt_inj.mp q); have : (v13 : Int32).toInt < (a3 : Int32).toInt := iv_lt.mp (iv_nle c14); have : (v15 : Int32).toInt ≠ (v1 : Int32).toInt := fun q => c16 (Int32.toInt_inj.mp q); have : (v17 : Int32).toInt < (a3 : Int32).toInt := iv_lt.mp (iv_nle c18); have : (v19 : Int32).toInt ≠ (v1 : Int32).toInt := fun q => c20 (Int32.toInt_inj.mp q); have : (v21 : Int32).toInt < (a3 : Int32).toInt := iv_lt.mp (iv_nle c22); have : (v23 : Int32).toInt = (v1 : Int32).toInt := congrArg Int32.toInt c24; omega))⟩
                    · --
                      refine lv_iload hx hb dJ1_indexOfChar_4cfef_22 (lv_at hl 0 rfl) ?_
                      rw [← hQ]
                      exact o_ri cx rx hw dJ1_indexOfChar_4cfef_24 ⟨rfl, (iv_w i17 (by decide)), (by exact (by have := (ia1).1; have := (ia1).2; have := (ia2).1; have := (ia2).2; have := (ia3).1; have := (ia3).2; have := (i17).1; have := (i17).2; have : (a2 : Int32).toInt < (a3 : Int32).toInt := iv_lt.mp (iv_nle c2); have : (v3 : Int32).toInt ≠ (v1 : Int32).toInt := fun q => c4 (Int32.toInt_inj.mp q); have : (v5 : Int32).toInt < (a3 : Int32).toInt := iv_lt.mp (iv_nle c6); have : (v7 : Int32).toInt ≠ (v1 : Int32).toInt := fun q => c8 (Int32.toInt_inj.mp q); have : (v9 : Int32).toInt < (a3 : Int32).toInt := iv_lt.mp (iv_nle c10); have : (v11 : Int32).toInt ≠ (v1 : Int32).toInt := fun q => c12 (Int32.toInt_inj.mp q); have : (v13 : Int32).toInt < (a3 : Int32).toInt := iv_lt.mp (iv_nle c14); have : (v15 : Int32).toInt ≠ (v1 : Int32).toInt := fun q => c16 (Int32.toInt_inj.mp q); have : (v17 : Int32).toInt < (a3 : Int32).toInt := iv_lt.mp (iv_nle c18); have : (v19 : Int32).toInt = (v1 : Int32).toInt := congrArg Int32.toInt c20; omega))⟩
                · --
                  refine lv_iload hx hb dJ1_indexOfChar_4cfef_22 (lv_at hl 0 rfl) ?_
                  rw [← hQ]
                  exact o_ri cx rx hw dJ1_indexOfChar_4cfef_24 ⟨rfl, (iv_w i13 (by decide)), (by exact (by have := (ia1).1; have := (ia1).2; have := (ia2).1; have := (ia2).2; have := (ia3).1; have := (ia3).2; have := (i13).1; have := (i13).2; have : (a2 : Int32).toInt < (a3 : Int32).toInt := iv_lt.mp (iv_nle c2); have : (v3 : Int32).toInt ≠ (v1 : Int32).toInt := fun q => c4 (Int32.toInt_inj.mp q); have : (v5 : Int32).toInt < (a3 : Int32).toInt := iv_lt.mp (iv_nle c6); have : (v7 : Int32).toInt ≠ (v1 : Int32).toInt := fun q => c8 (Int32.toInt_inj.mp q); have : (v9 : Int32).toInt < (a3 : Int32).toInt := iv_lt.mp (iv_nle c10); have : (v11 : Int32).toInt ≠ (v1 : Int32).toInt := fun q => c12 (Int32.toInt_inj.mp q); have : (v13 : Int32).toInt < (a3 : Int32).toInt := iv_lt.mp (iv_nle c14); have : (v15 : Int32).toInt = (v1 : Int32).toInt := congrArg Int32.toInt c16; omega))⟩
            · --
              refine lv_iload hx hb dJ1_indexOfChar_4cfef_22 (lv_at hl 0 rfl) ?_
              rw [← hQ]
              exact o_ri cx rx hw dJ1_indexOfChar_4cfef_24 ⟨rfl, (iv_w i9 (by decide)), (by exact (by have := (ia1).1; have := (ia1).2; have := (ia2).1; have := (ia2).2; have := (ia3).1; have := (ia3).2; have := (i9).1; have := (i9).2; have : (a2 : Int32).toInt < (a3 : Int32).toInt := iv_lt.mp (iv_nle c2); have : (v3 : Int32).toInt ≠ (v1 : Int32).toInt := fun q => c4 (Int32.toInt_inj.mp q); have : (v5 : Int32).toInt < (a3 : Int32).toInt := iv_lt.mp (iv_nle c6); have : (v7 : Int32).toInt ≠ (v1 : Int32).toInt := fun q => c8 (Int32.toInt_inj.mp q); have : (v9 : Int32).toInt < (a3 : Int32).toInt := iv_lt.mp (iv_nle c10); have : (v11 : Int32).toInt = (v1 : Int32).toInt := congrArg Int32.toInt c12; omega))⟩
        · --
          refine lv_iload hx hb dJ1_indexOfChar_4cfef_22 (lv_at hl 0 rfl) ?_
          rw [← hQ]
          exact o_ri cx rx hw dJ1_indexOfChar_4cfef_24 ⟨rfl, (iv_w i5 (by decide)), (by exact (by have := (ia1).1; have := (ia1).2; have := (ia2).1; have := (ia2).2; have := (ia3).1; have := (ia3).2; have := (i5).1; have := (i5).2; have : (a2 : Int32).toInt < (a3 : Int32).toInt := iv_lt.mp (iv_nle c2); have : (v3 : Int32).toInt ≠ (v1 : Int32).toInt := fun q => c4 (Int32.toInt_inj.mp q); have : (v5 : Int32).toInt < (a3 : Int32).toInt := iv_lt.mp (iv_nle c6); have : (v7 : Int32).toInt = (v1 : Int32).toInt := congrArg Int32.toInt c8; omega))⟩
    · --
      refine lv_iload hx hb dJ1_indexOfChar_4cfef_22 (lv_at hl 0 rfl) ?_
      rw [← hQ]
      exact o_ri cx rx hw dJ1_indexOfChar_4cfef_24 ⟨rfl, (iv_w ia2 (by decide)), (by exact (by have := (ia1).1; have := (ia1).2; have := (ia2).1; have := (ia2).2; have := (ia3).1; have := (ia3).2; have : (a2 : Int32).toInt < (a3 : Int32).toInt := iv_lt.mp (iv_nle c2); have : (v3 : Int32).toInt = (v1 : Int32).toInt := congrArg Int32.toInt c4; omega))⟩
set_option maxHeartbeats 4000000 in
set_option maxRecDepth 100000 in
theorem c_J1_indexOfChar_4cfef_2 (a1 : Int32) (ia1 : Iv a1 0 255) (a2 : Int32) (ia2 : Iv a2 0 0) (a3 : Int32) (ia3 : Iv a3 11 11) : oMet l A L τ cy D K yJ1_indexOfChar_4cfef cJ1_indexOfChar_4cfef 6 (some .int) 0 0 [.ref (K.2 2), .int a1, .int a2, .int a3] σ (va_Qi (fun r σ1 => σ1 = σ ∧ Iv r (-1) 10 ∧ ((0 ≤ r.toInt ∧ (a1.toInt = 35 ∨ (48 ≤ a1.toInt ∧ a1.toInt ≤ 57))) ∨ (r.toInt = -1 ∧ ¬ (a1.toInt = 35 ∨ (48 ≤ a1.toInt ∧ a1.toInt ≤ 57))))) (oPo A L τ cy D) A) := by
  refine oMk (by decide) (Nat.le_of_ble_eq_true rfl) rfl ?_
  intro p e s m args below meth c ls cx rx hA hw hl
  generalize hQ : MQ below _ args s 0 0 A = Q
  have hx := cx.1.1
  have hb := cx.1.2.1
  have hml := cx.1.2.2.1
  have hown := cx.1.2.2.2.1
  have hts := cx.1.2.2.2.2
  have hl : lv_has ls 6 [(0, .ref (K.2 2)), (1, .int a1), (2, .int a2), (3, .int a3)] := hl
  refine lv_iload_n hx hb dJ1_indexOfChar_4cfef_0 rfl (lv_at hl 1 rfl) ?_
  refine lv_i2b hx hb dJ1_indexOfChar_4cfef_1 rfl ?_
  refine lv_topi (fun v1 e1 => ?_)
  have b9 := ex_i2b e1 ia1
  refine lv_istore (lv' := [(4, .int v1), (0, .ref (K.2 2)), (1, .int a1), (2, .int a2), (3, .int a3)]) hx hb dJ1_indexOfChar_4cfef_2 hl (by decide) rfl (fun ls hl => ?_)
  refine lv_iload_n hx hb dJ1_indexOfChar_4cfef_4 rfl (lv_at hl 3 rfl) ?_
  refine lv_istore (lv' := [(5, .int a2), (4, .int v1), (0, .ref (K.2 2)), (1, .int a1), (2, .int a2), (3, .int a3)]) hx hb dJ1_indexOfChar_4cfef_5 hl (by decide) rfl (fun ls hl => ?_)
  refine lv_iload hx hb dJ1_indexOfChar_4cfef_7 (lv_at hl 0 rfl) ?_
  refine lv_iload_n hx hb dJ1_indexOfChar_4cfef_9 rfl (lv_at hl 5 rfl) ?_
  refine lv_icmp_ge (tgt := 31) hx hb dJ1_indexOfChar_4cfef_10 (by decide) (fun c2 => ?_) (fun c2 => ?_)
  · --
    exact iv_no (iv_le1 (b' := 10) c2 ia3 ia2 (by decide)) (by decide)
  · --
    refine lv_aload_n hx hb dJ1_indexOfChar_4cfef_13 rfl (lv_at hl 2 rfl) ?_
    refine lv_iload hx hb dJ1_indexOfChar_4cfef_14 (lv_at hl 0 rfl) ?_
    refine va_tb hx hb (cx.2.2.1.1 2 (by decide)).2.2.2 hw.2.2.1 (iv_in ia2 (by decide)) rfl dJ1_indexOfChar_4cfef_16 ?_
    refine lv_topi (fun v3 e3 => ?_)
    refine lv_iload hx hb dJ1_indexOfChar_4cfef_17 (lv_at hl 1 rfl) ?_
    have nv3 : v3.toInt = 48 := by rw [e3, show a2 = 0 from i32_eq (by have : (0 : Int32).toInt = 0 := (by decide); have := (ia1).1; have := (ia1).2; have := (ia2).1; have := (ia2).2; have := (ia3).1; have := (ia3).2; have : (a2 : Int32).toInt < (a3 : Int32).toInt := iv_lt.mp (iv_nle c2); omega)]; decide
    refine lv_icmp_ne (tgt := 25) hx hb dJ1_indexOfChar_4cfef_19 (by decide) (fun c4 => ?_) (fun c4 => ?_)
    · --
      obtain ⟨v5, e5⟩ : ∃ y : Int32, y = a2 + 1 := ⟨_, rfl⟩
      have i5 : Iv v5 1 1 := iv_add e5 ia2 (⟨by decide, by decide⟩ : Iv 1 1 1) (by decide)
      have x5 : v5.toInt = a2.toInt + 1 := ex_add e5 ia2 (⟨by decide, by decide⟩ : Iv 1 1 1) (by decide)
      refine lv_iinc (v := v5) (lv' := [(5, .int v5), (4, .int v1), (0, .ref (K.2 2)), (1, .int a1), (2, .int a2), (3, .int a3)]) hx hb dJ1_indexOfChar_4cfef_25 hl (k := 0) rfl (by rw [e5]; rfl) (by decide) rfl (fun ls hl => ?_)
      refine lv_goto (tgt := 7) hx hb dJ1_indexOfChar_4cfef_28 (by decide) ?_
      refine lv_iload hx hb dJ1_indexOfChar_4cfef_7 (lv_at hl 0 rfl) ?_
      refine lv_iload_n hx hb dJ1_indexOfChar_4cfef_9 rfl (lv_at hl 5 rfl) ?_
      refine lv_icmp_ge (tgt := 31) hx hb dJ1_indexOfChar_4cfef_10 (by decide) (fun c6 => ?_) (fun c6 => ?_)
      · --
        exact iv_no (iv_le1 (b' := 10) c6 ia3 i5 (by decide)) (by decide)
      · --
        refine lv_aload_n hx hb dJ1_indexOfChar_4cfef_13 rfl (lv_at hl 2 rfl) ?_
        refine lv_iload hx hb dJ1_indexOfChar_4cfef_14 (lv_at hl 0 rfl) ?_
        refine va_tb hx hb (cx.2.2.1.1 2 (by decide)).2.2.2 hw.2.2.1 (iv_in i5 (by decide)) rfl dJ1_indexOfChar_4cfef_16 ?_
        refine lv_topi (fun v7 e7 => ?_)
        refine lv_iload hx hb dJ1_indexOfChar_4cfef_17 (lv_at hl 1 rfl) ?_
        have nv7 : v7.toInt = 49 := by rw [e7, show v5 = 1 from i32_eq (by have : (1 : Int32).toInt = 1 := (by decide); have := (ia1).1; have := (ia1).2; have := (ia2).1; have := (ia2).2; have := (ia3).1; have := (ia3).2; have := (i5).1; have := (i5).2; have : (a2 : Int32).toInt < (a3 : Int32).toInt := iv_lt.mp (iv_nle c2); have : (v3 : Int32).toInt ≠ (v1 : Int32).toInt := fun q => c4 (Int32.toInt_inj.mp q); have : (v5 : Int32).toInt < (a3 : Int32).toInt := iv_lt.mp (iv_nle c6); omega)]; decide
        refine lv_icmp_ne (tgt := 25) hx hb dJ1_indexOfChar_4cfef_19 (by decide) (fun c8 => ?_) (fun c8 => ?_)
        · --
          obtain ⟨v9, e9⟩ : ∃ y : Int32, y = v5 + 1 := ⟨_, rfl⟩
          have i9 : Iv v9 2 2 := iv_add e9 i5 (⟨by decide, by decide⟩ : Iv 1 1 1) (by decide)
          have x9 : v9.toInt = v5.toInt + 1 := ex_add e9 i5 (⟨by decide, by decide⟩ : Iv 1 1 1) (by decide)
          have y9 : v9.toInt = a2.toInt + 2 := by rw [x9, x5]; omega
          refine lv_iinc (v := v9) (lv' := [(5, .int v9), (4, .int v1), (0, .ref (K.2 2)), (1, .int a1), (2, .int a2), (3, .int a3)]) hx hb dJ1_indexOfChar_4cfef_25 hl (k := 0) rfl (by rw [e9]; rfl) (by decide) rfl (fun ls hl => ?_)
          refine lv_goto (tgt := 7) hx hb dJ1_indexOfChar_4cfef_28 (by decide) ?_
          refine lv_iload hx hb dJ1_indexOfChar_4cfef_7 (lv_at hl 0 rfl) ?_
          refine lv_iload_n hx hb dJ1_indexOfChar_4cfef_9 rfl (lv_at hl 5 rfl) ?_
          refine lv_icmp_ge (tgt := 31) hx hb dJ1_indexOfChar_4cfef_10 (by decide) (fun c10 => ?_) (fun c10 => ?_)
          · --
            exact iv_no (iv_le1 (b' := 10) c10 ia3 i9 (by decide)) (by decide)
          · --
            refine lv_aload_n hx hb dJ1_indexOfChar_4cfef_13 rfl (lv_at hl 2 rfl) ?_
            refine lv_iload hx hb dJ1_indexOfChar_4cfef_14 (lv_at hl 0 rfl) ?_
            refine va_tb hx hb (cx.2.2.1.1 2 (by decide)).2.2.2 hw.2.2.1 (iv_in i9 (by decide)) rfl dJ1_indexOfChar_4cfef_16 ?_
            refine lv_topi (fun v11 e11 => ?_)
            refine lv_iload hx hb dJ1_indexOfChar_4cfef_17 (lv_at hl 1 rfl) ?_
            have nv11 : v11.toInt = 50 := by rw [e11, show v9 = 2 from i32_eq (by have : (2 : Int32).toInt = 2 := (by decide); have := (ia1).1; have := (ia1).2; have := (ia2).1; have := (ia2).2; have := (ia3).1; have := (ia3).2; have := (i9).1; have := (i9).2; have : (a2 : Int32).toInt < (a3 : Int32).toInt := iv_lt.mp (iv_nle c2); have : (v3 : Int32).toInt ≠ (v1 : Int32).toInt := fun q => c4 (Int32.toInt_inj.mp q); have : (v5 : Int32).toInt < (a3 : Int32).toInt := iv_lt.mp (iv_nle c6); have : (v7 : Int32).toInt ≠ (v1 : Int32).toInt := fun q => c8 (Int32.toInt_inj.mp q); have : (v9 : Int32).toInt < (a3 : Int32).toInt := iv_lt.mp (iv_nle c10); omega)]; decide
            refine lv_icmp_ne (tgt := 25) hx hb dJ1_indexOfChar_4cfef_19 (by decide) (fun c12 => ?_) (fun c12 => ?_)
            · --
              obtain ⟨v13, e13⟩ : ∃ y : Int32, y = v9 + 1 := ⟨_, rfl⟩
              have i13 : Iv v13 3 3 := iv_add e13 i9 (⟨by decide, by decide⟩ : Iv 1 1 1) (by decide)
              have x13 : v13.toInt = v9.toInt + 1 := ex_add e13 i9 (⟨by decide, by decide⟩ : Iv 1 1 1) (by decide)
              have y13 : v13.toInt = a2.toInt + 3 := by rw [x13, y9]; omega
              refine lv_iinc (v := v13) (lv' := [(5, .int v13), (4, .int v1), (0, .ref (K.2 2)), (1, .int a1), (2, .int a2), (3, .int a3)]) hx hb dJ1_indexOfChar_4cfef_25 hl (k := 0) rfl (by rw [e13]; rfl) (by decide) rfl (fun ls hl => ?_)
              refine lv_goto (tgt := 7) hx hb dJ1_indexOfChar_4cfef_28 (by decide) ?_
              refine lv_iload hx hb dJ1_indexOfChar_4cfef_7 (lv_at hl 0 rfl) ?_
              refine lv_iload_n hx hb dJ1_indexOfChar_4cfef_9 rfl (lv_at hl 5 rfl) ?_
              refine lv_icmp_ge (tgt := 31) hx hb dJ1_indexOfChar_4cfef_10 (by decide) (fun c14 => ?_) (fun c14 => ?_)
              · --
                exact iv_no (iv_le1 (b' := 10) c14 ia3 i13 (by decide)) (by decide)
              · --
                refine lv_aload_n hx hb dJ1_indexOfChar_4cfef_13 rfl (lv_at hl 2 rfl) ?_
                refine lv_iload hx hb dJ1_indexOfChar_4cfef_14 (lv_at hl 0 rfl) ?_
                refine va_tb hx hb (cx.2.2.1.1 2 (by decide)).2.2.2 hw.2.2.1 (iv_in i13 (by decide)) rfl dJ1_indexOfChar_4cfef_16 ?_
                refine lv_topi (fun v15 e15 => ?_)
                refine lv_iload hx hb dJ1_indexOfChar_4cfef_17 (lv_at hl 1 rfl) ?_
                have nv15 : v15.toInt = 51 := by rw [e15, show v13 = 3 from i32_eq (by have : (3 : Int32).toInt = 3 := (by decide); have := (ia1).1; have := (ia1).2; have := (ia2).1; have := (ia2).2; have := (ia3).1; have := (ia3).2; have := (i13).1; have := (i13).2; have : (a2 : Int32).toInt < (a3 : Int32).toInt := iv_lt.mp (iv_nle c2); have : (v3 : Int32).toInt ≠ (v1 : Int32).toInt := fun q => c4 (Int32.toInt_inj.mp q); have : (v5 : Int32).toInt < (a3 : Int32).toInt := iv_lt.mp (iv_nle c6); have : (v7 : Int32).toInt ≠ (v1 : Int32).toInt := fun q => c8 (Int32.toInt_inj.mp q); have : (v9 : Int32).toInt < (a3 : Int32).toInt := iv_lt.mp (iv_nle c10); have : (v11 : Int32).toInt ≠ (v1 : Int32).toInt := fun q => c12 (Int32.toInt_inj.mp q); have : (v13 : Int32).toInt < (a3 : Int32).toInt := iv_lt.mp (iv_nle c14); omega)]; decide
                refine lv_icmp_ne (tgt := 25) hx hb dJ1_indexOfChar_4cfef_19 (by decide) (fun c16 => ?_) (fun c16 => ?_)
                · --
                  obtain ⟨v17, e17⟩ : ∃ y : Int32, y = v13 + 1 := ⟨_, rfl⟩
                  have i17 : Iv v17 4 4 := iv_add e17 i13 (⟨by decide, by decide⟩ : Iv 1 1 1) (by decide)
                  have x17 : v17.toInt = v13.toInt + 1 := ex_add e17 i13 (⟨by decide, by decide⟩ : Iv 1 1 1) (by decide)
                  have y17 : v17.toInt = a2.toInt + 4 := by rw [x17, y13]; omega
                  refine lv_iinc (v := v17) (lv' := [(5, .int v17), (4, .int v1), (0, .ref (K.2 2)), (1, .int a1), (2, .int a2), (3, .int a3)]) hx hb dJ1_indexOfChar_4cfef_25 hl (k := 0) rfl (by rw [e17]; rfl) (by decide) rfl (fun ls hl => ?_)
                  refine lv_goto (tgt := 7) hx hb dJ1_indexOfChar_4cfef_28 (by decide) ?_
                  refine lv_iload hx hb dJ1_indexOfChar_4cfef_7 (lv_at hl 0 rfl) ?_
                  refine lv_iload_n hx hb dJ1_indexOfChar_4cfef_9 rfl (lv_at hl 5 rfl) ?_
                  refine lv_icmp_ge (tgt := 31) hx hb dJ1_indexOfChar_4cfef_10 (by decide) (fun c18 => ?_) (fun c18 => ?_)
                  · --
                    exact iv_no (iv_le1 (b' := 10) c18 ia3 i17 (by decide)) (by decide)
                  · --
                    refine lv_aload_n hx hb dJ1_indexOfChar_4cfef_13 rfl (lv_at hl 2 rfl) ?_
                    refine lv_iload hx hb dJ1_indexOfChar_4cfef_14 (lv_at hl 0 rfl) ?_
                    refine va_tb hx hb (cx.2.2.1.1 2 (by decide)).2.2.2 hw.2.2.1 (iv_in i17 (by decide)) rfl dJ1_indexOfChar_4cfef_16 ?_
                    refine lv_topi (fun v19 e19 => ?_)
                    refine lv_iload hx hb dJ1_indexOfChar_4cfef_17 (lv_at hl 1 rfl) ?_
                    have nv19 : v19.toInt = 52 := by rw [e19, show v17 = 4 from i32_eq (by have : (4 : Int32).toInt = 4 := (by decide); have := (ia1).1; have := (ia1).2; have := (ia2).1; have := (ia2).2; have := (ia3).1; have := (ia3).2; have := (i17).1; have := (i17).2; have : (a2 : Int32).toInt < (a3 : Int32).toInt := iv_lt.mp (iv_nle c2); have : (v3 : Int32).toInt ≠ (v1 : Int32).toInt := fun q => c4 (Int32.toInt_inj.mp q); have : (v5 : Int32).toInt < (a3 : Int32).toInt := iv_lt.mp (iv_nle c6); have : (v7 : Int32).toInt ≠ (v1 : Int32).toInt := fun q => c8 (Int32.toInt_inj.mp q); have : (v9 : Int32).toInt < (a3 : Int32).toInt := iv_lt.mp (iv_nle c10); have : (v11 : Int32).toInt ≠ (v1 : Int32).toInt := fun q => c12 (Int32.toInt_inj.mp q); have : (v13 : Int32).toInt < (a3 : Int32).toInt := iv_lt.mp (iv_nle c14); have : (v15 : Int32).toInt ≠ (v1 : Int32).toInt := fun q => c16 (Int32.toInt_inj.mp q); have : (v17 : Int32).toInt < (a3 : Int32).toInt := iv_lt.mp (iv_nle c18); omega)]; decide
                    refine lv_icmp_ne (tgt := 25) hx hb dJ1_indexOfChar_4cfef_19 (by decide) (fun c20 => ?_) (fun c20 => ?_)
                    · --
                      obtain ⟨v21, e21⟩ : ∃ y : Int32, y = v17 + 1 := ⟨_, rfl⟩
                      have i21 : Iv v21 5 5 := iv_add e21 i17 (⟨by decide, by decide⟩ : Iv 1 1 1) (by decide)
                      have x21 : v21.toInt = v17.toInt + 1 := ex_add e21 i17 (⟨by decide, by decide⟩ : Iv 1 1 1) (by decide)
                      have y21 : v21.toInt = a2.toInt + 5 := by rw [x21, y17]; omega
                      refine lv_iinc (v := v21) (lv' := [(5, .int v21), (4, .int v1), (0, .ref (K.2 2)), (1, .int a1), (2, .int a2), (3, .int a3)]) hx hb dJ1_indexOfChar_4cfef_25 hl (k := 0) rfl (by rw [e21]; rfl) (by decide) rfl (fun ls hl => ?_)
                      refine lv_goto (tgt := 7) hx hb dJ1_indexOfChar_4cfef_28 (by decide) ?_
                      refine lv_iload hx hb dJ1_indexOfChar_4cfef_7 (lv_at hl 0 rfl) ?_
                      refine lv_iload_n hx hb dJ1_indexOfChar_4cfef_9 rfl (lv_at hl 5 rfl) ?_
                      refine lv_icmp_ge (tgt := 31) hx hb dJ1_indexOfChar_4cfef_10 (by decide) (fun c22 => ?_) (fun c22 => ?_)
                      · --
                        exact iv_no (iv_le1 (b' := 10) c22 ia3 i21 (by decide)) (by decide)
                      · --
                        refine lv_aload_n hx hb dJ1_indexOfChar_4cfef_13 rfl (lv_at hl 2 rfl) ?_
                        refine lv_iload hx hb dJ1_indexOfChar_4cfef_14 (lv_at hl 0 rfl) ?_
                        refine va_tb hx hb (cx.2.2.1.1 2 (by decide)).2.2.2 hw.2.2.1 (iv_in i21 (by decide)) rfl dJ1_indexOfChar_4cfef_16 ?_
                        refine lv_topi (fun v23 e23 => ?_)
                        refine lv_iload hx hb dJ1_indexOfChar_4cfef_17 (lv_at hl 1 rfl) ?_
                        have nv23 : v23.toInt = 53 := by rw [e23, show v21 = 5 from i32_eq (by have : (5 : Int32).toInt = 5 := (by decide); have := (ia1).1; have := (ia1).2; have := (ia2).1; have := (ia2).2; have := (ia3).1; have := (ia3).2; have := (i21).1; have := (i21).2; have : (a2 : Int32).toInt < (a3 : Int32).toInt := iv_lt.mp (iv_nle c2); have : (v3 : Int32).toInt ≠ (v1 : Int32).toInt := fun q => c4 (Int32.toInt_inj.mp q); have : (v5 : Int32).toInt < (a3 : Int32).toInt := iv_lt.mp (iv_nle c6); have : (v7 : Int32).toInt ≠ (v1 : Int32).toInt := fun q => c8 (Int32.toInt_inj.mp q); have : (v9 : Int32).toInt < (a3 : Int32).toInt := iv_lt.mp (iv_nle c10); have : (v11 : Int32).toInt ≠ (v1 : Int32).toInt := fun q => c12 (Int32.toInt_inj.mp q); have : (v13 : Int32).toInt < (a3 : Int32).toInt := iv_lt.mp (iv_nle c14); have : (v15 : Int32).toInt ≠ (v1 : Int32).toInt := fun q => c16 (Int32.toInt_inj.mp q); have : (v17 : Int32).toInt < (a3 : Int32).toInt := iv_lt.mp (iv_nle c18); have : (v19 : Int32).toInt ≠ (v1 : Int32).toInt := fun q => c20 (Int32.toInt_inj.mp q); have : (v21 : Int32).toInt < (a3 : Int32).toInt := iv_lt.mp (iv_nle c22); omega)]; decide
                        refine lv_icmp_ne (tgt := 25) hx hb dJ1_indexOfChar_4cfef_19 (by decide) (fun c24 => ?_) (fun c24 => ?_)
                        · --
                          obtain ⟨v25, e25⟩ : ∃ y : Int32, y = v21 + 1 := ⟨_, rfl⟩
                          have i25 : Iv v25 6 6 := iv_add e25 i21 (⟨by decide, by decide⟩ : Iv 1 1 1) (by decide)
                          have x25 : v25.toInt = v21.toInt + 1 := ex_add e25 i21 (⟨by decide, by decide⟩ : Iv 1 1 1) (by decide)
                          have y25 : v25.toInt = a2.toInt + 6 := by rw [x25, y21]; omega
                          refine lv_iinc (v := v25) (lv' := [(5, .int v25), (4, .int v1), (0, .ref (K.2 2)), (1, .int a1), (2, .int a2), (3, .int a3)]) hx hb dJ1_indexOfChar_4cfef_25 hl (k := 0) rfl (by rw [e25]; rfl) (by decide) rfl (fun ls hl => ?_)
                          refine lv_goto (tgt := 7) hx hb dJ1_indexOfChar_4cfef_28 (by decide) ?_
                          refine lv_iload hx hb dJ1_indexOfChar_4cfef_7 (lv_at hl 0 rfl) ?_
                          refine lv_iload_n hx hb dJ1_indexOfChar_4cfef_9 rfl (lv_at hl 5 rfl) ?_
                          refine lv_icmp_ge (tgt := 31) hx hb dJ1_indexOfChar_4cfef_10 (by decide) (fun c26 => ?_) (fun c26 => ?_)
                          · --
                            exact iv_no (iv_le1 (b' := 10) c26 ia3 i25 (by decide)) (by decide)
                          · --
                            refine lv_aload_n hx hb dJ1_indexOfChar_4cfef_13 rfl (lv_at hl 2 rfl) ?_
                            refine lv_iload hx hb dJ1_indexOfChar_4cfef_14 (lv_at hl 0 rfl) ?_
                            refine va_tb hx hb (cx.2.2.1.1 2 (by decide)).2.2.2 hw.2.2.1 (iv_in i25 (by decide)) rfl dJ1_indexOfChar_4cfef_16 ?_
                            refine lv_topi (fun v27 e27 => ?_)
                            refine lv_iload hx hb dJ1_indexOfChar_4cfef_17 (lv_at hl 1 rfl) ?_
                            have nv27 : v27.toInt = 54 := by rw [e27, show v25 = 6 from i32_eq (by have : (6 : Int32).toInt = 6 := (by decide); have := (ia1).1; have := (ia1).2; have := (ia2).1; have := (ia2).2; have := (ia3).1; have := (ia3).2; have := (i25).1; have := (i25).2; have : (a2 : Int32).toInt < (a3 : Int32).toInt := iv_lt.mp (iv_nle c2); have : (v3 : Int32).toInt ≠ (v1 : Int32).toInt := fun q => c4 (Int32.toInt_inj.mp q); have : (v5 : Int32).toInt < (a3 : Int32).toInt := iv_lt.mp (iv_nle c6); have : (v7 : Int32).toInt ≠ (v1 : Int32).toInt := fun q => c8 (Int32.toInt_inj.mp q); have : (v9 : Int32).toInt < (a3 : Int32).toInt := iv_lt.mp (iv_nle c10); have : (v11 : Int32).toInt ≠ (v1 : Int32).toInt := fun q => c12 (Int32.toInt_inj.mp q); have : (v13 : Int32).toInt < (a3 : Int32).toInt := iv_lt.mp (iv_nle c14); have : (v15 : Int32).toInt ≠ (v1 : Int32).toInt := fun q => c16 (Int32.toInt_inj.mp q); have : (v17 : Int32).toInt < (a3 : Int32).toInt := iv_lt.mp (iv_nle c18); have : (v19 : Int32).toInt ≠ (v1 : Int32).toInt := fun q => c20 (Int32.toInt_inj.mp q); have : (v21 : Int32).toInt < (a3 : Int32).toInt := iv_lt.mp (iv_nle c22); have : (v23 : Int32).toInt ≠ (v1 : Int32).toInt := fun q => c24 (Int32.toInt_inj.mp q); have : (v25 : Int32).toInt < (a3 : Int32).toInt := iv_lt.mp (iv_nle c26); omega)]; decide
                            refine lv_icmp_ne (tgt := 25) hx hb dJ1_indexOfChar_4cfef_19 (by decide) (fun c28 => ?_) (fun c28 => ?_)
                            · --
                              obtain ⟨v29, e29⟩ : ∃ y : Int32, y = v25 + 1 := ⟨_, rfl⟩
                              have i29 : Iv v29 7 7 := iv_add e29 i25 (⟨by decide, by decide⟩ : Iv 1 1 1) (by decide)
                              have x29 : v29.toInt = v25.toInt + 1 := ex_add e29 i25 (⟨by decide, by decide⟩ : Iv 1 1 1) (by decide)
                              have y29 : v29.toInt = a2.toInt + 7 := by rw [x29, y25]; omega
                              refine lv_iinc (v := v29) (lv' := [(5, .int v29), (4, .int v1), (0, .ref (K.2 2)), (1, .int a1), (2, .int a2), (3, .int a3)]) hx hb dJ1_indexOfChar_4cfef_25 hl (k := 0) rfl (by rw [e29]; rfl) (by decide) rfl (fun ls hl => ?_)
                              refine lv_goto (tgt := 7) hx hb dJ1_indexOfChar_4cfef_28 (by decide) ?_
                              refine lv_iload hx hb dJ1_indexOfChar_4cfef_7 (lv_at hl 0 rfl) ?_
                              refine lv_iload_n hx hb dJ1_indexOfChar_4cfef_9 rfl (lv_at hl 5 rfl) ?_
                              refine lv_icmp_ge (tgt := 31) hx hb dJ1_indexOfChar_4cfef_10 (by decide) (fun c30 => ?_) (fun c30 => ?_)
                              · --
                                exact iv_no (iv_le1 (b' := 10) c30 ia3 i29 (by decide)) (by decide)
                              · --
                                refine lv_aload_n hx hb dJ1_indexOfChar_4cfef_13 rfl (lv_at hl 2 rfl) ?_
                                refine lv_iload hx hb dJ1_indexOfChar_4cfef_14 (lv_at hl 0 rfl) ?_
                                refine va_tb hx hb (cx.2.2.1.1 2 (by decide)).2.2.2 hw.2.2.1 (iv_in i29 (by decide)) rfl dJ1_indexOfChar_4cfef_16 ?_
                                refine lv_topi (fun v31 e31 => ?_)
                                refine lv_iload hx hb dJ1_indexOfChar_4cfef_17 (lv_at hl 1 rfl) ?_
                                have nv31 : v31.toInt = 55 := by rw [e31, show v29 = 7 from i32_eq (by have : (7 : Int32).toInt = 7 := (by decide); have := (ia1).1; have := (ia1).2; have := (ia2).1; have := (ia2).2; have := (ia3).1; have := (ia3).2; have := (i29).1; have := (i29).2; have : (a2 : Int32).toInt < (a3 : Int32).toInt := iv_lt.mp (iv_nle c2); have : (v3 : Int32).toInt ≠ (v1 : Int32).toInt := fun q => c4 (Int32.toInt_inj.mp q); have : (v5 : Int32).toInt < (a3 : Int32).toInt := iv_lt.mp (iv_nle c6); have : (v7 : Int32).toInt ≠ (v1 : Int32).toInt := fun q => c8 (Int32.toInt_inj.mp q); have : (v9 : Int32).toInt < (a3 : Int32).toInt := iv_lt.mp (iv_nle c10); have : (v11 : Int32).toInt ≠ (v1 : Int32).toInt := fun q => c12 (Int32.toInt_inj.mp q); have : (v13 : Int32).toInt < (a3 : Int32).toInt := iv_lt.mp (iv_nle c14); have : (v15 : Int32).toInt ≠ (v1 : Int32).toInt := fun q => c16 (Int32.toInt_inj.mp q); have : (v17 : Int32).toInt < (a3 : Int32).toInt := iv_lt.mp (iv_nle c18); have : (v19 : Int32).toInt ≠ (v1 : Int32).toInt := fun q => c20 (Int32.toInt_inj.mp q); have : (v21 : Int32).toInt < (a3 : Int32).toInt := iv_lt.mp (iv_nle c22); have : (v23 : Int32).toInt ≠ (v1 : Int32).toInt := fun q => c24 (Int32.toInt_inj.mp q); have : (v25 : Int32).toInt < (a3 : Int32).toInt := iv_lt.mp (iv_nle c26); have : (v27 : Int32).toInt ≠ (v1 : Int32).toInt := fun q => c28 (Int32.toInt_inj.mp q); have : (v29 : Int32).toInt < (a3 : Int32).toInt := iv_lt.mp (iv_nle c30); omega)]; decide
                                refine lv_icmp_ne (tgt := 25) hx hb dJ1_indexOfChar_4cfef_19 (by decide) (fun c32 => ?_) (fun c32 => ?_)
                                · --
                                  obtain ⟨v33, e33⟩ : ∃ y : Int32, y = v29 + 1 := ⟨_, rfl⟩
                                  have i33 : Iv v33 8 8 := iv_add e33 i29 (⟨by decide, by decide⟩ : Iv 1 1 1) (by decide)
                                  have x33 : v33.toInt = v29.toInt + 1 := ex_add e33 i29 (⟨by decide, by decide⟩ : Iv 1 1 1) (by decide)
                                  have y33 : v33.toInt = a2.toInt + 8 := by rw [x33, y29]; omega
                                  refine lv_iinc (v := v33) (lv' := [(5, .int v33), (4, .int v1), (0, .ref (K.2 2)), (1, .int a1), (2, .int a2), (3, .int a3)]) hx hb dJ1_indexOfChar_4cfef_25 hl (k := 0) rfl (by rw [e33]; rfl) (by decide) rfl (fun ls hl => ?_)
                                  refine lv_goto (tgt := 7) hx hb dJ1_indexOfChar_4cfef_28 (by decide) ?_
                                  refine lv_iload hx hb dJ1_indexOfChar_4cfef_7 (lv_at hl 0 rfl) ?_
                                  refine lv_iload_n hx hb dJ1_indexOfChar_4cfef_9 rfl (lv_at hl 5 rfl) ?_
                                  refine lv_icmp_ge (tgt := 31) hx hb dJ1_indexOfChar_4cfef_10 (by decide) (fun c34 => ?_) (fun c34 => ?_)
                                  · --
                                    exact iv_no (iv_le1 (b' := 10) c34 ia3 i33 (by decide)) (by decide)
                                  · --
                                    refine lv_aload_n hx hb dJ1_indexOfChar_4cfef_13 rfl (lv_at hl 2 rfl) ?_
                                    refine lv_iload hx hb dJ1_indexOfChar_4cfef_14 (lv_at hl 0 rfl) ?_
                                    refine va_tb hx hb (cx.2.2.1.1 2 (by decide)).2.2.2 hw.2.2.1 (iv_in i33 (by decide)) rfl dJ1_indexOfChar_4cfef_16 ?_
                                    refine lv_topi (fun v35 e35 => ?_)
                                    refine lv_iload hx hb dJ1_indexOfChar_4cfef_17 (lv_at hl 1 rfl) ?_
                                    have nv35 : v35.toInt = 56 := by rw [e35, show v33 = 8 from i32_eq (by have : (8 : Int32).toInt = 8 := (by decide); have := (ia1).1; have := (ia1).2; have := (ia2).1; have := (ia2).2; have := (ia3).1; have := (ia3).2; have := (i33).1; have := (i33).2; have : (a2 : Int32).toInt < (a3 : Int32).toInt := iv_lt.mp (iv_nle c2); have : (v3 : Int32).toInt ≠ (v1 : Int32).toInt := fun q => c4 (Int32.toInt_inj.mp q); have : (v5 : Int32).toInt < (a3 : Int32).toInt := iv_lt.mp (iv_nle c6); have : (v7 : Int32).toInt ≠ (v1 : Int32).toInt := fun q => c8 (Int32.toInt_inj.mp q); have : (v9 : Int32).toInt < (a3 : Int32).toInt := iv_lt.mp (iv_nle c10); have : (v11 : Int32).toInt ≠ (v1 : Int32).toInt := fun q => c12 (Int32.toInt_inj.mp q); have : (v13 : Int32).toInt < (a3 : Int32).toInt := iv_lt.mp (iv_nle c14); have : (v15 : Int32).toInt ≠ (v1 : Int32).toInt := fun q => c16 (Int32.toInt_inj.mp q); have : (v17 : Int32).toInt < (a3 : Int32).toInt := iv_lt.mp (iv_nle c18); have : (v19 : Int32).toInt ≠ (v1 : Int32).toInt := fun q => c20 (Int32.toInt_inj.mp q); have : (v21 : Int32).toInt < (a3 : Int32).toInt := iv_lt.mp (iv_nle c22); have : (v23 : Int32).toInt ≠ (v1 : Int32).toInt := fun q => c24 (Int32.toInt_inj.mp q); have : (v25 : Int32).toInt < (a3 : Int32).toInt := iv_lt.mp (iv_nle c26); have : (v27 : Int32).toInt ≠ (v1 : Int32).toInt := fun q => c28 (Int32.toInt_inj.mp q); have : (v29 : Int32).toInt < (a3 : Int32).toInt := iv_lt.mp (iv_nle c30); have : (v31 : Int32).toInt ≠ (v1 : Int32).toInt := fun q => c32 (Int32.toInt_inj.mp q); have : (v33 : Int32).toInt < (a3 : Int32).toInt := iv_lt.mp (iv_nle c34); omega)]; decide
                                    refine lv_icmp_ne (tgt := 25) hx hb dJ1_indexOfChar_4cfef_19 (by decide) (fun c36 => ?_) (fun c36 => ?_)
                                    · --
                                      obtain ⟨v37, e37⟩ : ∃ y : Int32, y = v33 + 1 := ⟨_, rfl⟩
                                      have i37 : Iv v37 9 9 := iv_add e37 i33 (⟨by decide, by decide⟩ : Iv 1 1 1) (by decide)
                                      have x37 : v37.toInt = v33.toInt + 1 := ex_add e37 i33 (⟨by decide, by decide⟩ : Iv 1 1 1) (by decide)
                                      have y37 : v37.toInt = a2.toInt + 9 := by rw [x37, y33]; omega
                                      refine lv_iinc (v := v37) (lv' := [(5, .int v37), (4, .int v1), (0, .ref (K.2 2)), (1, .int a1), (2, .int a2), (3, .int a3)]) hx hb dJ1_indexOfChar_4cfef_25 hl (k := 0) rfl (by rw [e37]; rfl) (by decide) rfl (fun ls hl => ?_)
                                      refine lv_goto (tgt := 7) hx hb dJ1_indexOfChar_4cfef_28 (by decide) ?_
                                      refine lv_iload hx hb dJ1_indexOfChar_4cfef_7 (lv_at hl 0 rfl) ?_
                                      refine lv_iload_n hx hb dJ1_indexOfChar_4cfef_9 rfl (lv_at hl 5 rfl) ?_
                                      refine lv_icmp_ge (tgt := 31) hx hb dJ1_indexOfChar_4cfef_10 (by decide) (fun c38 => ?_) (fun c38 => ?_)
                                      · --
                                        exact iv_no (iv_le1 (b' := 10) c38 ia3 i37 (by decide)) (by decide)
                                      · --
                                        refine lv_aload_n hx hb dJ1_indexOfChar_4cfef_13 rfl (lv_at hl 2 rfl) ?_
                                        refine lv_iload hx hb dJ1_indexOfChar_4cfef_14 (lv_at hl 0 rfl) ?_
                                        refine va_tb hx hb (cx.2.2.1.1 2 (by decide)).2.2.2 hw.2.2.1 (iv_in i37 (by decide)) rfl dJ1_indexOfChar_4cfef_16 ?_
                                        refine lv_topi (fun v39 e39 => ?_)
                                        refine lv_iload hx hb dJ1_indexOfChar_4cfef_17 (lv_at hl 1 rfl) ?_
                                        have nv39 : v39.toInt = 57 := by rw [e39, show v37 = 9 from i32_eq (by have : (9 : Int32).toInt = 9 := (by decide); have := (ia1).1; have := (ia1).2; have := (ia2).1; have := (ia2).2; have := (ia3).1; have := (ia3).2; have := (i37).1; have := (i37).2; have : (a2 : Int32).toInt < (a3 : Int32).toInt := iv_lt.mp (iv_nle c2); have : (v3 : Int32).toInt ≠ (v1 : Int32).toInt := fun q => c4 (Int32.toInt_inj.mp q); have : (v5 : Int32).toInt < (a3 : Int32).toInt := iv_lt.mp (iv_nle c6); have : (v7 : Int32).toInt ≠ (v1 : Int32).toInt := fun q => c8 (Int32.toInt_inj.mp q); have : (v9 : Int32).toInt < (a3 : Int32).toInt := iv_lt.mp (iv_nle c10); have : (v11 : Int32).toInt ≠ (v1 : Int32).toInt := fun q => c12 (Int32.toInt_inj.mp q); have : (v13 : Int32).toInt < (a3 : Int32).toInt := iv_lt.mp (iv_nle c14); have : (v15 : Int32).toInt ≠ (v1 : Int32).toInt := fun q => c16 (Int32.toInt_inj.mp q); have : (v17 : Int32).toInt < (a3 : Int32).toInt := iv_lt.mp (iv_nle c18); have : (v19 : Int32).toInt ≠ (v1 : Int32).toInt := fun q => c20 (Int32.toInt_inj.mp q); have : (v21 : Int32).toInt < (a3 : Int32).toInt := iv_lt.mp (iv_nle c22); have : (v23 : Int32).toInt ≠ (v1 : Int32).toInt := fun q => c24 (Int32.toInt_inj.mp q); have : (v25 : Int32).toInt < (a3 : Int32).toInt := iv_lt.mp (iv_nle c26); have : (v27 : Int32).toInt ≠ (v1 : Int32).toInt := fun q => c28 (Int32.toInt_inj.mp q); have : (v29 : Int32).toInt < (a3 : Int32).toInt := iv_lt.mp (iv_nle c30); have : (v31 : Int32).toInt ≠ (v1 : Int32).toInt := fun q => c32 (Int32.toInt_inj.mp q); have : (v33 : Int32).toInt < (a3 : Int32).toInt := iv_lt.mp (iv_nle c34); have : (v35 : Int32).toInt ≠ (v1 : Int32).toInt := fun q => c36 (Int32.toInt_inj.mp q); have : (v37 : Int32).toInt < (a3 : Int32).toInt := iv_lt.mp (iv_nle c38); omega)]; decide
                                        refine lv_icmp_ne (tgt := 25) hx hb dJ1_indexOfChar_4cfef_19 (by decide) (fun c40 => ?_) (fun c40 => ?_)
                                        · --
                                          obtain ⟨v41, e41⟩ : ∃ y : Int32, y = v37 + 1 := ⟨_, rfl⟩
                                          have i41 : Iv v41 10 10 := iv_add e41 i37 (⟨by decide, by decide⟩ : Iv 1 1 1) (by decide)
                                          have x41 : v41.toInt = v37.toInt + 1 := ex_add e41 i37 (⟨by decide, by decide⟩ : Iv 1 1 1) (by decide)
                                          have y41 : v41.toInt = a2.toInt + 10 := by rw [x41, y37]; omega
                                          refine lv_iinc (v := v41) (lv' := [(5, .int v41), (4, .int v1), (0, .ref (K.2 2)), (1, .int a1), (2, .int a2), (3, .int a3)]) hx hb dJ1_indexOfChar_4cfef_25 hl (k := 0) rfl (by rw [e41]; rfl) (by decide) rfl (fun ls hl => ?_)
                                          refine lv_goto (tgt := 7) hx hb dJ1_indexOfChar_4cfef_28 (by decide) ?_
                                          refine lv_iload hx hb dJ1_indexOfChar_4cfef_7 (lv_at hl 0 rfl) ?_
                                          refine lv_iload_n hx hb dJ1_indexOfChar_4cfef_9 rfl (lv_at hl 5 rfl) ?_
                                          refine lv_icmp_ge (tgt := 31) hx hb dJ1_indexOfChar_4cfef_10 (by decide) (fun c42 => ?_) (fun c42 => ?_)
                                          · --
                                            exact iv_no (iv_le1 (b' := 10) c42 ia3 i41 (by decide)) (by decide)
                                          · --
                                            refine lv_aload_n hx hb dJ1_indexOfChar_4cfef_13 rfl (lv_at hl 2 rfl) ?_
                                            refine lv_iload hx hb dJ1_indexOfChar_4cfef_14 (lv_at hl 0 rfl) ?_
                                            refine va_tb hx hb (cx.2.2.1.1 2 (by decide)).2.2.2 hw.2.2.1 (iv_in i41 (by decide)) rfl dJ1_indexOfChar_4cfef_16 ?_
                                            refine lv_topi (fun v43 e43 => ?_)
                                            refine lv_iload hx hb dJ1_indexOfChar_4cfef_17 (lv_at hl 1 rfl) ?_
                                            have nv43 : v43.toInt = 35 := by rw [e43, show v41 = 10 from i32_eq (by have : (10 : Int32).toInt = 10 := (by decide); have := (ia1).1; have := (ia1).2; have := (ia2).1; have := (ia2).2; have := (ia3).1; have := (ia3).2; have := (i41).1; have := (i41).2; have : (a2 : Int32).toInt < (a3 : Int32).toInt := iv_lt.mp (iv_nle c2); have : (v3 : Int32).toInt ≠ (v1 : Int32).toInt := fun q => c4 (Int32.toInt_inj.mp q); have : (v5 : Int32).toInt < (a3 : Int32).toInt := iv_lt.mp (iv_nle c6); have : (v7 : Int32).toInt ≠ (v1 : Int32).toInt := fun q => c8 (Int32.toInt_inj.mp q); have : (v9 : Int32).toInt < (a3 : Int32).toInt := iv_lt.mp (iv_nle c10); have : (v11 : Int32).toInt ≠ (v1 : Int32).toInt := fun q => c12 (Int32.toInt_inj.mp q); have : (v13 : Int32).toInt < (a3 : Int32).toInt := iv_lt.mp (iv_nle c14); have : (v15 : Int32).toInt ≠ (v1 : Int32).toInt := fun q => c16 (Int32.toInt_inj.mp q); have : (v17 : Int32).toInt < (a3 : Int32).toInt := iv_lt.mp (iv_nle c18); have : (v19 : Int32).toInt ≠ (v1 : Int32).toInt := fun q => c20 (Int32.toInt_inj.mp q); have : (v21 : Int32).toInt < (a3 : Int32).toInt := iv_lt.mp (iv_nle c22); have : (v23 : Int32).toInt ≠ (v1 : Int32).toInt := fun q => c24 (Int32.toInt_inj.mp q); have : (v25 : Int32).toInt < (a3 : Int32).toInt := iv_lt.mp (iv_nle c26); have : (v27 : Int32).toInt ≠ (v1 : Int32).toInt := fun q => c28 (Int32.toInt_inj.mp q); have : (v29 : Int32).toInt < (a3 : Int32).toInt := iv_lt.mp (iv_nle c30); have : (v31 : Int32).toInt ≠ (v1 : Int32).toInt := fun q => c32 (Int32.toInt_inj.mp q); have : (v33 : Int32).toInt < (a3 : Int32).toInt := iv_lt.mp (iv_nle c34); have : (v35 : Int32).toInt ≠ (v1 : Int32).toInt := fun q => c36 (Int32.toInt_inj.mp q); have : (v37 : Int32).toInt < (a3 : Int32).toInt := iv_lt.mp (iv_nle c38); have : (v39 : Int32).toInt ≠ (v1 : Int32).toInt := fun q => c40 (Int32.toInt_inj.mp q); have : (v41 : Int32).toInt < (a3 : Int32).toInt := iv_lt.mp (iv_nle c42); omega)]; decide
                                            refine lv_icmp_ne (tgt := 25) hx hb dJ1_indexOfChar_4cfef_19 (by decide) (fun c44 => ?_) (fun c44 => ?_)
                                            · --
                                              obtain ⟨v45, e45⟩ : ∃ y : Int32, y = v41 + 1 := ⟨_, rfl⟩
                                              have i45 : Iv v45 11 11 := iv_add e45 i41 (⟨by decide, by decide⟩ : Iv 1 1 1) (by decide)
                                              have x45 : v45.toInt = v41.toInt + 1 := ex_add e45 i41 (⟨by decide, by decide⟩ : Iv 1 1 1) (by decide)
                                              have y45 : v45.toInt = a2.toInt + 11 := by rw [x45, y41]; omega
                                              refine lv_iinc (v := v45) (lv' := [(5, .int v45), (4, .int v1), (0, .ref (K.2 2)), (1, .int a1), (2, .int a2), (3, .int a3)]) hx hb dJ1_indexOfChar_4cfef_25 hl (k := 0) rfl (by rw [e45]; rfl) (by decide) rfl (fun ls hl => ?_)
                                              refine lv_goto (tgt := 7) hx hb dJ1_indexOfChar_4cfef_28 (by decide) ?_
                                              refine lv_iload hx hb dJ1_indexOfChar_4cfef_7 (lv_at hl 0 rfl) ?_
                                              refine lv_iload_n hx hb dJ1_indexOfChar_4cfef_9 rfl (lv_at hl 5 rfl) ?_
                                              refine lv_icmp_ge (tgt := 31) hx hb dJ1_indexOfChar_4cfef_10 (by decide) (fun c46 => ?_) (fun c46 => ?_)
                                              · --
                                                refine lv_iconst (v := (-1)) hx hb dJ1_indexOfChar_4cfef_31 (by decide) ?_
                                                rw [← hQ]
                                                exact o_ri cx rx hw dJ1_indexOfChar_4cfef_32 ⟨rfl, (iv_w (⟨by decide, by decide⟩ : Iv (-1) (-1) (-1)) (by decide)), (by exact (by have := (ia1).1; have := (ia1).2; have := (ia2).1; have := (ia2).2; have := (ia3).1; have := (ia3).2; have := (i45).1; have := (i45).2; have : (a2 : Int32).toInt < (a3 : Int32).toInt := iv_lt.mp (iv_nle c2); have : (v3 : Int32).toInt ≠ (v1 : Int32).toInt := fun q => c4 (Int32.toInt_inj.mp q); have : (v5 : Int32).toInt < (a3 : Int32).toInt := iv_lt.mp (iv_nle c6); have : (v7 : Int32).toInt ≠ (v1 : Int32).toInt := fun q => c8 (Int32.toInt_inj.mp q); have : (v9 : Int32).toInt < (a3 : Int32).toInt := iv_lt.mp (iv_nle c10); have : (v11 : Int32).toInt ≠ (v1 : Int32).toInt := fun q => c12 (Int32.toInt_inj.mp q); have : (v13 : Int32).toInt < (a3 : Int32).toInt := iv_lt.mp (iv_nle c14); have : (v15 : Int32).toInt ≠ (v1 : Int32).toInt := fun q => c16 (Int32.toInt_inj.mp q); have : (v17 : Int32).toInt < (a3 : Int32).toInt := iv_lt.mp (iv_nle c18); have : (v19 : Int32).toInt ≠ (v1 : Int32).toInt := fun q => c20 (Int32.toInt_inj.mp q); have : (v21 : Int32).toInt < (a3 : Int32).toInt := iv_lt.mp (iv_nle c22); have : (v23 : Int32).toInt ≠ (v1 : Int32).toInt := fun q => c24 (Int32.toInt_inj.mp q); have : (v25 : Int32).toInt < (a3 : Int32).toInt := iv_lt.mp (iv_nle c26); have : (v27 : Int32).toInt ≠ (v1 : Int32).toInt := fun q => c28 (Int32.toInt_inj.mp q); have : (v29 : Int32).toInt < (a3 : Int32).toInt := iv_lt.mp (iv_nle c30); have : (v31 : Int32).toInt ≠ (v1 : Int32).toInt := fun q => c32 (Int32.toInt_inj.mp q); have : (v33 : Int32).toInt < (a3 : Int32).toInt := iv_lt.mp (iv_nle c34); have : (v35 : Int32).toInt ≠ (v1 : Int32).toInt := fun q => c36 (Int32.toInt_inj.mp q); have : (v37 : Int32).toInt < (a3 : Int32).toInt := iv_lt.mp (iv_nle c38); have : (v39 : Int32).toInt ≠ (v1 : Int32).toInt := fun q => c40 (Int32.toInt_inj.mp q); have : (v41 : Int32).toInt < (a3 : Int32).toInt := iv_lt.mp (iv_nle c42); have : (v43 : Int32).toInt ≠ (v1 : Int32).toInt := fun q => c44 (Int32.toInt_inj.mp q); have : (a3 : Int32).toInt ≤ (v45 : Int32).toInt := iv_le.mp c46; have : ((-1) : Int32).toInt = (-1) := (by decide); omega))⟩
                                              · --
                                                exact iv_no (iv_lt1 (b' := 10) (iv_nle c46) i45 ia3 (by decide)) (by decide)
                                            · --
                                              refine lv_iload hx hb dJ1_indexOfChar_4cfef_22 (lv_at hl 0 rfl) ?_
                                              rw [← hQ]
                                              exact o_ri cx rx hw dJ1_indexOfChar_4cfef_24 ⟨rfl, (iv_w i41 (by decide)), (by exact (by have := (ia1).1; have := (ia1).2; have := (ia2).1; have := (ia2).2; have := (ia3).1; have := (ia3).2; have := (i41).1; have := (i41).2; have : (a2 : Int32).toInt < (a3 : Int32).toInt := iv_lt.mp (iv_nle c2); have : (v3 : Int32).toInt ≠ (v1 : Int32).toInt := fun q => c4 (Int32.toInt_inj.mp q); have : (v5 : Int32).toInt < (a3 : Int32).toInt := iv_lt.mp (iv_nle c6); have : (v7 : Int32).toInt ≠ (v1 : Int32).toInt := fun q => c8 (Int32.toInt_inj.mp q); have : (v9 : Int32).toInt < (a3 : Int32).toInt := iv_lt.mp (iv_nle c10); have : (v11 : Int32).toInt ≠ (v1 : Int32).toInt := fun q => c12 (Int32.toInt_inj.mp q); have : (v13 : Int32).toInt < (a3 : Int32).toInt := iv_lt.mp (iv_nle c14); have : (v15 : Int32).toInt ≠ (v1 : Int32).toInt := fun q => c16 (Int32.toInt_inj.mp q); have : (v17 : Int32).toInt < (a3 : Int32).toInt := iv_lt.mp (iv_nle c18); have : (v19 : Int32).toInt ≠ (v1 : Int32).toInt := fun q => c20 (Int32.toInt_inj.mp q); have : (v21 : Int32).toInt < (a3 : Int32).toInt := iv_lt.mp (iv_nle c22); have : (v23 : Int32).toInt ≠ (v1 : Int32).toInt := fun q => c24 (Int32.toInt_inj.mp q); have : (v25 : Int32).toInt < (a3 : Int32).toInt := iv_lt.mp (iv_nle c26); have : (v27 : Int32).toInt ≠ (v1 : Int32).toInt := fun q => c28 (Int32.toInt_inj.mp q); have : (v29 : Int32).toInt < (a3 : Int32).toInt := iv_lt.mp (iv_nle c30); have : (v31 : Int32).toInt ≠ (v1 : Int32).toInt := fun q => c32 (Int32.toInt_inj.mp q); have : (v33 : Int32).toInt < (a3 : Int32).toInt := iv_lt.mp (iv_nle c34); have : (v35 : Int32).toInt ≠ (v1 : Int32).toInt := fun q => c36 (Int32.toInt_inj.mp q); have : (v37 : Int32).toInt < (a3 : Int32).toInt := iv_lt.mp (iv_nle c38); have : (v39 : Int32).toInt ≠ (v1 : Int32).toInt := fun q => c40 (Int32.toInt_inj.mp q); have : (v41 : Int32).toInt < (a3 : Int32).toInt := iv_lt.mp (iv_nle c42); have : (v43 : Int32).toInt = (v1 : Int32).toInt := congrArg Int32.toInt c44; omega))⟩
                                        · --
                                          refine lv_iload hx hb dJ1_indexOfChar_4cfef_22 (lv_at hl 0 rfl) ?_
                                          rw [← hQ]
                                          exact o_ri cx rx hw dJ1_indexOfChar_4cfef_24 ⟨rfl, (iv_w i37 (by decide)), (by exact (by have := (ia1).1; have := (ia1).2; have := (ia2).1; have := (ia2).2; have := (ia3).1; have := (ia3).2; have := (i37).1; have := (i37).2; have : (a2 : Int32).toInt < (a3 : Int32).toInt := iv_lt.mp (iv_nle c2); have : (v3 : Int32).toInt ≠ (v1 : Int32).toInt := fun q => c4 (Int32.toInt_inj.mp q); have : (v5 : Int32).toInt < (a3 : Int32).toInt := iv_lt.mp (iv_nle c6); have : (v7 : Int32).toInt ≠ (v1 : Int32).toInt := fun q => c8 (Int32.toInt_inj.mp q); have : (v9 : Int32).toInt < (a3 : Int32).toInt := iv_lt.mp (iv_nle c10); have : (v11 : Int32).toInt ≠ (v1 : Int32).toInt := fun q => c12 (Int32.toInt_inj.mp q); have : (v13 : Int32).toInt < (a3 : Int32).toInt := iv_lt.mp (iv_nle c14); have : (v15 : Int32).toInt ≠ (v1 : Int32).toInt := fun q => c16 (Int32.toInt_inj.mp q); have : (v17 : Int32).toInt < (a3 : Int32).toInt := iv_lt.mp (iv_nle c18); have : (v19 : Int32).toInt ≠ (v1 : Int32).toInt := fun q => c20 (Int32.toInt_inj.mp q); have : (v21 : Int32).toInt < (a3 : Int32).toInt := iv_lt.mp (iv_nle c22); have : (v23 : Int32).toInt ≠ (v1 : Int32).toInt := fun q => c24 (Int32.toInt_inj.mp q); have : (v25 : Int32).toInt < (a3 : Int32).toInt := iv_lt.mp (iv_nle c26); have : (v27 : Int32).toInt ≠ (v1 : Int32).toInt := fun q => c28 (Int32.toInt_inj.mp q); have : (v29 : Int32).toInt < (a3 : Int32).toInt := iv_lt.mp (iv_nle c30); have : (v31 : Int32).toInt ≠ (v1 : Int32).toInt := fun q => c32 (Int32.toInt_inj.mp q); have : (v33 : Int32).toInt < (a3 : Int32).toInt := iv_lt.mp (iv_nle c34); have : (v35 : Int32).toInt ≠ (v1 : Int32).toInt := fun q => c36 (Int32.toInt_inj.mp q); have : (v37 : Int32).toInt < (a3 : Int32).toInt := iv_lt.mp (iv_nle c38); have : (v39 : Int32).toInt = (v1 : Int32).toInt := congrArg Int32.toInt c40; omega))⟩
                                    · --
                                      refine lv_iload hx hb dJ1_indexOfChar_4cfef_22 (lv_at hl 0 rfl) ?_
                                      rw [← hQ]
                                      exact o_ri cx rx hw dJ1_indexOfChar_4cfef_24 ⟨rfl, (iv_w i33 (by decide)), (by exact (by have := (ia1).1; have := (ia1).2; have := (ia2).1; have := (ia2).2; have := (ia3).1; have := (ia3).2; have := (i33).1; have := (i33).2; have : (a2 : Int32).toInt < (a3 : Int32).toInt := iv_lt.mp (iv_nle c2); have : (v3 : Int32).toInt ≠ (v1 : Int32).toInt := fun q => c4 (Int32.toInt_inj.mp q); have : (v5 : Int32).toInt < (a3 : Int32).toInt := iv_lt.mp (iv_nle c6); have : (v7 : Int32).toInt ≠ (v1 : Int32).toInt := fun q => c8 (Int32.toInt_inj.mp q); have : (v9 : Int32).toInt < (a3 : Int32).toInt := iv_lt.mp (iv_nle c10); have : (v11 : Int32).toInt ≠ (v1 : Int32).toInt := fun q => c12 (Int32.toInt_inj.mp q); have : (v13 : Int32).toInt < (a3 : Int32).toInt := iv_lt.mp (iv_nle c14); have : (v15 : Int32).toInt ≠ (v1 : Int32).toInt := fun q => c16 (Int32.toInt_inj.mp q); have : (v17 : Int32).toInt < (a3 : Int32).toInt := iv_lt.mp (iv_nle c18); have : (v19 : Int32).toInt ≠ (v1 : Int32).toInt := fun q => c20 (Int32.toInt_inj.mp q); have : (v21 : Int32).toInt < (a3 : Int32).toInt := iv_lt.mp (iv_nle c22); have : (v23 : Int32).toInt ≠ (v1 : Int32).toInt := fun q => c24 (Int32.toInt_inj.mp q); have : (v25 : Int32).toInt < (a3 : Int32).toInt := iv_lt.mp (iv_nle c26); have : (v27 : Int32).toInt ≠ (v1 : Int32).toInt := fun q => c28 (Int32.toInt_inj.mp q); have : (v29 : Int32).toInt < (a3 : Int32).toInt := iv_lt.mp (iv_nle c30); have : (v31 : Int32).toInt ≠ (v1 : Int32).toInt := fun q => c32 (Int32.toInt_inj.mp q); have : (v33 : Int32).toInt < (a3 : Int32).toInt := iv_lt.mp (iv_nle c34); have : (v35 : Int32).toInt = (v1 : Int32).toInt := congrArg Int32.toInt c36; omega))⟩
                                · --
                                  refine lv_iload hx hb dJ1_indexOfChar_4cfef_22 (lv_at hl 0 rfl) ?_
                                  rw [← hQ]
                                  exact o_ri cx rx hw dJ1_indexOfChar_4cfef_24 ⟨rfl, (iv_w i29 (by decide)), (by exact (by have := (ia1).1; have := (ia1).2; have := (ia2).1; have := (ia2).2; have := (ia3).1; have := (ia3).2; have := (i29).1; have := (i29).2; have : (a2 : Int32).toInt < (a3 : Int32).toInt := iv_lt.mp (iv_nle c2); have : (v3 : Int32).toInt ≠ (v1 : Int32).toInt := fun q => c4 (Int32.toInt_inj.mp q); have : (v5 : Int32).toInt < (a3 : Int32).toInt := iv_lt.mp (iv_nle c6); have : (v7 : Int32).toInt ≠ (v1 : Int32).toInt := fun q => c8 (Int32.toInt_inj.mp q); have : (v9 : Int32).toInt < (a3 : Int32).toInt := iv_lt.mp (iv_nle c10); have : (v11 : Int32).toInt ≠ (v1 : Int32).toInt := fun q => c12 (Int32.toInt_inj.mp q); have : (v13 : Int32).toInt < (a3 : Int32).toInt := iv_lt.mp (iv_nle c14); have : (v15 : Int32).toInt ≠ (v1 : Int32).toInt := fun q => c16 (Int32.toInt_inj.mp q); have : (v17 : Int32).toInt < (a3 : Int32).toInt := iv_lt.mp (iv_nle c18); have : (v19 : Int32).toInt ≠ (v1 : Int32).toInt := fun q => c20 (Int32.toInt_inj.mp q); have : (v21 : Int32).toInt < (a3 : Int32).toInt := iv_lt.mp (iv_nle c22); have : (v23 : Int32).toInt ≠ (v1 : Int32).toInt := fun q => c24 (Int32.toInt_inj.mp q); have : (v25 : Int32).toInt < (a3 : Int32).toInt := iv_lt.mp (iv_nle c26); have : (v27 : Int32).toInt ≠ (v1 : Int32).toInt := fun q => c28 (Int32.toInt_inj.mp q); have : (v29 : Int32).toInt < (a3 : Int32).toInt := iv_lt.mp (iv_nle c30); have : (v31 : Int32).toInt = (v1 : Int32).toInt := congrArg Int32.toInt c32; omega))⟩
                            · --
                              refine lv_iload hx hb dJ1_indexOfChar_4cfef_22 (lv_at hl 0 rfl) ?_
                              rw [← hQ]
                              exact o_ri cx rx hw dJ1_indexOfChar_4cfef_24 ⟨rfl, (iv_w i25 (by decide)), (by exact (by have := (ia1).1; have := (ia1).2; have := (ia2).1; have := (ia2).2; have := (ia3).1; have := (ia3).2; have := (i25).1; have := (i25).2; have : (a2 : Int32).toInt < (a3 : Int32).toInt := iv_lt.mp (iv_nle c2); have : (v3 : Int32).toInt ≠ (v1 : Int32).toInt := fun q => c4 (Int32.toInt_inj.mp q); have : (v5 : Int32).toInt < (a3 : Int32).toInt := iv_lt.mp (iv_nle c6); have : (v7 : Int32).toInt ≠ (v1 : Int32).toInt := fun q => c8 (Int32.toInt_inj.mp q); have : (v9 : Int32).toInt < (a3 : Int32).toInt := iv_lt.mp (iv_nle c10); have : (v11 : Int32).toInt ≠ (v1 : Int32).toInt := fun q => c12 (Int32.toInt_inj.mp q); have : (v13 : Int32).toInt < (a3 : Int32).toInt := iv_lt.mp (iv_nle c14); have : (v15 : Int32).toInt ≠ (v1 : Int32).toInt := fun q => c16 (Int32.toInt_inj.mp q); have : (v17 : Int32).toInt < (a3 : Int32).toInt := iv_lt.mp (iv_nle c18); have : (v19 : Int32).toInt ≠ (v1 : Int32).toInt := fun q => c20 (Int32.toInt_inj.mp q); have : (v21 : Int32).toInt < (a3 : Int32).toInt := iv_lt.mp (iv_nle c22); have : (v23 : Int32).toInt ≠ (v1 : Int32).toInt := fun q => c24 (Int32.toInt_inj.mp q); have : (v25 : Int32).toInt < (a3 : Int32).toInt := iv_lt.mp (iv_nle c26); have : (v27 : Int32).toInt = (v1 : Int32).toInt := congrArg Int32.toInt c28; omega))⟩
                        · --
                          refine lv_iload hx hb dJ1_indexOfChar_4cfef_22 (lv_at hl 0 rfl) ?_
                          rw [← hQ]
                          exact o_ri cx rx hw dJ1_indexOfChar_4cfef_24 ⟨rfl, (iv_w i21 (by decide)), (by exact (by have := (ia1).1; have := (ia1).2; have := (ia2).1; have := (ia2).2; have := (ia3).1; have := (ia3).2; have := (i21).1; have := (i21).2; have : (a2 : Int32).toInt < (a3 : Int32).toInt := iv_lt.mp (iv_nle c2); have : (v3 : Int32).toInt ≠ (v1 : Int32).toInt := fun q => c4 (Int32.toInt_inj.mp q); have : (v5 : Int32).toInt < (a3 : Int32).toInt := iv_lt.mp (iv_nle c6); have : (v7 : Int32).toInt ≠ (v1 : Int32).toInt := fun q => c8 (Int32.toInt_inj.mp q); have : (v9 : Int32).toInt < (a3 : Int32).toInt := iv_lt.mp (iv_nle c10); have : (v11 : Int32).toInt ≠ (v1 : Int32).toInt := fun q => c12 (Int32.toInt_inj.mp q); have : (v13 : Int32).toInt < (a3 : Int32).toInt := iv_lt.mp (iv_nle c14); have : (v15 : Int32).toInt ≠ (v1 : Int32).toInt := fun q => c16 (Int32.toInt_inj.mp q); have : (v17 : Int32).toInt < (a3 : Int32).toInt := iv_lt.mp (iv_nle c18); have : (v19 : Int32).toInt ≠ (v1 : Int32).toInt := fun q => c20 (Int32.toInt_inj.mp q); have : (v21 : Int32).toInt < (a3 : Int32).toInt := iv_lt.mp (iv_nle c22); have : (v23 : Int32).toInt = (v1 : Int32).toInt := congrArg Int32.toInt c24; omega))⟩
                    · --
                      refine lv_iload hx hb dJ1_indexOfChar_4cfef_22 (lv_at hl 0 rfl) ?_
                      rw [← hQ]
                      exact o_ri cx rx hw dJ1_indexOfChar_4cfef_24 ⟨rfl, (iv_w i17 (by decide)), (by exact (by have := (ia1).1; have := (ia1).2; have := (ia2).1; have := (ia2).2; have := (ia3).1; have := (ia3).2; have := (i17).1; have := (i17).2; have : (a2 : Int32).toInt < (a3 : Int32).toInt := iv_lt.mp (iv_nle c2); have : (v3 : Int32).toInt ≠ (v1 : Int32).toInt := fun q => c4 (Int32.toInt_inj.mp q); have : (v5 : Int32).toInt < (a3 : Int32).toInt := iv_lt.mp (iv_nle c6); have : (v7 : Int32).toInt ≠ (v1 : Int32).toInt := fun q => c8 (Int32.toInt_inj.mp q); have : (v9 : Int32).toInt < (a3 : Int32).toInt := iv_lt.mp (iv_nle c10); have : (v11 : Int32).toInt ≠ (v1 : Int32).toInt := fun q => c12 (Int32.toInt_inj.mp q); have : (v13 : Int32).toInt < (a3 : Int32).toInt := iv_lt.mp (iv_nle c14); have : (v15 : Int32).toInt ≠ (v1 : Int32).toInt := fun q => c16 (Int32.toInt_inj.mp q); have : (v17 : Int32).toInt < (a3 : Int32).toInt := iv_lt.mp (iv_nle c18); have : (v19 : Int32).toInt = (v1 : Int32).toInt := congrArg Int32.toInt c20; omega))⟩
                · --
                  refine lv_iload hx hb dJ1_indexOfChar_4cfef_22 (lv_at hl 0 rfl) ?_
                  rw [← hQ]
                  exact o_ri cx rx hw dJ1_indexOfChar_4cfef_24 ⟨rfl, (iv_w i13 (by decide)), (by exact (by have := (ia1).1; have := (ia1).2; have := (ia2).1; have := (ia2).2; have := (ia3).1; have := (ia3).2; have := (i13).1; have := (i13).2; have : (a2 : Int32).toInt < (a3 : Int32).toInt := iv_lt.mp (iv_nle c2); have : (v3 : Int32).toInt ≠ (v1 : Int32).toInt := fun q => c4 (Int32.toInt_inj.mp q); have : (v5 : Int32).toInt < (a3 : Int32).toInt := iv_lt.mp (iv_nle c6); have : (v7 : Int32).toInt ≠ (v1 : Int32).toInt := fun q => c8 (Int32.toInt_inj.mp q); have : (v9 : Int32).toInt < (a3 : Int32).toInt := iv_lt.mp (iv_nle c10); have : (v11 : Int32).toInt ≠ (v1 : Int32).toInt := fun q => c12 (Int32.toInt_inj.mp q); have : (v13 : Int32).toInt < (a3 : Int32).toInt := iv_lt.mp (iv_nle c14); have : (v15 : Int32).toInt = (v1 : Int32).toInt := congrArg Int32.toInt c16; omega))⟩
            · --
              refine lv_iload hx hb dJ1_indexOfChar_4cfef_22 (lv_at hl 0 rfl) ?_
              rw [← hQ]
              exact o_ri cx rx hw dJ1_indexOfChar_4cfef_24 ⟨rfl, (iv_w i9 (by decide)), (by exact (by have := (ia1).1; have := (ia1).2; have := (ia2).1; have := (ia2).2; have := (ia3).1; have := (ia3).2; have := (i9).1; have := (i9).2; have : (a2 : Int32).toInt < (a3 : Int32).toInt := iv_lt.mp (iv_nle c2); have : (v3 : Int32).toInt ≠ (v1 : Int32).toInt := fun q => c4 (Int32.toInt_inj.mp q); have : (v5 : Int32).toInt < (a3 : Int32).toInt := iv_lt.mp (iv_nle c6); have : (v7 : Int32).toInt ≠ (v1 : Int32).toInt := fun q => c8 (Int32.toInt_inj.mp q); have : (v9 : Int32).toInt < (a3 : Int32).toInt := iv_lt.mp (iv_nle c10); have : (v11 : Int32).toInt = (v1 : Int32).toInt := congrArg Int32.toInt c12; omega))⟩
        · --
          refine lv_iload hx hb dJ1_indexOfChar_4cfef_22 (lv_at hl 0 rfl) ?_
          rw [← hQ]
          exact o_ri cx rx hw dJ1_indexOfChar_4cfef_24 ⟨rfl, (iv_w i5 (by decide)), (by exact (by have := (ia1).1; have := (ia1).2; have := (ia2).1; have := (ia2).2; have := (ia3).1; have := (ia3).2; have := (i5).1; have := (i5).2; have : (a2 : Int32).toInt < (a3 : Int32).toInt := iv_lt.mp (iv_nle c2); have : (v3 : Int32).toInt ≠ (v1 : Int32).toInt := fun q => c4 (Int32.toInt_inj.mp q); have : (v5 : Int32).toInt < (a3 : Int32).toInt := iv_lt.mp (iv_nle c6); have : (v7 : Int32).toInt = (v1 : Int32).toInt := congrArg Int32.toInt c8; omega))⟩
    · --
      refine lv_iload hx hb dJ1_indexOfChar_4cfef_22 (lv_at hl 0 rfl) ?_
      rw [← hQ]
      exact o_ri cx rx hw dJ1_indexOfChar_4cfef_24 ⟨rfl, (iv_w ia2 (by decide)), (by exact (by have := (ia1).1; have := (ia1).2; have := (ia2).1; have := (ia2).2; have := (ia3).1; have := (ia3).2; have : (a2 : Int32).toInt < (a3 : Int32).toInt := iv_lt.mp (iv_nle c2); have : (v3 : Int32).toInt = (v1 : Int32).toInt := congrArg Int32.toInt c4; omega))⟩
set_option maxHeartbeats 4000000 in
set_option maxRecDepth 100000 in
theorem c_J1_indexOfChar_4cfef_3 (a1 : Int32) (ia1 : Iv a1 0 255) (a2 : Int32) (ia2 : Iv a2 0 0) (a3 : Int32) (ia3 : Iv a3 6 6) : oMet l A L τ cy D K yJ1_indexOfChar_4cfef cJ1_indexOfChar_4cfef 6 (some .int) 0 0 [.ref (K.2 3), .int a1, .int a2, .int a3] σ (va_Qi (fun r σ1 => σ1 = σ ∧ Iv r (-1) 5 ∧ ((0 ≤ r.toInt ∧ (a1.toInt = 104 ∨ a1.toInt = 115 ∨ a1.toInt = 116 ∨ a1.toInt = 111 ∨ a1.toInt = 99 ∨ a1.toInt = 100)) ∨ (r.toInt = -1 ∧ ¬ (a1.toInt = 104 ∨ a1.toInt = 115 ∨ a1.toInt = 116 ∨ a1.toInt = 111 ∨ a1.toInt = 99 ∨ a1.toInt = 100)))) (oPo A L τ cy D) A) := by
  refine oMk (by decide) (Nat.le_of_ble_eq_true rfl) rfl ?_
  intro p e s m args below meth c ls cx rx hA hw hl
  generalize hQ : MQ below _ args s 0 0 A = Q
  have hx := cx.1.1
  have hb := cx.1.2.1
  have hml := cx.1.2.2.1
  have hown := cx.1.2.2.2.1
  have hts := cx.1.2.2.2.2
  have hl : lv_has ls 6 [(0, .ref (K.2 3)), (1, .int a1), (2, .int a2), (3, .int a3)] := hl
  refine lv_iload_n hx hb dJ1_indexOfChar_4cfef_0 rfl (lv_at hl 1 rfl) ?_
  refine lv_i2b hx hb dJ1_indexOfChar_4cfef_1 rfl ?_
  refine lv_topi (fun v1 e1 => ?_)
  have b9 := ex_i2b e1 ia1
  refine lv_istore (lv' := [(4, .int v1), (0, .ref (K.2 3)), (1, .int a1), (2, .int a2), (3, .int a3)]) hx hb dJ1_indexOfChar_4cfef_2 hl (by decide) rfl (fun ls hl => ?_)
  refine lv_iload_n hx hb dJ1_indexOfChar_4cfef_4 rfl (lv_at hl 3 rfl) ?_
  refine lv_istore (lv' := [(5, .int a2), (4, .int v1), (0, .ref (K.2 3)), (1, .int a1), (2, .int a2), (3, .int a3)]) hx hb dJ1_indexOfChar_4cfef_5 hl (by decide) rfl (fun ls hl => ?_)
  refine lv_iload hx hb dJ1_indexOfChar_4cfef_7 (lv_at hl 0 rfl) ?_
  refine lv_iload_n hx hb dJ1_indexOfChar_4cfef_9 rfl (lv_at hl 5 rfl) ?_
  refine lv_icmp_ge (tgt := 31) hx hb dJ1_indexOfChar_4cfef_10 (by decide) (fun c2 => ?_) (fun c2 => ?_)
  · --
    exact iv_no (iv_le1 (b' := 5) c2 ia3 ia2 (by decide)) (by decide)
  · --
    refine lv_aload_n hx hb dJ1_indexOfChar_4cfef_13 rfl (lv_at hl 2 rfl) ?_
    refine lv_iload hx hb dJ1_indexOfChar_4cfef_14 (lv_at hl 0 rfl) ?_
    refine va_tb hx hb (cx.2.2.1.1 3 (by decide)).2.2.2 hw.2.2.1 (iv_in ia2 (by decide)) rfl dJ1_indexOfChar_4cfef_16 ?_
    refine lv_topi (fun v3 e3 => ?_)
    refine lv_iload hx hb dJ1_indexOfChar_4cfef_17 (lv_at hl 1 rfl) ?_
    have nv3 : v3.toInt = 104 := by rw [e3, show a2 = 0 from i32_eq (by have : (0 : Int32).toInt = 0 := (by decide); have := (ia1).1; have := (ia1).2; have := (ia2).1; have := (ia2).2; have := (ia3).1; have := (ia3).2; have : (a2 : Int32).toInt < (a3 : Int32).toInt := iv_lt.mp (iv_nle c2); omega)]; decide
    refine lv_icmp_ne (tgt := 25) hx hb dJ1_indexOfChar_4cfef_19 (by decide) (fun c4 => ?_) (fun c4 => ?_)
    · --
      obtain ⟨v5, e5⟩ : ∃ y : Int32, y = a2 + 1 := ⟨_, rfl⟩
      have i5 : Iv v5 1 1 := iv_add e5 ia2 (⟨by decide, by decide⟩ : Iv 1 1 1) (by decide)
      have x5 : v5.toInt = a2.toInt + 1 := ex_add e5 ia2 (⟨by decide, by decide⟩ : Iv 1 1 1) (by decide)
      refine lv_iinc (v := v5) (lv' := [(5, .int v5), (4, .int v1), (0, .ref (K.2 3)), (1, .int a1), (2, .int a2), (3, .int a3)]) hx hb dJ1_indexOfChar_4cfef_25 hl (k := 0) rfl (by rw [e5]; rfl) (by decide) rfl (fun ls hl => ?_)
      refine lv_goto (tgt := 7) hx hb dJ1_indexOfChar_4cfef_28 (by decide) ?_
      refine lv_iload hx hb dJ1_indexOfChar_4cfef_7 (lv_at hl 0 rfl) ?_
      refine lv_iload_n hx hb dJ1_indexOfChar_4cfef_9 rfl (lv_at hl 5 rfl) ?_
      refine lv_icmp_ge (tgt := 31) hx hb dJ1_indexOfChar_4cfef_10 (by decide) (fun c6 => ?_) (fun c6 => ?_)
      · --
        exact iv_no (iv_le1 (b' := 5) c6 ia3 i5 (by decide)) (by decide)
      · --
        refine lv_aload_n hx hb dJ1_indexOfChar_4cfef_13 rfl (lv_at hl 2 rfl) ?_
        refine lv_iload hx hb dJ1_indexOfChar_4cfef_14 (lv_at hl 0 rfl) ?_
        refine va_tb hx hb (cx.2.2.1.1 3 (by decide)).2.2.2 hw.2.2.1 (iv_in i5 (by decide)) rfl dJ1_indexOfChar_4cfef_16 ?_
        refine lv_topi (fun v7 e7 => ?_)
        refine lv_iload hx hb dJ1_indexOfChar_4cfef_17 (lv_at hl 1 rfl) ?_
        have nv7 : v7.toInt = 115 := by rw [e7, show v5 = 1 from i32_eq (by have : (1 : Int32).toInt = 1 := (by decide); have := (ia1).1; have := (ia1).2; have := (ia2).1; have := (ia2).2; have := (ia3).1; have := (ia3).2; have := (i5).1; have := (i5).2; have : (a2 : Int32).toInt < (a3 : Int32).toInt := iv_lt.mp (iv_nle c2); have : (v3 : Int32).toInt ≠ (v1 : Int32).toInt := fun q => c4 (Int32.toInt_inj.mp q); have : (v5 : Int32).toInt < (a3 : Int32).toInt := iv_lt.mp (iv_nle c6); omega)]; decide
        refine lv_icmp_ne (tgt := 25) hx hb dJ1_indexOfChar_4cfef_19 (by decide) (fun c8 => ?_) (fun c8 => ?_)
        · --
          obtain ⟨v9, e9⟩ : ∃ y : Int32, y = v5 + 1 := ⟨_, rfl⟩
          have i9 : Iv v9 2 2 := iv_add e9 i5 (⟨by decide, by decide⟩ : Iv 1 1 1) (by decide)
          have x9 : v9.toInt = v5.toInt + 1 := ex_add e9 i5 (⟨by decide, by decide⟩ : Iv 1 1 1) (by decide)
          have y9 : v9.toInt = a2.toInt + 2 := by rw [x9, x5]; omega
          refine lv_iinc (v := v9) (lv' := [(5, .int v9), (4, .int v1), (0, .ref (K.2 3)), (1, .int a1), (2, .int a2), (3, .int a3)]) hx hb dJ1_indexOfChar_4cfef_25 hl (k := 0) rfl (by rw [e9]; rfl) (by decide) rfl (fun ls hl => ?_)
          refine lv_goto (tgt := 7) hx hb dJ1_indexOfChar_4cfef_28 (by decide) ?_
          refine lv_iload hx hb dJ1_indexOfChar_4cfef_7 (lv_at hl 0 rfl) ?_
          refine lv_iload_n hx hb dJ1_indexOfChar_4cfef_9 rfl (lv_at hl 5 rfl) ?_
          refine lv_icmp_ge (tgt := 31) hx hb dJ1_indexOfChar_4cfef_10 (by decide) (fun c10 => ?_) (fun c10 => ?_)
          · --
            exact iv_no (iv_le1 (b' := 5) c10 ia3 i9 (by decide)) (by decide)
          · --
            refine lv_aload_n hx hb dJ1_indexOfChar_4cfef_13 rfl (lv_at hl 2 rfl) ?_
            refine lv_iload hx hb dJ1_indexOfChar_4cfef_14 (lv_at hl 0 rfl) ?_
            refine va_tb hx hb (cx.2.2.1.1 3 (by decide)).2.2.2 hw.2.2.1 (iv_in i9 (by decide)) rfl dJ1_indexOfChar_4cfef_16 ?_
            refine lv_topi (fun v11 e11 => ?_)
            refine lv_iload hx hb dJ1_indexOfChar_4cfef_17 (lv_at hl 1 rfl) ?_
            have nv11 : v11.toInt = 116 := by rw [e11, show v9 = 2 from i32_eq (by have : (2 : Int32).toInt = 2 := (by decide); have := (ia1).1; have := (ia1).2; have := (ia2).1; have := (ia2).2; have := (ia3).1; have := (ia3).2; have := (i9).1; have := (i9).2; have : (a2 : Int32).toInt < (a3 : Int32).toInt := iv_lt.mp (iv_nle c2); have : (v3 : Int32).toInt ≠ (v1 : Int32).toInt := fun q => c4 (Int32.toInt_inj.mp q); have : (v5 : Int32).toInt < (a3 : Int32).toInt := iv_lt.mp (iv_nle c6); have : (v7 : Int32).toInt ≠ (v1 : Int32).toInt := fun q => c8 (Int32.toInt_inj.mp q); have : (v9 : Int32).toInt < (a3 : Int32).toInt := iv_lt.mp (iv_nle c10); omega)]; decide
            refine lv_icmp_ne (tgt := 25) hx hb dJ1_indexOfChar_4cfef_19 (by decide) (fun c12 => ?_) (fun c12 => ?_)
            · --
              obtain ⟨v13, e13⟩ : ∃ y : Int32, y = v9 + 1 := ⟨_, rfl⟩
              have i13 : Iv v13 3 3 := iv_add e13 i9 (⟨by decide, by decide⟩ : Iv 1 1 1) (by decide)
              have x13 : v13.toInt = v9.toInt + 1 := ex_add e13 i9 (⟨by decide, by decide⟩ : Iv 1 1 1) (by decide)
              have y13 : v13.toInt = a2.toInt + 3 := by rw [x13, y9]; omega
              refine lv_iinc (v := v13) (lv' := [(5, .int v13), (4, .int v1), (0, .ref (K.2 3)), (1, .int a1), (2, .int a2), (3, .int a3)]) hx hb dJ1_indexOfChar_4cfef_25 hl (k := 0) rfl (by rw [e13]; rfl) (by decide) rfl (fun ls hl => ?_)
              refine lv_goto (tgt := 7) hx hb dJ1_indexOfChar_4cfef_28 (by decide) ?_
              refine lv_iload hx hb dJ1_indexOfChar_4cfef_7 (lv_at hl 0 rfl) ?_
              refine lv_iload_n hx hb dJ1_indexOfChar_4cfef_9 rfl (lv_at hl 5 rfl) ?_
              refine lv_icmp_ge (tgt := 31) hx hb dJ1_indexOfChar_4cfef_10 (by decide) (fun c14 => ?_) (fun c14 => ?_)
              · --
                exact iv_no (iv_le1 (b' := 5) c14 ia3 i13 (by decide)) (by decide)
              · --
                refine lv_aload_n hx hb dJ1_indexOfChar_4cfef_13 rfl (lv_at hl 2 rfl) ?_
                refine lv_iload hx hb dJ1_indexOfChar_4cfef_14 (lv_at hl 0 rfl) ?_
                refine va_tb hx hb (cx.2.2.1.1 3 (by decide)).2.2.2 hw.2.2.1 (iv_in i13 (by decide)) rfl dJ1_indexOfChar_4cfef_16 ?_
                refine lv_topi (fun v15 e15 => ?_)
                refine lv_iload hx hb dJ1_indexOfChar_4cfef_17 (lv_at hl 1 rfl) ?_
                have nv15 : v15.toInt = 111 := by rw [e15, show v13 = 3 from i32_eq (by have : (3 : Int32).toInt = 3 := (by decide); have := (ia1).1; have := (ia1).2; have := (ia2).1; have := (ia2).2; have := (ia3).1; have := (ia3).2; have := (i13).1; have := (i13).2; have : (a2 : Int32).toInt < (a3 : Int32).toInt := iv_lt.mp (iv_nle c2); have : (v3 : Int32).toInt ≠ (v1 : Int32).toInt := fun q => c4 (Int32.toInt_inj.mp q); have : (v5 : Int32).toInt < (a3 : Int32).toInt := iv_lt.mp (iv_nle c6); have : (v7 : Int32).toInt ≠ (v1 : Int32).toInt := fun q => c8 (Int32.toInt_inj.mp q); have : (v9 : Int32).toInt < (a3 : Int32).toInt := iv_lt.mp (iv_nle c10); have : (v11 : Int32).toInt ≠ (v1 : Int32).toInt := fun q => c12 (Int32.toInt_inj.mp q); have : (v13 : Int32).toInt < (a3 : Int32).toInt := iv_lt.mp (iv_nle c14); omega)]; decide
                refine lv_icmp_ne (tgt := 25) hx hb dJ1_indexOfChar_4cfef_19 (by decide) (fun c16 => ?_) (fun c16 => ?_)
                · --
                  obtain ⟨v17, e17⟩ : ∃ y : Int32, y = v13 + 1 := ⟨_, rfl⟩
                  have i17 : Iv v17 4 4 := iv_add e17 i13 (⟨by decide, by decide⟩ : Iv 1 1 1) (by decide)
                  have x17 : v17.toInt = v13.toInt + 1 := ex_add e17 i13 (⟨by decide, by decide⟩ : Iv 1 1 1) (by decide)
                  have y17 : v17.toInt = a2.toInt + 4 := by rw [x17, y13]; omega
                  refine lv_iinc (v := v17) (lv' := [(5, .int v17), (4, .int v1), (0, .ref (K.2 3)), (1, .int a1), (2, .int a2), (3, .int a3)]) hx hb dJ1_indexOfChar_4cfef_25 hl (k := 0) rfl (by rw [e17]; rfl) (by decide) rfl (fun ls hl => ?_)
                  refine lv_goto (tgt := 7) hx hb dJ1_indexOfChar_4cfef_28 (by decide) ?_
                  refine lv_iload hx hb dJ1_indexOfChar_4cfef_7 (lv_at hl 0 rfl) ?_
                  refine lv_iload_n hx hb dJ1_indexOfChar_4cfef_9 rfl (lv_at hl 5 rfl) ?_
                  refine lv_icmp_ge (tgt := 31) hx hb dJ1_indexOfChar_4cfef_10 (by decide) (fun c18 => ?_) (fun c18 => ?_)
                  · --
                    exact iv_no (iv_le1 (b' := 5) c18 ia3 i17 (by decide)) (by decide)
                  · --
                    refine lv_aload_n hx hb dJ1_indexOfChar_4cfef_13 rfl (lv_at hl 2 rfl) ?_
                    refine lv_iload hx hb dJ1_indexOfChar_4cfef_14 (lv_at hl 0 rfl) ?_
                    refine va_tb hx hb (cx.2.2.1.1 3 (by decide)).2.2.2 hw.2.2.1 (iv_in i17 (by decide)) rfl dJ1_indexOfChar_4cfef_16 ?_
                    refine lv_topi (fun v19 e19 => ?_)
                    refine lv_iload hx hb dJ1_indexOfChar_4cfef_17 (lv_at hl 1 rfl) ?_
                    have nv19 : v19.toInt = 99 := by rw [e19, show v17 = 4 from i32_eq (by have : (4 : Int32).toInt = 4 := (by decide); have := (ia1).1; have := (ia1).2; have := (ia2).1; have := (ia2).2; have := (ia3).1; have := (ia3).2; have := (i17).1; have := (i17).2; have : (a2 : Int32).toInt < (a3 : Int32).toInt := iv_lt.mp (iv_nle c2); have : (v3 : Int32).toInt ≠ (v1 : Int32).toInt := fun q => c4 (Int32.toInt_inj.mp q); have : (v5 : Int32).toInt < (a3 : Int32).toInt := iv_lt.mp (iv_nle c6); have : (v7 : Int32).toInt ≠ (v1 : Int32).toInt := fun q => c8 (Int32.toInt_inj.mp q); have : (v9 : Int32).toInt < (a3 : Int32).toInt := iv_lt.mp (iv_nle c10); have : (v11 : Int32).toInt ≠ (v1 : Int32).toInt := fun q => c12 (Int32.toInt_inj.mp q); have : (v13 : Int32).toInt < (a3 : Int32).toInt := iv_lt.mp (iv_nle c14); have : (v15 : Int32).toInt ≠ (v1 : Int32).toInt := fun q => c16 (Int32.toInt_inj.mp q); have : (v17 : Int32).toInt < (a3 : Int32).toInt := iv_lt.mp (iv_nle c18); omega)]; decide
                    refine lv_icmp_ne (tgt := 25) hx hb dJ1_indexOfChar_4cfef_19 (by decide) (fun c20 => ?_) (fun c20 => ?_)
                    · --
                      obtain ⟨v21, e21⟩ : ∃ y : Int32, y = v17 + 1 := ⟨_, rfl⟩
                      have i21 : Iv v21 5 5 := iv_add e21 i17 (⟨by decide, by decide⟩ : Iv 1 1 1) (by decide)
                      have x21 : v21.toInt = v17.toInt + 1 := ex_add e21 i17 (⟨by decide, by decide⟩ : Iv 1 1 1) (by decide)
                      have y21 : v21.toInt = a2.toInt + 5 := by rw [x21, y17]; omega
                      refine lv_iinc (v := v21) (lv' := [(5, .int v21), (4, .int v1), (0, .ref (K.2 3)), (1, .int a1), (2, .int a2), (3, .int a3)]) hx hb dJ1_indexOfChar_4cfef_25 hl (k := 0) rfl (by rw [e21]; rfl) (by decide) rfl (fun ls hl => ?_)
                      refine lv_goto (tgt := 7) hx hb dJ1_indexOfChar_4cfef_28 (by decide) ?_
                      refine lv_iload hx hb dJ1_indexOfChar_4cfef_7 (lv_at hl 0 rfl) ?_
                      refine lv_iload_n hx hb dJ1_indexOfChar_4cfef_9 rfl (lv_at hl 5 rfl) ?_
                      refine lv_icmp_ge (tgt := 31) hx hb dJ1_indexOfChar_4cfef_10 (by decide) (fun c22 => ?_) (fun c22 => ?_)
                      · --
                        exact iv_no (iv_le1 (b' := 5) c22 ia3 i21 (by decide)) (by decide)
                      · --
                        refine lv_aload_n hx hb dJ1_indexOfChar_4cfef_13 rfl (lv_at hl 2 rfl) ?_
                        refine lv_iload hx hb dJ1_indexOfChar_4cfef_14 (lv_at hl 0 rfl) ?_
                        refine va_tb hx hb (cx.2.2.1.1 3 (by decide)).2.2.2 hw.2.2.1 (iv_in i21 (by decide)) rfl dJ1_indexOfChar_4cfef_16 ?_
                        refine lv_topi (fun v23 e23 => ?_)
                        refine lv_iload hx hb dJ1_indexOfChar_4cfef_17 (lv_at hl 1 rfl) ?_
                        have nv23 : v23.toInt = 100 := by rw [e23, show v21 = 5 from i32_eq (by have : (5 : Int32).toInt = 5 := (by decide); have := (ia1).1; have := (ia1).2; have := (ia2).1; have := (ia2).2; have := (ia3).1; have := (ia3).2; have := (i21).1; have := (i21).2; have : (a2 : Int32).toInt < (a3 : Int32).toInt := iv_lt.mp (iv_nle c2); have : (v3 : Int32).toInt ≠ (v1 : Int32).toInt := fun q => c4 (Int32.toInt_inj.mp q); have : (v5 : Int32).toInt < (a3 : Int32).toInt := iv_lt.mp (iv_nle c6); have : (v7 : Int32).toInt ≠ (v1 : Int32).toInt := fun q => c8 (Int32.toInt_inj.mp q); have : (v9 : Int32).toInt < (a3 : Int32).toInt := iv_lt.mp (iv_nle c10); have : (v11 : Int32).toInt ≠ (v1 : Int32).toInt := fun q => c12 (Int32.toInt_inj.mp q); have : (v13 : Int32).toInt < (a3 : Int32).toInt := iv_lt.mp (iv_nle c14); have : (v15 : Int32).toInt ≠ (v1 : Int32).toInt := fun q => c16 (Int32.toInt_inj.mp q); have : (v17 : Int32).toInt < (a3 : Int32).toInt := iv_lt.mp (iv_nle c18); have : (v19 : Int32).toInt ≠ (v1 : Int32).toInt := fun q => c20 (Int32.toInt_inj.mp q); have : (v21 : Int32).toInt < (a3 : Int32).toInt := iv_lt.mp (iv_nle c22); omega)]; decide
                        refine lv_icmp_ne (tgt := 25) hx hb dJ1_indexOfChar_4cfef_19 (by decide) (fun c24 => ?_) (fun c24 => ?_)
                        · --
                          obtain ⟨v25, e25⟩ : ∃ y : Int32, y = v21 + 1 := ⟨_, rfl⟩
                          have i25 : Iv v25 6 6 := iv_add e25 i21 (⟨by decide, by decide⟩ : Iv 1 1 1) (by decide)
                          have x25 : v25.toInt = v21.toInt + 1 := ex_add e25 i21 (⟨by decide, by decide⟩ : Iv 1 1 1) (by decide)
                          have y25 : v25.toInt = a2.toInt + 6 := by rw [x25, y21]; omega
                          refine lv_iinc (v := v25) (lv' := [(5, .int v25), (4, .int v1), (0, .ref (K.2 3)), (1, .int a1), (2, .int a2), (3, .int a3)]) hx hb dJ1_indexOfChar_4cfef_25 hl (k := 0) rfl (by rw [e25]; rfl) (by decide) rfl (fun ls hl => ?_)
                          refine lv_goto (tgt := 7) hx hb dJ1_indexOfChar_4cfef_28 (by decide) ?_
                          refine lv_iload hx hb dJ1_indexOfChar_4cfef_7 (lv_at hl 0 rfl) ?_
                          refine lv_iload_n hx hb dJ1_indexOfChar_4cfef_9 rfl (lv_at hl 5 rfl) ?_
                          refine lv_icmp_ge (tgt := 31) hx hb dJ1_indexOfChar_4cfef_10 (by decide) (fun c26 => ?_) (fun c26 => ?_)
                          · --
                            refine lv_iconst (v := (-1)) hx hb dJ1_indexOfChar_4cfef_31 (by decide) ?_
                            rw [← hQ]
                            exact o_ri cx rx hw dJ1_indexOfChar_4cfef_32 ⟨rfl, (iv_w (⟨by decide, by decide⟩ : Iv (-1) (-1) (-1)) (by decide)), (by exact (by have := (ia1).1; have := (ia1).2; have := (ia2).1; have := (ia2).2; have := (ia3).1; have := (ia3).2; have := (i25).1; have := (i25).2; have : (a2 : Int32).toInt < (a3 : Int32).toInt := iv_lt.mp (iv_nle c2); have : (v3 : Int32).toInt ≠ (v1 : Int32).toInt := fun q => c4 (Int32.toInt_inj.mp q); have : (v5 : Int32).toInt < (a3 : Int32).toInt := iv_lt.mp (iv_nle c6); have : (v7 : Int32).toInt ≠ (v1 : Int32).toInt := fun q => c8 (Int32.toInt_inj.mp q); have : (v9 : Int32).toInt < (a3 : Int32).toInt := iv_lt.mp (iv_nle c10); have : (v11 : Int32).toInt ≠ (v1 : Int32).toInt := fun q => c12 (Int32.toInt_inj.mp q); have : (v13 : Int32).toInt < (a3 : Int32).toInt := iv_lt.mp (iv_nle c14); have : (v15 : Int32).toInt ≠ (v1 : Int32).toInt := fun q => c16 (Int32.toInt_inj.mp q); have : (v17 : Int32).toInt < (a3 : Int32).toInt := iv_lt.mp (iv_nle c18); have : (v19 : Int32).toInt ≠ (v1 : Int32).toInt := fun q => c20 (Int32.toInt_inj.mp q); have : (v21 : Int32).toInt < (a3 : Int32).toInt := iv_lt.mp (iv_nle c22); have : (v23 : Int32).toInt ≠ (v1 : Int32).toInt := fun q => c24 (Int32.toInt_inj.mp q); have : (a3 : Int32).toInt ≤ (v25 : Int32).toInt := iv_le.mp c26; have : ((-1) : Int32).toInt = (-1) := (by decide); omega))⟩
                          · --
                            exact iv_no (iv_lt1 (b' := 5) (iv_nle c26) i25 ia3 (by decide)) (by decide)
                        · --
                          refine lv_iload hx hb dJ1_indexOfChar_4cfef_22 (lv_at hl 0 rfl) ?_
                          rw [← hQ]
                          exact o_ri cx rx hw dJ1_indexOfChar_4cfef_24 ⟨rfl, (iv_w i21 (by decide)), (by exact (by have := (ia1).1; have := (ia1).2; have := (ia2).1; have := (ia2).2; have := (ia3).1; have := (ia3).2; have := (i21).1; have := (i21).2; have : (a2 : Int32).toInt < (a3 : Int32).toInt := iv_lt.mp (iv_nle c2); have : (v3 : Int32).toInt ≠ (v1 : Int32).toInt := fun q => c4 (Int32.toInt_inj.mp q); have : (v5 : Int32).toInt < (a3 : Int32).toInt := iv_lt.mp (iv_nle c6); have : (v7 : Int32).toInt ≠ (v1 : Int32).toInt := fun q => c8 (Int32.toInt_inj.mp q); have : (v9 : Int32).toInt < (a3 : Int32).toInt := iv_lt.mp (iv_nle c10); have : (v11 : Int32).toInt ≠ (v1 : Int32).toInt := fun q => c12 (Int32.toInt_inj.mp q); have : (v13 : Int32).toInt < (a3 : Int32).toInt := iv_lt.mp (iv_nle c14); have : (v15 : Int32).toInt ≠ (v1 : Int32).toInt := fun q => c16 (Int32.toInt_inj.mp q); have : (v17 : Int32).toInt < (a3 : Int32).toInt := iv_lt.mp (iv_nle c18); have : (v19 : Int32).toInt ≠ (v1 : Int32).toInt := fun q => c20 (Int32.toInt_inj.mp q); have : (v21 : Int32).toInt < (a3 : Int32).toInt := iv_lt.mp (iv_nle c22); have : (v23 : Int32).toInt = (v1 : Int32).toInt := congrArg Int32.toInt c24; omega))⟩
                    · --
                      refine lv_iload hx hb dJ1_indexOfChar_4cfef_22 (lv_at hl 0 rfl) ?_
                      rw [← hQ]
                      exact o_ri cx rx hw dJ1_indexOfChar_4cfef_24 ⟨rfl, (iv_w i17 (by decide)), (by exact (by have := (ia1).1; have := (ia1).2; have := (ia2).1; have := (ia2).2; have := (ia3).1; have := (ia3).2; have := (i17).1; have := (i17).2; have : (a2 : Int32).toInt < (a3 : Int32).toInt := iv_lt.mp (iv_nle c2); have : (v3 : Int32).toInt ≠ (v1 : Int32).toInt := fun q => c4 (Int32.toInt_inj.mp q); have : (v5 : Int32).toInt < (a3 : Int32).toInt := iv_lt.mp (iv_nle c6); have : (v7 : Int32).toInt ≠ (v1 : Int32).toInt := fun q => c8 (Int32.toInt_inj.mp q); have : (v9 : Int32).toInt < (a3 : Int32).toInt := iv_lt.mp (iv_nle c10); have : (v11 : Int32).toInt ≠ (v1 : Int32).toInt := fun q => c12 (Int32.toInt_inj.mp q); have : (v13 : Int32).toInt < (a3 : Int32).toInt := iv_lt.mp (iv_nle c14); have : (v15 : Int32).toInt ≠ (v1 : Int32).toInt := fun q => c16 (Int32.toInt_inj.mp q); have : (v17 : Int32).toInt < (a3 : Int32).toInt := iv_lt.mp (iv_nle c18); have : (v19 : Int32).toInt = (v1 : Int32).toInt := congrArg Int32.toInt c20; omega))⟩
                · --
                  refine lv_iload hx hb dJ1_indexOfChar_4cfef_22 (lv_at hl 0 rfl) ?_
                  rw [← hQ]
                  exact o_ri cx rx hw dJ1_indexOfChar_4cfef_24 ⟨rfl, (iv_w i13 (by decide)), (by exact (by have := (ia1).1; have := (ia1).2; have := (ia2).1; have := (ia2).2; have := (ia3).1; have := (ia3).2; have := (i13).1; have := (i13).2; have : (a2 : Int32).toInt < (a3 : Int32).toInt := iv_lt.mp (iv_nle c2); have : (v3 : Int32).toInt ≠ (v1 : Int32).toInt := fun q => c4 (Int32.toInt_inj.mp q); have : (v5 : Int32).toInt < (a3 : Int32).toInt := iv_lt.mp (iv_nle c6); have : (v7 : Int32).toInt ≠ (v1 : Int32).toInt := fun q => c8 (Int32.toInt_inj.mp q); have : (v9 : Int32).toInt < (a3 : Int32).toInt := iv_lt.mp (iv_nle c10); have : (v11 : Int32).toInt ≠ (v1 : Int32).toInt := fun q => c12 (Int32.toInt_inj.mp q); have : (v13 : Int32).toInt < (a3 : Int32).toInt := iv_lt.mp (iv_nle c14); have : (v15 : Int32).toInt = (v1 : Int32).toInt := congrArg Int32.toInt c16; omega))⟩
            · --
              refine lv_iload hx hb dJ1_indexOfChar_4cfef_22 (lv_at hl 0 rfl) ?_
              rw [← hQ]
              exact o_ri cx rx hw dJ1_indexOfChar_4cfef_24 ⟨rfl, (iv_w i9 (by decide)), (by exact (by have := (ia1).1; have := (ia1).2; have := (ia2).1; have := (ia2).2; have := (ia3).1; have := (ia3).2; have := (i9).1; have := (i9).2; have : (a2 : Int32).toInt < (a3 : Int32).toInt := iv_lt.mp (iv_nle c2); have : (v3 : Int32).toInt ≠ (v1 : Int32).toInt := fun q => c4 (Int32.toInt_inj.mp q); have : (v5 : Int32).toInt < (a3 : Int32).toInt := iv_lt.mp (iv_nle c6); have : (v7 : Int32).toInt ≠ (v1 : Int32).toInt := fun q => c8 (Int32.toInt_inj.mp q); have : (v9 : Int32).toInt < (a3 : Int32).toInt := iv_lt.mp (iv_nle c10); have : (v11 : Int32).toInt = (v1 : Int32).toInt := congrArg Int32.toInt c12; omega))⟩
        · --
          refine lv_iload hx hb dJ1_indexOfChar_4cfef_22 (lv_at hl 0 rfl) ?_
          rw [← hQ]
          exact o_ri cx rx hw dJ1_indexOfChar_4cfef_24 ⟨rfl, (iv_w i5 (by decide)), (by exact (by have := (ia1).1; have := (ia1).2; have := (ia2).1; have := (ia2).2; have := (ia3).1; have := (ia3).2; have := (i5).1; have := (i5).2; have : (a2 : Int32).toInt < (a3 : Int32).toInt := iv_lt.mp (iv_nle c2); have : (v3 : Int32).toInt ≠ (v1 : Int32).toInt := fun q => c4 (Int32.toInt_inj.mp q); have : (v5 : Int32).toInt < (a3 : Int32).toInt := iv_lt.mp (iv_nle c6); have : (v7 : Int32).toInt = (v1 : Int32).toInt := congrArg Int32.toInt c8; omega))⟩
    · --
      refine lv_iload hx hb dJ1_indexOfChar_4cfef_22 (lv_at hl 0 rfl) ?_
      rw [← hQ]
      exact o_ri cx rx hw dJ1_indexOfChar_4cfef_24 ⟨rfl, (iv_w ia2 (by decide)), (by exact (by have := (ia1).1; have := (ia1).2; have := (ia2).1; have := (ia2).2; have := (ia3).1; have := (ia3).2; have : (a2 : Int32).toInt < (a3 : Int32).toInt := iv_lt.mp (iv_nle c2); have : (v3 : Int32).toInt = (v1 : Int32).toInt := congrArg Int32.toInt c4; omega))⟩
end OM
