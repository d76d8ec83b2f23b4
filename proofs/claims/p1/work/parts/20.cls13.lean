section OM
variable {l : Launch} {A : Nat → Prop} {L : List Nat} {τ : Nat → Nat} {cy : Nat → ClassId} {D : va_G} {K : (Nat → Nat) × (Nat → Nat)} {σ : oSt}
set_option maxHeartbeats 4000000 in
set_option maxRecDepth 100000 in
theorem c_X11_isRoad (a0 : Nat) (ha0 : oA L τ a0 10) (a1 : Nat) (ha1 : oA L τ a1 48) (a2 : Int32) (ia2 : Iv a2 0 63) : oMet l A L τ cy D K yX11_isRoad cX11_isRoad 3 (some .boolean) 0 0 [.ref a0, .ref a1, .int a2] σ (va_Qi (fun r σ1 => σ1 = σ ∧ Iv r 0 1) (oPo A L τ cy D) A) := by
  refine oMk (by decide) (Nat.le_of_ble_eq_true rfl) rfl ?_
  intro p e s m args below meth c ls cx rx hA hw hl
  generalize hQ : MQ below _ args s 0 0 A = Q
  have hx := cx.1.1
  have hb := cx.1.2.1
  have hml := cx.1.2.2.1
  have hown := cx.1.2.2.2.1
  have hts := cx.1.2.2.2.2
  have hl : lv_has ls 3 [(0, .ref a0), (1, .ref a1), (2, .int a2)] := hl
  refine lv_aload_n hx hb dX11_isRoad_0 rfl (lv_at hl 1 rfl) ?_
  refine lv_sipush (v := 192) hx hb dX11_isRoad_1 (by decide) ?_
  refine lv_iload_n hx hb dX11_isRoad_4 rfl (lv_at hl 2 rfl) ?_
  refine lv_iadd hx hb dX11_isRoad_5 ?_
  refine lv_topi (fun v1 e1 => ?_)
  have i1 : Iv v1 192 255 := iv_add e1 (⟨by decide, by decide⟩ : Iv 192 192 192) ia2 (by decide)
  have x1 : v1.toInt = a2.toInt + 192 := (ex_add e1 (⟨by decide, by decide⟩ : Iv 192 192 192) ia2 (by decide)).trans (Int.add_comm _ _)
  refine o_iald cx hw ha1 (by decide) rfl (iv_in i1 (by decide)) dX11_isRoad_6 (fun v2 e2 b2 => ?_)
  refine lv_iconst (v := (-1)) hx hb dX11_isRoad_7 (by decide) ?_
  refine lv_icmp_eq (tgt := 35) hx hb dX11_isRoad_8 (by decide) (fun c3 => ?_) (fun c3 => ?_)
  · --
    have i4 : Iv v2 (-1) (-1) := iv_eq1 c3 (iv_top v2) (⟨by decide, by decide⟩ : Iv (-1) (-1) (-1)) (by decide)
    refine lv_iconst (v := 0) hx hb dX11_isRoad_35 (by decide) ?_
    rw [← hQ]
    exact o_rz cx rx hw (iv_nz01 (iv_w (⟨by decide, by decide⟩ : Iv 0 0 0) (by decide))) dX11_isRoad_36 ⟨rfl, (iv_w (⟨by decide, by decide⟩ : Iv 0 0 0) (by decide))⟩
  · --
    refine lv_aload_n hx hb dX11_isRoad_11 rfl (lv_at hl 1 rfl) ?_
    refine lv_sipush (v := 333) hx hb dX11_isRoad_12 (by decide) ?_
    refine o_iald cx hw ha1 (by decide) rfl (iv_in (⟨by decide, by decide⟩ : Iv 333 333 333) (by decide)) dX11_isRoad_15 (fun v5 e5 b5 => ?_)
    refine lv_aload_n hx hb dX11_isRoad_16 rfl (lv_at hl 1 rfl) ?_
    refine lv_sipush (v := 192) hx hb dX11_isRoad_17 (by decide) ?_
    refine lv_iload_n hx hb dX11_isRoad_20 rfl (lv_at hl 2 rfl) ?_
    refine lv_iadd hx hb dX11_isRoad_21 ?_
    refine lv_topi (fun v6 e6 => ?_)
    have i6 : Iv v6 192 255 := iv_add e6 (⟨by decide, by decide⟩ : Iv 192 192 192) ia2 (by decide)
    have x6 : v6.toInt = a2.toInt + 192 := (ex_add e6 (⟨by decide, by decide⟩ : Iv 192 192 192) ia2 (by decide)).trans (Int.add_comm _ _)
    refine o_iald cx hw ha1 (by decide) rfl (iv_in i6 (by decide)) dX11_isRoad_22 (fun v7 e7 b7 => ?_)
    refine lv_isub hx hb dX11_isRoad_23 ?_
    refine lv_topi (fun v8 e8 => ?_)
    refine lv_aload_n hx hb dX11_isRoad_24 rfl (lv_at hl 0 rfl) ?_
    refine g_650 cx hw ha0 k_f_X11_25 dX11_isRoad_25 (fun v9 e9 => ?_)
    refine lv_icmp_gt (tgt := 35) hx hb dX11_isRoad_28 (by decide) (fun c10 => ?_) (fun c10 => ?_)
    · --
      have i11 : Iv v9 (-2147483648) 2147483646 := iv_lt1 c10 (iv_top v9) (iv_top v8) (by decide)
      have i12 : Iv v8 (-2147483647) 2147483647 := iv_lt2 c10 (iv_top v9) (iv_top v8) (by decide)
      refine lv_iconst (v := 0) hx hb dX11_isRoad_35 (by decide) ?_
      rw [← hQ]
      exact o_rz cx rx hw (iv_nz01 (iv_w (⟨by decide, by decide⟩ : Iv 0 0 0) (by decide))) dX11_isRoad_36 ⟨rfl, (iv_w (⟨by decide, by decide⟩ : Iv 0 0 0) (by decide))⟩
    · --
      refine lv_iconst (v := 1) hx hb dX11_isRoad_31 (by decide) ?_
      refine lv_goto (tgt := 36) hx hb dX11_isRoad_32 (by decide) ?_
      rw [← hQ]
      exact o_rz cx rx hw (iv_nz01 (iv_w (⟨by decide, by decide⟩ : Iv 1 1 1) (by decide))) dX11_isRoad_36 ⟨rfl, (iv_w (⟨by decide, by decide⟩ : Iv 1 1 1) (by decide))⟩
set_option maxHeartbeats 4000000 in
set_option maxRecDepth 100000 in
theorem c_X11_canBe (a0 : Nat) (ha0 : oA L τ a0 10) (a1 : Nat) (ha1 : oA L τ a1 48) (a2 : Int32) (ia2 : Iv a2 0 63) : oMet l A L τ cy D K yX11_canBe cX11_canBe 3 (some .boolean) 1 22 [.ref a0, .ref a1, .int a2] σ (va_Qi (fun r σ1 => σ1 = σ ∧ Iv r 0 1) (oPo A L τ cy D) A) := by
  refine oMk (by decide) (Nat.le_of_ble_eq_true rfl) rfl ?_
  intro p e s m args below meth c ls cx rx hA hw hl
  generalize hQ : MQ below _ args s 0 0 A = Q
  have hx := cx.1.1
  have hb := cx.1.2.1
  have hml := cx.1.2.2.1
  have hown := cx.1.2.2.2.1
  have hts := cx.1.2.2.2.2
  have hl : lv_has ls 3 [(0, .ref a0), (1, .ref a1), (2, .int a2)] := hl
  refine lv_aload_n hx hb dX11_canBe_0 rfl (lv_at hl 0 rfl) ?_
  refine g_643 cx hw ha0 k_f_X11_13 dX11_canBe_1 (fun v1 e1 h1 => ?_)
  refine lv_iload_n hx hb dX11_canBe_4 rfl (lv_at hl 2 rfl) ?_
  refine o_iald cx hw h1 (by decide) rfl (iv_in ia2 (by decide)) dX11_canBe_5 (fun v2 e2 b2 => ?_)
  have J_37 : ∀ (H : Heap) (locs : List Loc), oI A L τ cy D s.heap σ H locs → ∀ (ls : Array Slot), lv_has ls 3 [(0, .ref a0), (1, .ref a1), (2, .int a2)] → W p l e ({ frames := 1, cells := 0, slots := 0, locals := 22 } : Room) s m args below meth c H locs 0 0 Q (F0 m 37 ls []) := by
    intro  H locs hw     ls hl
    refine lv_iconst (v := 1) hx hb dX11_canBe_37 (by decide) ?_
    refine lv_goto (tgt := 42) hx hb dX11_canBe_38 (by decide) ?_
    rw [← hQ]
    exact o_rz cx rx hw (iv_nz01 (iv_w (⟨by decide, by decide⟩ : Iv 1 1 1) (by decide))) dX11_canBe_42 ⟨rfl, (iv_w (⟨by decide, by decide⟩ : Iv 1 1 1) (by decide))⟩
  refine lv_if_eq (tgt := 37) hx hb dX11_canBe_6 (by decide) (fun c3 => ?_) (fun c3 => ?_)
  · --
    have i4 : Iv v2 0 0 := iv_eq1 c3 (iv_top v2) (⟨by decide, by decide⟩ : Iv 0 0 0) (by decide)
    exact J_37 _ _ hw _ (lv_sub hl [0, 1, 2] rfl)
  · --
    refine lv_aload_n hx hb dX11_canBe_9 rfl (lv_at hl 0 rfl) ?_
    refine g_643 cx hw ha0 k_f_X11_13 dX11_canBe_10 (fun v5 e5 h5 => ?_)
    rw [show v5 = v1 from Option.some.inj (e5.symm.trans (e1))]
    refine lv_iload_n hx hb dX11_canBe_13 rfl (lv_at hl 2 rfl) ?_
    refine o_iald cx hw h1 (by decide) rfl (iv_in ia2 (by decide)) dX11_canBe_14 (fun v6 e6 b6 => ?_)
    refine lv_iconst (v := 2) hx hb dX11_canBe_15 (by decide) ?_
    refine lv_icmp_ne (tgt := 41) hx hb dX11_canBe_16 (by decide) (fun c7 => ?_) (fun c7 => ?_)
    · --
      refine lv_iconst (v := 0) hx hb dX11_canBe_41 (by decide) ?_
      rw [← hQ]
      exact o_rz cx rx hw (iv_nz01 (iv_w (⟨by decide, by decide⟩ : Iv 0 0 0) (by decide))) dX11_canBe_42 ⟨rfl, (iv_w (⟨by decide, by decide⟩ : Iv 0 0 0) (by decide))⟩
    · --
      have i8 : Iv v6 2 2 := iv_eq1 c7 (iv_top v6) (⟨by decide, by decide⟩ : Iv 2 2 2) (by decide)
      refine lv_aload_n hx hb dX11_canBe_19 rfl (lv_at hl 1 rfl) ?_
      refine lv_sipush (v := 332) hx hb dX11_canBe_20 (by decide) ?_
      refine o_iald cx hw ha1 (by decide) rfl (iv_in (⟨by decide, by decide⟩ : Iv 332 332 332) (by decide)) dX11_canBe_23 (fun v9 e9 b9 => ?_)
      refine lv_i2l hx hb dX11_canBe_24 rfl ?_
      refine lv_topl (fun v10 e10 => ?_)
      refine lv_aload_n hx hb dX11_canBe_25 rfl (lv_at hl 0 rfl) ?_
      refine g_644 cx hw ha0 k_f_X11_16 dX11_canBe_26 (fun v11 e11 h11 => ?_)
      refine lv_iload_n hx hb dX11_canBe_29 rfl (lv_at hl 2 rfl) ?_
      refine o_iald cx hw h11 (by decide) rfl (iv_in ia2 (by decide)) dX11_canBe_30 (fun v12 e12 b12 => ?_)
      refine o_ci hw (oRunS cx hA hw q_X11_has k_m_X11_215 (As := [.long v10, .int v12]) (c_X11_has v10 v12) (by decide) rfl hl.1 rfl (Nat.le_of_ble_eq_true rfl) dX11_canBe_31 (by decide)) (fun v14 σ13 H locs hp hw => ?_)
      obtain ⟨p14_0, p14_1, p14_2⟩ := hp
      rw [p14_0] at hw
      refine lv_if_eq (tgt := 41) hx hb dX11_canBe_34 (by decide) (fun c15 => ?_) (fun c15 => ?_)
      · --
        have i16 : Iv v14 0 0 := iv_eq1 c15 p14_1 (⟨by decide, by decide⟩ : Iv 0 0 0) (by decide)
        refine lv_iconst (v := 0) hx hb dX11_canBe_41 (by decide) ?_
        rw [← hQ]
        exact o_rz cx rx hw (iv_nz01 (iv_w (⟨by decide, by decide⟩ : Iv 0 0 0) (by decide))) dX11_canBe_42 ⟨rfl, (iv_w (⟨by decide, by decide⟩ : Iv 0 0 0) (by decide))⟩
      · --
        have i17 : Iv v14 1 1 := iv_ne1 c15 p14_1 (⟨by decide, by decide⟩ : Iv 0 0 0) (by decide)
        exact J_37 _ _ hw _ (lv_sub hl [0, 1, 2] rfl)
set_option maxHeartbeats 4000000 in
set_option maxRecDepth 100000 in
theorem c_X11_beside (a0 : Nat) (ha0 : oA L τ a0 10) (a1 : Int32) (ia1 : Iv a1 0 63) (a2 : Int32) : oMet l A L τ cy D K yX11_beside cX11_beside 5 (some .int) 1 22 [.ref a0, .int a1, .int a2] σ (va_Qi (fun r σ1 => σ1 = σ ∧ Iv r (-1) (-1) ∧ (r = bs_F (σ.1 641 a0) (σ.1 642 a0) a1 a2)) (oPo A L τ cy D) A) := by
  refine oMk (by decide) (Nat.le_of_ble_eq_true rfl) rfl ?_
  intro p e s m args below meth c ls cx rx hA hw hl
  generalize hQ : MQ below _ args s 0 0 A = Q
  have hx := cx.1.1
  have hb := cx.1.2.1
  have hml := cx.1.2.2.1
  have hown := cx.1.2.2.2.1
  have hts := cx.1.2.2.2.2
  have hl : lv_has ls 5 [(0, .ref a0), (1, .int a1), (2, .int a2)] := hl
  refine lv_iload_n hx hb dX11_beside_0 rfl (lv_at hl 1 rfl) ?_
  refine lv_bipush (v := 8) hx hb dX11_beside_1 (by decide) ?_
  refine lv_irem hx hb dX11_beside_3 (iv_nz (⟨by decide, by decide⟩ : Iv 8 8 8) (by decide)) ?_
  refine lv_topi (fun v1 e1 => ?_)
  have i1 : Iv v1 0 7 := iv_rem e1 ia1 (⟨by decide, by decide⟩ : Iv 8 8 8) (by decide)
  refine lv_iload_n hx hb dX11_beside_4 rfl (lv_at hl 2 rfl) ?_
  refine lv_iconst (v := 1) hx hb dX11_beside_5 (by decide) ?_
  refine lv_icmp_ne (tgt := 13) hx hb dX11_beside_6 (by decide) (fun c2 => ?_) (fun c2 => ?_)
  · --
    refine lv_iload_n hx hb dX11_beside_13 rfl (lv_at hl 2 rfl) ?_
    refine lv_iconst (v := 3) hx hb dX11_beside_14 (by decide) ?_
    refine lv_icmp_ne (tgt := 22) hx hb dX11_beside_15 (by decide) (fun c3 => ?_) (fun c3 => ?_)
    · --
      refine lv_iconst (v := 0) hx hb dX11_beside_22 (by decide) ?_
      refine lv_iadd hx hb dX11_beside_23 ?_
      refine lv_topi (fun v4 e4 => ?_)
      have i4 : Iv v4 0 7 := iv_add e4 i1 (⟨by decide, by decide⟩ : Iv 0 0 0) (by decide)
      have x4 : v4.toInt = v1.toInt + 0 := ex_add e4 i1 (⟨by decide, by decide⟩ : Iv 0 0 0) (by decide)
      refine lv_istore_n (lv' := [(3, .int v4), (0, .ref a0), (1, .int a1), (2, .int a2)]) hx hb dX11_beside_24 rfl hl (by decide) rfl (fun ls hl => ?_)
      refine lv_iload_n hx hb dX11_beside_25 rfl (lv_at hl 2 rfl) ?_
      refine lv_bipush (v := 8) hx hb dX11_beside_26 (by decide) ?_
      refine lv_idiv hx hb dX11_beside_28 (iv_nz (⟨by decide, by decide⟩ : Iv 8 8 8) (by decide)) ?_
      refine lv_topi (fun v5 e5 => ?_)
      have i5 : Iv v5 0 7 := iv_divc e5 ia1 (⟨by decide, by decide⟩ : Iv 8 8 8) (by decide)
      refine lv_iload_n hx hb dX11_beside_29 rfl (lv_at hl 3 rfl) ?_
      refine lv_if_ne (tgt := 37) hx hb dX11_beside_30 (by decide) (fun c6 => ?_) (fun c6 => ?_)
      · --
        refine lv_iload_n hx hb dX11_beside_37 rfl (lv_at hl 3 rfl) ?_
        refine lv_iconst (v := 2) hx hb dX11_beside_38 (by decide) ?_
        refine lv_icmp_ne (tgt := 46) hx hb dX11_beside_39 (by decide) (fun c7 => ?_) (fun c7 => ?_)
        · --
          refine lv_iconst (v := 0) hx hb dX11_beside_46 (by decide) ?_
          refine lv_iadd hx hb dX11_beside_47 ?_
          refine lv_topi (fun v8 e8 => ?_)
          have i8 : Iv v8 0 7 := iv_add e8 i5 (⟨by decide, by decide⟩ : Iv 0 0 0) (by decide)
          have x8 : v8.toInt = v5.toInt + 0 := ex_add e8 i5 (⟨by decide, by decide⟩ : Iv 0 0 0) (by decide)
          refine lv_istore (lv' := [(4, .int v8), (3, .int v4), (0, .ref a0), (1, .int a1), (2, .int a2)]) hx hb dX11_beside_48 hl (by decide) rfl (fun ls hl => ?_)
          refine lv_iload_n hx hb dX11_beside_50 rfl (lv_at hl 1 rfl) ?_
          refine lv_iconst (v := 0) hx hb dX11_beside_51 (by decide) ?_
          refine lv_aload_n hx hb dX11_beside_52 rfl (lv_at hl 2 rfl) ?_
          refine g_641 cx hw ha0 k_f_X11_99 dX11_beside_53 (fun v9 e9 i9 => ?_)
          have z9 : v9.toInt = (σ.1 641 a0).toInt := congrArg Int32.toInt e9
          refine lv_iconst (v := 1) hx hb dX11_beside_56 (by decide) ?_
          refine lv_isub hx hb dX11_beside_57 ?_
          refine lv_topi (fun v10 e10 => ?_)
          have i10 : Iv v10 (-1) (-1) := iv_sub e10 i9 (⟨by decide, by decide⟩ : Iv 1 1 1) (by decide)
          have x10 : v10.toInt = v9.toInt + (-1) := ex_sub e10 i9 (⟨by decide, by decide⟩ : Iv 1 1 1) (by decide)
          refine o_ci hw (oRunS cx hA hw q_X11_in k_m_X11_95 (As := [.int v4, .int 0, .int v10]) (c_X11_in v4 0 v10) (by decide) rfl hl.1 rfl (Nat.le_of_ble_eq_true rfl) dX11_beside_58 (by decide)) (fun v12 σ11 H locs hp hw => ?_)
          obtain ⟨p12_0, p12_1, p12_2, p12_3, p12_4⟩ := hp
          rw [p12_0] at hw
          have i13 : Iv v12 0 0 := (by have := (ia1).1; have := (ia1).2; have := (i4).1; have := (i4).2; have := (i8).1; have := (i8).2; have := (p12_1).1; have := (p12_1).2; have := (i9).1; have := (i9).2; have := (i1).1; have := (i1).2; have := (i5).1; have := (i5).2; have := (i10).1; have := (i10).2; have : (σ.1 641 a0).toInt = (v9 : Int32).toInt := congrArg Int32.toInt (show σ.1 641 a0 = v9 from e9.symm); have : (a2 : Int32).toInt ≠ (1 : Int32).toInt := fun q => c2 (Int32.toInt_inj.mp q); have : (a2 : Int32).toInt ≠ (3 : Int32).toInt := fun q => c3 (Int32.toInt_inj.mp q); have : (a2 : Int32).toInt ≠ (0 : Int32).toInt := fun q => c6 (Int32.toInt_inj.mp q); have : (a2 : Int32).toInt ≠ (2 : Int32).toInt := fun q => c7 (Int32.toInt_inj.mp q); have : (0 : Int32).toInt = 0 := (by decide); have : (1 : Int32).toInt = 1 := (by decide); have : (2 : Int32).toInt = 2 := (by decide); have : (3 : Int32).toInt = 3 := (by decide); exact ⟨by omega, by omega⟩)
          refine lv_if_eq (tgt := 89) hx hb dX11_beside_61 (by decide) (fun c14 => ?_) (fun c14 => ?_)
          · --
            refine lv_iconst (v := (-1)) hx hb dX11_beside_89 (by decide) ?_
            rw [← hQ]
            exact o_ri cx rx hw dX11_beside_90 ⟨rfl, (iv_w (⟨by decide, by decide⟩ : Iv (-1) (-1) (-1)) (by decide)), (by have hx9 : bs_x a1 a2 = v4 := (by rw [bs_x, if_neg c2, if_neg c3, e4, e1]); have hy9 : bs_y a1 a2 = v8 := (by rw [bs_y, if_neg c6, if_neg c7, e8, e5]); rw [bs_F, hx9, hy9, ← e9, ← e10, ← p12_4, if_pos c14])⟩
          · --
            exact iv_no (iv_ne1 c14 i13 (⟨by decide, by decide⟩ : Iv 0 0 0) (by decide)) (by decide)
        · --
          have i15 : Iv a2 2 2 := iv_eq1 c7 (iv_top a2) (⟨by decide, by decide⟩ : Iv 2 2 2) (by decide)
          refine lv_iconst (v := 1) hx hb dX11_beside_42 (by decide) ?_
          refine lv_goto (tgt := 47) hx hb dX11_beside_43 (by decide) ?_
          refine lv_iadd hx hb dX11_beside_47 ?_
          refine lv_topi (fun v16 e16 => ?_)
          have i16 : Iv v16 1 8 := iv_add e16 i5 (⟨by decide, by decide⟩ : Iv 1 1 1) (by decide)
          have x16 : v16.toInt = v5.toInt + 1 := ex_add e16 i5 (⟨by decide, by decide⟩ : Iv 1 1 1) (by decide)
          refine lv_istore (lv' := [(4, .int v16), (3, .int v4), (0, .ref a0), (1, .int a1), (2, .int a2)]) hx hb dX11_beside_48 hl (by decide) rfl (fun ls hl => ?_)
          refine lv_iload_n hx hb dX11_beside_50 rfl (lv_at hl 1 rfl) ?_
          refine lv_iconst (v := 0) hx hb dX11_beside_51 (by decide) ?_
          refine lv_aload_n hx hb dX11_beside_52 rfl (lv_at hl 2 rfl) ?_
          refine g_641 cx hw ha0 k_f_X11_99 dX11_beside_53 (fun v17 e17 i17 => ?_)
          have z17 : v17.toInt = (σ.1 641 a0).toInt := congrArg Int32.toInt e17
          refine lv_iconst (v := 1) hx hb dX11_beside_56 (by decide) ?_
          refine lv_isub hx hb dX11_beside_57 ?_
          refine lv_topi (fun v18 e18 => ?_)
          have i18 : Iv v18 (-1) (-1) := iv_sub e18 i17 (⟨by decide, by decide⟩ : Iv 1 1 1) (by decide)
          have x18 : v18.toInt = v17.toInt + (-1) := ex_sub e18 i17 (⟨by decide, by decide⟩ : Iv 1 1 1) (by decide)
          refine o_ci hw (oRunS cx hA hw q_X11_in k_m_X11_95 (As := [.int v4, .int 0, .int v18]) (c_X11_in v4 0 v18) (by decide) rfl hl.1 rfl (Nat.le_of_ble_eq_true rfl) dX11_beside_58 (by decide)) (fun v20 σ19 H locs hp hw => ?_)
          obtain ⟨p20_0, p20_1, p20_2, p20_3, p20_4⟩ := hp
          rw [p20_0] at hw
          have i21 : Iv v20 0 0 := (by have := (ia1).1; have := (ia1).2; have := (i15).1; have := (i15).2; have := (i4).1; have := (i4).2; have := (i16).1; have := (i16).2; have := (p20_1).1; have := (p20_1).2; have := (i17).1; have := (i17).2; have := (i1).1; have := (i1).2; have := (i5).1; have := (i5).2; have := (i18).1; have := (i18).2; have : (σ.1 641 a0).toInt = (v17 : Int32).toInt := congrArg Int32.toInt (show σ.1 641 a0 = v17 from e17.symm); have : (a2 : Int32).toInt ≠ (1 : Int32).toInt := fun q => c2 (Int32.toInt_inj.mp q); have : (a2 : Int32).toInt ≠ (3 : Int32).toInt := fun q => c3 (Int32.toInt_inj.mp q); have : (a2 : Int32).toInt ≠ (0 : Int32).toInt := fun q => c6 (Int32.toInt_inj.mp q); have : (a2 : Int32).toInt = (2 : Int32).toInt := congrArg Int32.toInt c7; have : (0 : Int32).toInt = 0 := (by decide); have : (1 : Int32).toInt = 1 := (by decide); have : (2 : Int32).toInt = 2 := (by decide); have : (3 : Int32).toInt = 3 := (by decide); exact ⟨by omega, by omega⟩)
          refine lv_if_eq (tgt := 89) hx hb dX11_beside_61 (by decide) (fun c22 => ?_) (fun c22 => ?_)
          · --
            refine lv_iconst (v := (-1)) hx hb dX11_beside_89 (by decide) ?_
            rw [← hQ]
            exact o_ri cx rx hw dX11_beside_90 ⟨rfl, (iv_w (⟨by decide, by decide⟩ : Iv (-1) (-1) (-1)) (by decide)), (by have hx9 : bs_x a1 a2 = v4 := (by rw [bs_x, if_neg c2, if_neg c3, e4, e1]); have hy9 : bs_y a1 a2 = v16 := (by rw [bs_y, if_neg c6, if_pos c7, e16, e5]); rw [bs_F, hx9, hy9, ← e17, ← e18, ← p20_4, if_pos c22])⟩
          · --
            exact iv_no (iv_ne1 c22 i21 (⟨by decide, by decide⟩ : Iv 0 0 0) (by decide)) (by decide)
      · --
        have i23 : Iv a2 0 0 := iv_eq1 c6 (iv_top a2) (⟨by decide, by decide⟩ : Iv 0 0 0) (by decide)
        refine lv_iconst (v := (-1)) hx hb dX11_beside_33 (by decide) ?_
        refine lv_goto (tgt := 47) hx hb dX11_beside_34 (by decide) ?_
        refine lv_iadd hx hb dX11_beside_47 ?_
        refine lv_topi (fun v24 e24 => ?_)
        have i24 : Iv v24 (-1) 6 := iv_add e24 i5 (⟨by decide, by decide⟩ : Iv (-1) (-1) (-1)) (by decide)
        have x24 : v24.toInt = v5.toInt + (-1) := ex_add e24 i5 (⟨by decide, by decide⟩ : Iv (-1) (-1) (-1)) (by decide)
        refine lv_istore (lv' := [(4, .int v24), (3, .int v4), (0, .ref a0), (1, .int a1), (2, .int a2)]) hx hb dX11_beside_48 hl (by decide) rfl (fun ls hl => ?_)
        refine lv_iload_n hx hb dX11_beside_50 rfl (lv_at hl 1 rfl) ?_
        refine lv_iconst (v := 0) hx hb dX11_beside_51 (by decide) ?_
        refine lv_aload_n hx hb dX11_beside_52 rfl (lv_at hl 2 rfl) ?_
        refine g_641 cx hw ha0 k_f_X11_99 dX11_beside_53 (fun v25 e25 i25 => ?_)
        have z25 : v25.toInt = (σ.1 641 a0).toInt := congrArg Int32.toInt e25
        refine lv_iconst (v := 1) hx hb dX11_beside_56 (by decide) ?_
        refine lv_isub hx hb dX11_beside_57 ?_
        refine lv_topi (fun v26 e26 => ?_)
        have i26 : Iv v26 (-1) (-1) := iv_sub e26 i25 (⟨by decide, by decide⟩ : Iv 1 1 1) (by decide)
        have x26 : v26.toInt = v25.toInt + (-1) := ex_sub e26 i25 (⟨by decide, by decide⟩ : Iv 1 1 1) (by decide)
        refine o_ci hw (oRunS cx hA hw q_X11_in k_m_X11_95 (As := [.int v4, .int 0, .int v26]) (c_X11_in v4 0 v26) (by decide) rfl hl.1 rfl (Nat.le_of_ble_eq_true rfl) dX11_beside_58 (by decide)) (fun v28 σ27 H locs hp hw => ?_)
        obtain ⟨p28_0, p28_1, p28_2, p28_3, p28_4⟩ := hp
        rw [p28_0] at hw
        have i29 : Iv v28 0 0 := (by have := (ia1).1; have := (ia1).2; have := (i23).1; have := (i23).2; have := (i4).1; have := (i4).2; have := (i24).1; have := (i24).2; have := (p28_1).1; have := (p28_1).2; have := (i25).1; have := (i25).2; have := (i1).1; have := (i1).2; have := (i5).1; have := (i5).2; have := (i26).1; have := (i26).2; have : (σ.1 641 a0).toInt = (v25 : Int32).toInt := congrArg Int32.toInt (show σ.1 641 a0 = v25 from e25.symm); have : (a2 : Int32).toInt ≠ (1 : Int32).toInt := fun q => c2 (Int32.toInt_inj.mp q); have : (a2 : Int32).toInt ≠ (3 : Int32).toInt := fun q => c3 (Int32.toInt_inj.mp q); have : (a2 : Int32).toInt = (0 : Int32).toInt := congrArg Int32.toInt c6; have : (0 : Int32).toInt = 0 := (by decide); have : (1 : Int32).toInt = 1 := (by decide); have : (3 : Int32).toInt = 3 := (by decide); exact ⟨by omega, by omega⟩)
        refine lv_if_eq (tgt := 89) hx hb dX11_beside_61 (by decide) (fun c30 => ?_) (fun c30 => ?_)
        · --
          refine lv_iconst (v := (-1)) hx hb dX11_beside_89 (by decide) ?_
          rw [← hQ]
          exact o_ri cx rx hw dX11_beside_90 ⟨rfl, (iv_w (⟨by decide, by decide⟩ : Iv (-1) (-1) (-1)) (by decide)), (by have hx9 : bs_x a1 a2 = v4 := (by rw [bs_x, if_neg c2, if_neg c3, e4, e1]); have hy9 : bs_y a1 a2 = v24 := (by rw [bs_y, if_pos c6, e24, e5]); rw [bs_F, hx9, hy9, ← e25, ← e26, ← p28_4, if_pos c30])⟩
        · --
          exact iv_no (iv_ne1 c30 i29 (⟨by decide, by decide⟩ : Iv 0 0 0) (by decide)) (by decide)
    · --
      have i31 : Iv a2 3 3 := iv_eq1 c3 (iv_top a2) (⟨by decide, by decide⟩ : Iv 3 3 3) (by decide)
      refine lv_iconst (v := (-1)) hx hb dX11_beside_18 (by decide) ?_
      refine lv_goto (tgt := 23) hx hb dX11_beside_19 (by decide) ?_
      refine lv_iadd hx hb dX11_beside_23 ?_
      refine lv_topi (fun v32 e32 => ?_)
      have i32 : Iv v32 (-1) 6 := iv_add e32 i1 (⟨by decide, by decide⟩ : Iv (-1) (-1) (-1)) (by decide)
      have x32 : v32.toInt = v1.toInt + (-1) := ex_add e32 i1 (⟨by decide, by decide⟩ : Iv (-1) (-1) (-1)) (by decide)
      refine lv_istore_n (lv' := [(3, .int v32), (0, .ref a0), (1, .int a1), (2, .int a2)]) hx hb dX11_beside_24 rfl hl (by decide) rfl (fun ls hl => ?_)
      refine lv_iload_n hx hb dX11_beside_25 rfl (lv_at hl 2 rfl) ?_
      refine lv_bipush (v := 8) hx hb dX11_beside_26 (by decide) ?_
      refine lv_idiv hx hb dX11_beside_28 (iv_nz (⟨by decide, by decide⟩ : Iv 8 8 8) (by decide)) ?_
      refine lv_topi (fun v33 e33 => ?_)
      have i33 : Iv v33 0 7 := iv_divc e33 ia1 (⟨by decide, by decide⟩ : Iv 8 8 8) (by decide)
      refine lv_iload_n hx hb dX11_beside_29 rfl (lv_at hl 3 rfl) ?_
      refine lv_if_ne (tgt := 37) hx hb dX11_beside_30 (by decide) (fun c34 => ?_) (fun c34 => ?_)
      · --
        refine lv_iload_n hx hb dX11_beside_37 rfl (lv_at hl 3 rfl) ?_
        refine lv_iconst (v := 2) hx hb dX11_beside_38 (by decide) ?_
        refine lv_icmp_ne (tgt := 46) hx hb dX11_beside_39 (by decide) (fun c35 => ?_) (fun c35 => ?_)
        · --
          refine lv_iconst (v := 0) hx hb dX11_beside_46 (by decide) ?_
          refine lv_iadd hx hb dX11_beside_47 ?_
          refine lv_topi (fun v36 e36 => ?_)
          have i36 : Iv v36 0 7 := iv_add e36 i33 (⟨by decide, by decide⟩ : Iv 0 0 0) (by decide)
          have x36 : v36.toInt = v33.toInt + 0 := ex_add e36 i33 (⟨by decide, by decide⟩ : Iv 0 0 0) (by decide)
          refine lv_istore (lv' := [(4, .int v36), (3, .int v32), (0, .ref a0), (1, .int a1), (2, .int a2)]) hx hb dX11_beside_48 hl (by decide) rfl (fun ls hl => ?_)
          refine lv_iload_n hx hb dX11_beside_50 rfl (lv_at hl 1 rfl) ?_
          refine lv_iconst (v := 0) hx hb dX11_beside_51 (by decide) ?_
          refine lv_aload_n hx hb dX11_beside_52 rfl (lv_at hl 2 rfl) ?_
          refine g_641 cx hw ha0 k_f_X11_99 dX11_beside_53 (fun v37 e37 i37 => ?_)
          have z37 : v37.toInt = (σ.1 641 a0).toInt := congrArg Int32.toInt e37
          refine lv_iconst (v := 1) hx hb dX11_beside_56 (by decide) ?_
          refine lv_isub hx hb dX11_beside_57 ?_
          refine lv_topi (fun v38 e38 => ?_)
          have i38 : Iv v38 (-1) (-1) := iv_sub e38 i37 (⟨by decide, by decide⟩ : Iv 1 1 1) (by decide)
          have x38 : v38.toInt = v37.toInt + (-1) := ex_sub e38 i37 (⟨by decide, by decide⟩ : Iv 1 1 1) (by decide)
          refine o_ci hw (oRunS cx hA hw q_X11_in k_m_X11_95 (As := [.int v32, .int 0, .int v38]) (c_X11_in v32 0 v38) (by decide) rfl hl.1 rfl (Nat.le_of_ble_eq_true rfl) dX11_beside_58 (by decide)) (fun v40 σ39 H locs hp hw => ?_)
          obtain ⟨p40_0, p40_1, p40_2, p40_3, p40_4⟩ := hp
          rw [p40_0] at hw
          have i41 : Iv v40 0 0 := (by have := (ia1).1; have := (ia1).2; have := (i31).1; have := (i31).2; have := (i32).1; have := (i32).2; have := (i36).1; have := (i36).2; have := (p40_1).1; have := (p40_1).2; have := (i37).1; have := (i37).2; have := (i1).1; have := (i1).2; have := (i33).1; have := (i33).2; have := (i38).1; have := (i38).2; have : (σ.1 641 a0).toInt = (v37 : Int32).toInt := congrArg Int32.toInt (show σ.1 641 a0 = v37 from e37.symm); have : (a2 : Int32).toInt ≠ (1 : Int32).toInt := fun q => c2 (Int32.toInt_inj.mp q); have : (a2 : Int32).toInt = (3 : Int32).toInt := congrArg Int32.toInt c3; have : (0 : Int32).toInt = 0 := (by decide); have : (1 : Int32).toInt = 1 := (by decide); have : (3 : Int32).toInt = 3 := (by decide); exact ⟨by omega, by omega⟩)
          refine lv_if_eq (tgt := 89) hx hb dX11_beside_61 (by decide) (fun c42 => ?_) (fun c42 => ?_)
          · --
            refine lv_iconst (v := (-1)) hx hb dX11_beside_89 (by decide) ?_
            rw [← hQ]
            exact o_ri cx rx hw dX11_beside_90 ⟨rfl, (iv_w (⟨by decide, by decide⟩ : Iv (-1) (-1) (-1)) (by decide)), (by have hx9 : bs_x a1 a2 = v32 := (by rw [bs_x, if_neg c2, if_pos c3, e32, e1]); have hy9 : bs_y a1 a2 = v36 := (by rw [bs_y, if_neg c34, if_neg c35, e36, e33]); rw [bs_F, hx9, hy9, ← e37, ← e38, ← p40_4, if_pos c42])⟩
          · --
            exact iv_no (iv_ne1 c42 i41 (⟨by decide, by decide⟩ : Iv 0 0 0) (by decide)) (by decide)
        · --
          exact iv_no (iv_eq1 (lo := 3) (hi := 2) c35 i31 (⟨by decide, by decide⟩ : Iv 2 2 2) (by decide)) (by decide)
      · --
        exact iv_no (iv_eq1 (lo := 3) (hi := 0) c34 i31 (⟨by decide, by decide⟩ : Iv 0 0 0) (by decide)) (by decide)
  · --
    have i43 : Iv a2 1 1 := iv_eq1 c2 (iv_top a2) (⟨by decide, by decide⟩ : Iv 1 1 1) (by decide)
    refine lv_iconst (v := 1) hx hb dX11_beside_9 (by decide) ?_
    refine lv_goto (tgt := 23) hx hb dX11_beside_10 (by decide) ?_
    refine lv_iadd hx hb dX11_beside_23 ?_
    refine lv_topi (fun v44 e44 => ?_)
    have i44 : Iv v44 1 8 := iv_add e44 i1 (⟨by decide, by decide⟩ : Iv 1 1 1) (by decide)
    have x44 : v44.toInt = v1.toInt + 1 := ex_add e44 i1 (⟨by decide, by decide⟩ : Iv 1 1 1) (by decide)
    refine lv_istore_n (lv' := [(3, .int v44), (0, .ref a0), (1, .int a1), (2, .int a2)]) hx hb dX11_beside_24 rfl hl (by decide) rfl (fun ls hl => ?_)
    refine lv_iload_n hx hb dX11_beside_25 rfl (lv_at hl 2 rfl) ?_
    refine lv_bipush (v := 8) hx hb dX11_beside_26 (by decide) ?_
    refine lv_idiv hx hb dX11_beside_28 (iv_nz (⟨by decide, by decide⟩ : Iv 8 8 8) (by decide)) ?_
    refine lv_topi (fun v45 e45 => ?_)
    have i45 : Iv v45 0 7 := iv_divc e45 ia1 (⟨by decide, by decide⟩ : Iv 8 8 8) (by decide)
    refine lv_iload_n hx hb dX11_beside_29 rfl (lv_at hl 3 rfl) ?_
    refine lv_if_ne (tgt := 37) hx hb dX11_beside_30 (by decide) (fun c46 => ?_) (fun c46 => ?_)
    · --
      refine lv_iload_n hx hb dX11_beside_37 rfl (lv_at hl 3 rfl) ?_
      refine lv_iconst (v := 2) hx hb dX11_beside_38 (by decide) ?_
      refine lv_icmp_ne (tgt := 46) hx hb dX11_beside_39 (by decide) (fun c47 => ?_) (fun c47 => ?_)
      · --
        refine lv_iconst (v := 0) hx hb dX11_beside_46 (by decide) ?_
        refine lv_iadd hx hb dX11_beside_47 ?_
        refine lv_topi (fun v48 e48 => ?_)
        have i48 : Iv v48 0 7 := iv_add e48 i45 (⟨by decide, by decide⟩ : Iv 0 0 0) (by decide)
        have x48 : v48.toInt = v45.toInt + 0 := ex_add e48 i45 (⟨by decide, by decide⟩ : Iv 0 0 0) (by decide)
        refine lv_istore (lv' := [(4, .int v48), (3, .int v44), (0, .ref a0), (1, .int a1), (2, .int a2)]) hx hb dX11_beside_48 hl (by decide) rfl (fun ls hl => ?_)
        refine lv_iload_n hx hb dX11_beside_50 rfl (lv_at hl 1 rfl) ?_
        refine lv_iconst (v := 0) hx hb dX11_beside_51 (by decide) ?_
        refine lv_aload_n hx hb dX11_beside_52 rfl (lv_at hl 2 rfl) ?_
        refine g_641 cx hw ha0 k_f_X11_99 dX11_beside_53 (fun v49 e49 i49 => ?_)
        have z49 : v49.toInt = (σ.1 641 a0).toInt := congrArg Int32.toInt e49
        refine lv_iconst (v := 1) hx hb dX11_beside_56 (by decide) ?_
        refine lv_isub hx hb dX11_beside_57 ?_
        refine lv_topi (fun v50 e50 => ?_)
        have i50 : Iv v50 (-1) (-1) := iv_sub e50 i49 (⟨by decide, by decide⟩ : Iv 1 1 1) (by decide)
        have x50 : v50.toInt = v49.toInt + (-1) := ex_sub e50 i49 (⟨by decide, by decide⟩ : Iv 1 1 1) (by decide)
        refine o_ci hw (oRunS cx hA hw q_X11_in k_m_X11_95 (As := [.int v44, .int 0, .int v50]) (c_X11_in v44 0 v50) (by decide) rfl hl.1 rfl (Nat.le_of_ble_eq_true rfl) dX11_beside_58 (by decide)) (fun v52 σ51 H locs hp hw => ?_)
        obtain ⟨p52_0, p52_1, p52_2, p52_3, p52_4⟩ := hp
        rw [p52_0] at hw
        have i53 : Iv v52 0 0 := (by have := (ia1).1; have := (ia1).2; have := (i43).1; have := (i43).2; have := (i44).1; have := (i44).2; have := (i48).1; have := (i48).2; have := (p52_1).1; have := (p52_1).2; have := (i49).1; have := (i49).2; have := (i1).1; have := (i1).2; have := (i45).1; have := (i45).2; have := (i50).1; have := (i50).2; have : (σ.1 641 a0).toInt = (v49 : Int32).toInt := congrArg Int32.toInt (show σ.1 641 a0 = v49 from e49.symm); have : (a2 : Int32).toInt = (1 : Int32).toInt := congrArg Int32.toInt c2; have : (0 : Int32).toInt = 0 := (by decide); have : (1 : Int32).toInt = 1 := (by decide); exact ⟨by omega, by omega⟩)
        refine lv_if_eq (tgt := 89) hx hb dX11_beside_61 (by decide) (fun c54 => ?_) (fun c54 => ?_)
        · --
          refine lv_iconst (v := (-1)) hx hb dX11_beside_89 (by decide) ?_
          rw [← hQ]
          exact o_ri cx rx hw dX11_beside_90 ⟨rfl, (iv_w (⟨by decide, by decide⟩ : Iv (-1) (-1) (-1)) (by decide)), (by have hx9 : bs_x a1 a2 = v44 := (by rw [bs_x, if_pos c2, e44, e1]); have hy9 : bs_y a1 a2 = v48 := (by rw [bs_y, if_neg c46, if_neg c47, e48, e45]); rw [bs_F, hx9, hy9, ← e49, ← e50, ← p52_4, if_pos c54])⟩
        · --
          exact iv_no (iv_ne1 c54 i53 (⟨by decide, by decide⟩ : Iv 0 0 0) (by decide)) (by decide)
      · --
        exact iv_no (iv_eq1 (lo := 2) (hi := 1) c47 i43 (⟨by decide, by decide⟩ : Iv 2 2 2) (by decide)) (by decide)
    · --
      exact iv_no (iv_eq1 (lo := 1) (hi := 0) c46 i43 (⟨by decide, by decide⟩ : Iv 0 0 0) (by decide)) (by decide)
set_option maxHeartbeats 4000000 in
set_option maxRecDepth 100000 in
theorem c_X11_herdsAt (a0 : Nat) (ha0 : oA L τ a0 10) (a1 : Nat) (ha1 : oA L τ a1 48) (a2 : Int32) : oMet l A L τ cy D K yX11_herdsAt cX11_herdsAt 5 (some .int) 0 0 [.ref a0, .ref a1, .int a2] σ (va_Qi (fun r σ1 => σ1 = σ ∧ Iv r 0 0 ∧ (r = ha_F (σ.2.2.1 a1) a2 (σ.1 647 a0).toNatClampNeg)) (oPo A L τ cy D) A) := by
  refine oMk (by decide) (Nat.le_of_ble_eq_true rfl) rfl ?_
  intro p e s m args below meth c ls cx rx hA hw hl
  generalize hQ : MQ below _ args s 0 0 A = Q
  have hx := cx.1.1
  have hb := cx.1.2.1
  have hml := cx.1.2.2.1
  have hown := cx.1.2.2.2.1
  have hts := cx.1.2.2.2.2
  have hl : lv_has ls 5 [(0, .ref a0), (1, .ref a1), (2, .int a2)] := hl
  refine lv_iconst (v := 0) hx hb dX11_herdsAt_0 (by decide) ?_
  refine lv_istore_n (lv' := [(3, .int 0), (0, .ref a0), (1, .ref a1), (2, .int a2)]) hx hb dX11_herdsAt_1 rfl hl (by decide) rfl (fun ls hl => ?_)
  refine lv_iconst (v := 0) hx hb dX11_herdsAt_2 (by decide) ?_
  refine lv_istore (lv' := [(4, .int 0), (3, .int 0), (0, .ref a0), (1, .ref a1), (2, .int a2)]) hx hb dX11_herdsAt_3 hl (by decide) rfl (fun ls hl => ?_)
  have J_5 : ∀ n5 : Nat, ∀ (H : Heap) (locs : List Loc), oI A L τ cy D s.heap σ H locs → 0 < n5 → (0 = ha_F (σ.2.2.1 a1) a2 (0 : Int32).toNatClampNeg) → ((0 : Int32).toInt ≤ (σ.1 647 a0).toInt) → ∀ (ls : Array Slot), lv_has ls 5 [(0, .ref a0), (1, .ref a1), (2, .int a2), (3, .int 0), (4, .int 0)] → W p l e ({ frames := 0, cells := 0, slots := 0, locals := 0 } : Room) s m args below meth c H locs 0 0 Q (F0 m 5 ls []) := by
    intro n5
    induction n5 with
    | zero => intro  H locs hw  hn_5 hbt hh  ls hl; exact absurd hn_5 (Nat.not_lt_zero _)
    | succ n5 ih_5 =>
      intro  H locs hw  hn_5 hbt hh  ls hl
      refine lv_iload hx hb dX11_herdsAt_5 (lv_at hl 4 rfl) ?_
      refine lv_aload_n hx hb dX11_herdsAt_7 rfl (lv_at hl 0 rfl) ?_
      refine g_647 cx hw ha0 k_f_X11_105 dX11_herdsAt_8 (fun v1 e1 i1 => ?_)
      have z1 : v1.toInt = (σ.1 647 a0).toInt := congrArg Int32.toInt e1
      refine lv_icmp_ge (tgt := 43) hx hb dX11_herdsAt_11 (by decide) (fun c2 => ?_) (fun c2 => ?_)
      · --
        refine lv_iload_n hx hb dX11_herdsAt_43 rfl (lv_at hl 3 rfl) ?_
        rw [← hQ]
        exact o_ri cx rx hw dX11_herdsAt_44 ⟨rfl, (iv_w (⟨by decide, by decide⟩ : Iv 0 0 0) (by decide)), (by rw [← show 0 = σ.1 647 a0 from i32_eq (by have := (i1).1; have := (i1).2; have : (σ.1 647 a0).toInt = (v1 : Int32).toInt := congrArg Int32.toInt (show σ.1 647 a0 = v1 from e1.symm); have : (v1 : Int32).toInt ≤ (0 : Int32).toInt := iv_le.mp c2; have : (0 : Int32).toInt = 0 := (by decide); omega)]; exact hbt)⟩
      · --
        exact iv_no (iv_lt1 (b' := (-1)) (iv_nle c2) (⟨by decide, by decide⟩ : Iv 0 0 0) i1 (by decide)) (by decide)
  exact J_5 _ _ _ hw (Nat.lt_succ_self _) rfl (by have q9 : Iv (σ.1 647 a0) 0 0 := o_fb (j := 647) hw ha0 rfl; have := q9.1; have := q9.2; have : (0 : Int32).toInt = 0 := (by decide); omega) _ (lv_sub hl [2, 3, 4, 1, 0] rfl)
abbrev fs_X11_layN : List Nat := []
abbrev ts_X11_layN : List Nat := [48]
set_option maxHeartbeats 4000000 in
set_option maxRecDepth 100000 in
theorem c_X11_layN (a0 : Nat) (ha0 : oA L τ a0 48) (a1 : Nat) (ha1 : oA L τ a1 48) (a2 : Int32) (ia2 : Iv a2 0 0) : oMet l A L τ cy D K yX11_lay cX11_lay 4 none 0 0 [.ref a0, .ref a1, .int a2] σ (va_Qv (fun σ1 => oFr τ fs_X11_layN ts_X11_layN σ σ1) (oPo A L τ cy D) A) := by
  refine oMk (by decide) (Nat.le_of_ble_eq_true rfl) rfl ?_
  intro p e s m args below meth c ls cx rx hA hw hl
  generalize hQ : MQ below _ args s 0 0 A = Q
  have hx := cx.1.1
  have hb := cx.1.2.1
  have hml := cx.1.2.2.1
  have hown := cx.1.2.2.2.1
  have hts := cx.1.2.2.2.2
  have hl : lv_has ls 4 [(0, .ref a0), (1, .ref a1), (2, .int a2)] := hl
  have fr : oFr τ fs_X11_layN ts_X11_layN σ σ := oFr_rf
  refine lv_iconst (v := 0) hx hb dX11_lay_0 (by decide) ?_
  refine lv_istore_n (lv' := [(3, .int 0), (0, .ref a0), (1, .ref a1), (2, .int a2)]) hx hb dX11_lay_1 rfl hl (by decide) rfl (fun ls hl => ?_)
  have frE_2 := fr
  have J_2 : ∀ n2 : Nat, ∀ (j2_3 : Int32) (ij2_3 : Iv j2_3 0 334), ∀ (σ_2 : oSt) (H : Heap) (locs : List Loc), oI A L τ cy D s.heap σ_2 H locs → oFr τ fs_X11_layN ts_X11_layN σ σ_2 → (334 - j2_3.toInt).toNat < n2 → ∀ (ls : Array Slot), lv_has ls 4 [(0, .ref a0), (1, .ref a1), (2, .int a2), (3, .int j2_3)] → W p l e ({ frames := 0, cells := 0, slots := 0, locals := 0 } : Room) s m args below meth c H locs 0 0 Q (F0 m 2 ls []) := by
    intro n2
    induction n2 with
    | zero => intro j2_3 ij2_3 σ_2 H locs hw fr   hn_2   ls hl; exact absurd hn_2 (Nat.not_lt_zero _)
    | succ n2 ih_2 =>
      intro j2_3 ij2_3 σ_2 H locs hw fr   hn_2   ls hl
      have fr_2 := fr
      refine lv_iload_n hx hb dX11_lay_2 rfl (lv_at hl 3 rfl) ?_
      refine lv_sipush (v := 334) hx hb dX11_lay_3 (by decide) ?_
      refine lv_icmp_ge (tgt := 23) hx hb dX11_lay_6 (by decide) (fun c1 => ?_) (fun c1 => ?_)
      · --
        have i2 : Iv j2_3 334 334 := iv_le2 c1 (⟨by decide, by decide⟩ : Iv 334 334 334) ij2_3 (by decide)
        rw [← hQ]
        exact o_rv cx rx hw dX11_lay_23 fr
      · --
        have i3 : Iv j2_3 0 333 := iv_lt1 (iv_nle c1) ij2_3 (⟨by decide, by decide⟩ : Iv 334 334 334) (by decide)
        refine lv_aload_n hx hb dX11_lay_9 rfl (lv_at hl 1 rfl) ?_
        refine lv_iload_n hx hb dX11_lay_10 rfl (lv_at hl 2 rfl) ?_
        refine lv_iload_n hx hb dX11_lay_11 rfl (lv_at hl 3 rfl) ?_
        refine lv_iadd hx hb dX11_lay_12 ?_
        refine lv_topi (fun v4 e4 => ?_)
        have i4 : Iv v4 0 333 := iv_add e4 ia2 i3 (by decide)
        have x4 : v4.toInt = a2.toInt + j2_3.toInt := ex_add e4 ia2 i3 (by decide)
        refine lv_aload_n hx hb dX11_lay_13 rfl (lv_at hl 0 rfl) ?_
        refine lv_iload_n hx hb dX11_lay_14 rfl (lv_at hl 3 rfl) ?_
        refine o_iald cx hw ha0 (by decide) rfl (iv_in i3 (by decide)) dX11_lay_15 (fun v5 e5 b5 => ?_)
        refine o_iast cx hw ha1 (by decide) rfl (iv_in i4 (by decide)) (rb_nn i4 i3 (by decide) b5 (by have q := ex_add e4 ia2 i3 (by decide); have q2 := ia2.1; have q3 := ia2.2; omega)) dX11_lay_16 (fun σ6 H locs eσ6 hw => ?_)
        have fr := oFr_p fr eσ6 ha1 (by decide)
        obtain ⟨v7, e7⟩ : ∃ y : Int32, y = j2_3 + 1 := ⟨_, rfl⟩
        have i7 : Iv v7 1 334 := iv_add e7 i3 (⟨by decide, by decide⟩ : Iv 1 1 1) (by decide)
        have x7 : v7.toInt = j2_3.toInt + 1 := ex_add e7 i3 (⟨by decide, by decide⟩ : Iv 1 1 1) (by decide)
        refine lv_iinc (v := v7) (lv' := [(3, .int v7), (0, .ref a0), (1, .ref a1), (2, .int a2)]) hx hb dX11_lay_17 hl (k := 3) rfl (by rw [e7]; rfl) (by decide) rfl (fun ls hl => ?_)
        refine lv_goto (tgt := 2) hx hb dX11_lay_20 (by decide) ?_
        exact ih_2 v7 (iv_w i7 (by decide)) σ6 _ _ hw fr (ms_up x7 (by decide) (iv_w (a' := 0) (b' := 334) i7 (by decide)).2 hn_2) _ (lv_sub hl [1, 2, 3, 0] rfl)
  exact J_2 _ 0 (iv_w (⟨by decide, by decide⟩ : Iv 0 0 0) (by decide)) σ _ _ hw fr (Nat.lt_succ_self _) _ (lv_sub hl [1, 2, 3, 0] rfl)
abbrev fs_X11_layU : List Nat := []
abbrev ts_X11_layU : List Nat := [56]
set_option maxHeartbeats 4000000 in
set_option maxRecDepth 100000 in
theorem c_X11_layU (a0 : Nat) (ha0 : oA L τ a0 48) (a1 : Nat) (ha1 : oA L τ a1 56) (a2 : Int32) (ia2 : Iv a2 0 3006) (hk : a2.toInt % 334 = 0) : oMet l A L τ cy D K yX11_lay cX11_lay 4 none 0 0 [.ref a0, .ref a1, .int a2] σ (va_Qv (fun σ1 => oFr τ fs_X11_layU ts_X11_layU σ σ1) (oPo A L τ cy D) A) := by
  refine oMk (by decide) (Nat.le_of_ble_eq_true rfl) rfl ?_
  intro p e s m args below meth c ls cx rx hA hw hl
  generalize hQ : MQ below _ args s 0 0 A = Q
  have hx := cx.1.1
  have hb := cx.1.2.1
  have hml := cx.1.2.2.1
  have hown := cx.1.2.2.2.1
  have hts := cx.1.2.2.2.2
  have hl : lv_has ls 4 [(0, .ref a0), (1, .ref a1), (2, .int a2)] := hl
  have fr : oFr τ fs_X11_layU ts_X11_layU σ σ := oFr_rf
  refine lv_iconst (v := 0) hx hb dX11_lay_0 (by decide) ?_
  refine lv_istore_n (lv' := [(3, .int 0), (0, .ref a0), (1, .ref a1), (2, .int a2)]) hx hb dX11_lay_1 rfl hl (by decide) rfl (fun ls hl => ?_)
  have frE_2 := fr
  have J_2 : ∀ n2 : Nat, ∀ (j2_3 : Int32) (ij2_3 : Iv j2_3 0 334), ∀ (σ_2 : oSt) (H : Heap) (locs : List Loc), oI A L τ cy D s.heap σ_2 H locs → oFr τ fs_X11_layU ts_X11_layU σ σ_2 → (334 - j2_3.toInt).toNat < n2 → ∀ (ls : Array Slot), lv_has ls 4 [(0, .ref a0), (1, .ref a1), (2, .int a2), (3, .int j2_3)] → W p l e ({ frames := 0, cells := 0, slots := 0, locals := 0 } : Room) s m args below meth c H locs 0 0 Q (F0 m 2 ls []) := by
    intro n2
    induction n2 with
    | zero => intro j2_3 ij2_3 σ_2 H locs hw fr   hn_2   ls hl; exact absurd hn_2 (Nat.not_lt_zero _)
    | succ n2 ih_2 =>
      intro j2_3 ij2_3 σ_2 H locs hw fr   hn_2   ls hl
      have fr_2 := fr
      refine lv_iload_n hx hb dX11_lay_2 rfl (lv_at hl 3 rfl) ?_
      refine lv_sipush (v := 334) hx hb dX11_lay_3 (by decide) ?_
      refine lv_icmp_ge (tgt := 23) hx hb dX11_lay_6 (by decide) (fun c1 => ?_) (fun c1 => ?_)
      · --
        have i2 : Iv j2_3 334 334 := iv_le2 c1 (⟨by decide, by decide⟩ : Iv 334 334 334) ij2_3 (by decide)
        rw [← hQ]
        exact o_rv cx rx hw dX11_lay_23 fr
      · --
        have i3 : Iv j2_3 0 333 := iv_lt1 (iv_nle c1) ij2_3 (⟨by decide, by decide⟩ : Iv 334 334 334) (by decide)
        refine lv_aload_n hx hb dX11_lay_9 rfl (lv_at hl 1 rfl) ?_
        refine lv_iload_n hx hb dX11_lay_10 rfl (lv_at hl 2 rfl) ?_
        refine lv_iload_n hx hb dX11_lay_11 rfl (lv_at hl 3 rfl) ?_
        refine lv_iadd hx hb dX11_lay_12 ?_
        refine lv_topi (fun v4 e4 => ?_)
        have i4 : Iv v4 0 3339 := iv_add e4 ia2 i3 (by decide)
        have x4 : v4.toInt = a2.toInt + j2_3.toInt := ex_add e4 ia2 i3 (by decide)
        refine lv_aload_n hx hb dX11_lay_13 rfl (lv_at hl 0 rfl) ?_
        refine lv_iload_n hx hb dX11_lay_14 rfl (lv_at hl 3 rfl) ?_
        refine o_iald cx hw ha0 (by decide) rfl (iv_in i3 (by decide)) dX11_lay_15 (fun v5 e5 b5 => ?_)
        refine o_iast cx hw ha1 (by decide) rfl (iv_in i4 (by decide)) (rb_pc i4 i3 (by decide) b5 (by have q := ex_add e4 ia2 i3 (by decide); have q2 := (i3).1; have q3 := (i3).2; omega)) dX11_lay_16 (fun σ6 H locs eσ6 hw => ?_)
        have fr := oFr_p fr eσ6 ha1 (by decide)
        obtain ⟨v7, e7⟩ : ∃ y : Int32, y = j2_3 + 1 := ⟨_, rfl⟩
        have i7 : Iv v7 1 334 := iv_add e7 i3 (⟨by decide, by decide⟩ : Iv 1 1 1) (by decide)
        have x7 : v7.toInt = j2_3.toInt + 1 := ex_add e7 i3 (⟨by decide, by decide⟩ : Iv 1 1 1) (by decide)
        refine lv_iinc (v := v7) (lv' := [(3, .int v7), (0, .ref a0), (1, .ref a1), (2, .int a2)]) hx hb dX11_lay_17 hl (k := 3) rfl (by rw [e7]; rfl) (by decide) rfl (fun ls hl => ?_)
        refine lv_goto (tgt := 2) hx hb dX11_lay_20 (by decide) ?_
        exact ih_2 v7 (iv_w i7 (by decide)) σ6 _ _ hw fr (ms_up x7 (by decide) (iv_w (a' := 0) (b' := 334) i7 (by decide)).2 hn_2) _ (lv_sub hl [1, 2, 3, 0] rfl)
  exact J_2 _ 0 (iv_w (⟨by decide, by decide⟩ : Iv 0 0 0) (by decide)) σ _ _ hw fr (Nat.lt_succ_self _) _ (lv_sub hl [1, 2, 3, 0] rfl)
abbrev fs_X11_layK : List Nat := []
abbrev ts_X11_layK : List Nat := [59]
set_option maxHeartbeats 4000000 in
set_option maxRecDepth 100000 in
theorem c_X11_layK (a0 : Nat) (ha0 : oA L τ a0 48) (a1 : Nat) (ha1 : oA L τ a1 59) (a2 : Int32) (ia2 : Iv a2 0 334) (hk : a2.toInt % 334 = 0) : oMet l A L τ cy D K yX11_lay cX11_lay 4 none 0 0 [.ref a0, .ref a1, .int a2] σ (va_Qv (fun σ1 => oFr τ fs_X11_layK ts_X11_layK σ σ1) (oPo A L τ cy D) A) := by
  refine oMk (by decide) (Nat.le_of_ble_eq_true rfl) rfl ?_
  intro p e s m args below meth c ls cx rx hA hw hl
  generalize hQ : MQ below _ args s 0 0 A = Q
  have hx := cx.1.1
  have hb := cx.1.2.1
  have hml := cx.1.2.2.1
  have hown := cx.1.2.2.2.1
  have hts := cx.1.2.2.2.2
  have hl : lv_has ls 4 [(0, .ref a0), (1, .ref a1), (2, .int a2)] := hl
  have fr : oFr τ fs_X11_layK ts_X11_layK σ σ := oFr_rf
  refine lv_iconst (v := 0) hx hb dX11_lay_0 (by decide) ?_
  refine lv_istore_n (lv' := [(3, .int 0), (0, .ref a0), (1, .ref a1), (2, .int a2)]) hx hb dX11_lay_1 rfl hl (by decide) rfl (fun ls hl => ?_)
  have frE_2 := fr
  have J_2 : ∀ n2 : Nat, ∀ (j2_3 : Int32) (ij2_3 : Iv j2_3 0 334), ∀ (σ_2 : oSt) (H : Heap) (locs : List Loc), oI A L τ cy D s.heap σ_2 H locs → oFr τ fs_X11_layK ts_X11_layK σ σ_2 → (334 - j2_3.toInt).toNat < n2 → ∀ (ls : Array Slot), lv_has ls 4 [(0, .ref a0), (1, .ref a1), (2, .int a2), (3, .int j2_3)] → W p l e ({ frames := 0, cells := 0, slots := 0, locals := 0 } : Room) s m args below meth c H locs 0 0 Q (F0 m 2 ls []) := by
    intro n2
    induction n2 with
    | zero => intro j2_3 ij2_3 σ_2 H locs hw fr   hn_2   ls hl; exact absurd hn_2 (Nat.not_lt_zero _)
    | succ n2 ih_2 =>
      intro j2_3 ij2_3 σ_2 H locs hw fr   hn_2   ls hl
      have fr_2 := fr
      refine lv_iload_n hx hb dX11_lay_2 rfl (lv_at hl 3 rfl) ?_
      refine lv_sipush (v := 334) hx hb dX11_lay_3 (by decide) ?_
      refine lv_icmp_ge (tgt := 23) hx hb dX11_lay_6 (by decide) (fun c1 => ?_) (fun c1 => ?_)
      · --
        have i2 : Iv j2_3 334 334 := iv_le2 c1 (⟨by decide, by decide⟩ : Iv 334 334 334) ij2_3 (by decide)
        rw [← hQ]
        exact o_rv cx rx hw dX11_lay_23 fr
      · --
        have i3 : Iv j2_3 0 333 := iv_lt1 (iv_nle c1) ij2_3 (⟨by decide, by decide⟩ : Iv 334 334 334) (by decide)
        refine lv_aload_n hx hb dX11_lay_9 rfl (lv_at hl 1 rfl) ?_
        refine lv_iload_n hx hb dX11_lay_10 rfl (lv_at hl 2 rfl) ?_
        refine lv_iload_n hx hb dX11_lay_11 rfl (lv_at hl 3 rfl) ?_
        refine lv_iadd hx hb dX11_lay_12 ?_
        refine lv_topi (fun v4 e4 => ?_)
        have i4 : Iv v4 0 667 := iv_add e4 ia2 i3 (by decide)
        have x4 : v4.toInt = a2.toInt + j2_3.toInt := ex_add e4 ia2 i3 (by decide)
        refine lv_aload_n hx hb dX11_lay_13 rfl (lv_at hl 0 rfl) ?_
        refine lv_iload_n hx hb dX11_lay_14 rfl (lv_at hl 3 rfl) ?_
        refine o_iald cx hw ha0 (by decide) rfl (iv_in i3 (by decide)) dX11_lay_15 (fun v5 e5 b5 => ?_)
        refine o_iast cx hw ha1 (by decide) rfl (iv_in i4 (by decide)) (rb_pc i4 i3 (by decide) b5 (by have q := ex_add e4 ia2 i3 (by decide); have q2 := (i3).1; have q3 := (i3).2; omega)) dX11_lay_16 (fun σ6 H locs eσ6 hw => ?_)
        have fr := oFr_p fr eσ6 ha1 (by decide)
        obtain ⟨v7, e7⟩ : ∃ y : Int32, y = j2_3 + 1 := ⟨_, rfl⟩
        have i7 : Iv v7 1 334 := iv_add e7 i3 (⟨by decide, by decide⟩ : Iv 1 1 1) (by decide)
        have x7 : v7.toInt = j2_3.toInt + 1 := ex_add e7 i3 (⟨by decide, by decide⟩ : Iv 1 1 1) (by decide)
        refine lv_iinc (v := v7) (lv' := [(3, .int v7), (0, .ref a0), (1, .ref a1), (2, .int a2)]) hx hb dX11_lay_17 hl (k := 3) rfl (by rw [e7]; rfl) (by decide) rfl (fun ls hl => ?_)
        refine lv_goto (tgt := 2) hx hb dX11_lay_20 (by decide) ?_
        exact ih_2 v7 (iv_w i7 (by decide)) σ6 _ _ hw fr (ms_up x7 (by decide) (iv_w (a' := 0) (b' := 334) i7 (by decide)).2 hn_2) _ (lv_sub hl [1, 2, 3, 0] rfl)
  exact J_2 _ 0 (iv_w (⟨by decide, by decide⟩ : Iv 0 0 0) (by decide)) σ _ _ hw fr (Nat.lt_succ_self _) _ (lv_sub hl [1, 2, 3, 0] rfl)
abbrev fs_X11_remember : List Nat := [672]
abbrev ts_X11_remember : List Nat := [56]
set_option maxHeartbeats 4000000 in
set_option maxRecDepth 100000 in
theorem c_X11_remember (a0 : Nat) (ha0 : oA L τ a0 10) (a1 : Nat) (ha1 : oA L τ a1 48) : oMet l A L τ cy D K yX11_remember cX11_remember 3 none 1 23 [.ref a0, .ref a1] σ (va_Qv (fun σ1 => oFr τ fs_X11_remember ts_X11_remember σ σ1) (oPo A L τ cy D) A) := by
  refine oMk (by decide) (Nat.le_of_ble_eq_true rfl) rfl ?_
  intro p e s m args below meth c ls cx rx hA hw hl
  generalize hQ : MQ below _ args s 0 0 A = Q
  have hx := cx.1.1
  have hb := cx.1.2.1
  have hml := cx.1.2.2.1
  have hown := cx.1.2.2.2.1
  have hts := cx.1.2.2.2.2
  have hl : lv_has ls 3 [(0, .ref a0), (1, .ref a1)] := hl
  have fr : oFr τ fs_X11_remember ts_X11_remember σ σ := oFr_rf
  refine lv_aload_n hx hb dX11_remember_0 rfl (lv_at hl 0 rfl) ?_
  refine g_672 cx hw ha0 k_f_X11_168 dX11_remember_1 (fun v1 e1 i1 => ?_)
  refine lv_bipush (v := 10) hx hb dX11_remember_4 (by decide) ?_
  have frE_50 := fr
  have J_50 : ∀ (σ_50 : oSt) (H : Heap) (locs : List Loc), oI A L τ cy D s.heap σ_50 H locs → oFr τ fs_X11_remember ts_X11_remember σ σ_50 → Iv (σ_50.1 672 a0) 0 9 → ∀ (ls : Array Slot), lv_has ls 3 [(0, .ref a0), (1, .ref a1)] → W p l e ({ frames := 1, cells := 0, slots := 0, locals := 23 } : Room) s m args below meth c H locs 0 0 Q (F0 m 50 ls []) := by
    intro  σ_50 H locs hw fr f50_672_a0     ls hl
    have fr_50 := fr
    refine lv_aload_n hx hb dX11_remember_50 rfl (lv_at hl 1 rfl) ?_
    refine lv_aload_n hx hb dX11_remember_51 rfl (lv_at hl 0 rfl) ?_
    refine g_671 cx hw ha0 k_f_X11_55 dX11_remember_52 (fun v2 e2 h2 => ?_)
    refine lv_sipush (v := 334) hx hb dX11_remember_55 (by decide) ?_
    refine lv_aload_n hx hb dX11_remember_58 rfl (lv_at hl 0 rfl) ?_
    refine g_672 cx hw ha0 k_f_X11_168 dX11_remember_59 (fun v3 e3 i3 => ?_)
    rw [show v3 = (σ_50.1 672 a0) from e3.trans rfl]
    refine lv_imul hx hb dX11_remember_62 ?_
    refine lv_topi (fun v4 e4 => ?_)
    have i4 : Iv v4 0 3006 := iv_mul e4 (⟨by decide, by decide⟩ : Iv 334 334 334) f50_672_a0 (by decide)
    refine o_cv hw (oRunS cx hA hw q_X11_lay k_m_X11_251 (As := [.ref a1, .ref v2, .int v4]) (c_X11_layU a1 ha1 v2 h2 v4 (iv_w i4 (by decide)) (by have q2 := ex_mul e4 (⟨by decide, by decide⟩ : Iv 334 334 334) f50_672_a0 (by decide); have q3 : (334 : Int32).toInt = 334 := (by decide); rw [q3] at q2; omega)) (by decide) rfl hl.1 rfl (Nat.le_of_ble_eq_true rfl) dX11_remember_63 (by decide)) (fun σ5 H locs hp hw => ?_)
    have p6_0 := hp
    have fr := oFr_tr fr p6_0 (by decide)
    refine lv_aload_n hx hb dX11_remember_66 rfl (lv_at hl 0 rfl) ?_
    refine lv_dup hx hb dX11_remember_67 rfl ?_
    refine g_672 cx hw ha0 k_f_X11_168 dX11_remember_68 (fun v7 e7 i7 => ?_)
    rw [show v7 = (σ_50.1 672 a0) from e7.trans ((kp_c p6_0 (by decide)).trans rfl)]
    refine lv_iconst (v := 1) hx hb dX11_remember_71 (by decide) ?_
    refine lv_iadd hx hb dX11_remember_72 ?_
    refine lv_topi (fun v8 e8 => ?_)
    have i8 : Iv v8 1 10 := iv_add e8 f50_672_a0 (⟨by decide, by decide⟩ : Iv 1 1 1) (by decide)
    have x8 : v8.toInt = (σ_50.1 672 a0).toInt + 1 := ex_add e8 f50_672_a0 (⟨by decide, by decide⟩ : Iv 1 1 1) (by decide)
    refine p_672 cx hw ha0 (iv_w i8 (by decide)) k_f_X11_168 dX11_remember_73 (fun σ9 H locs eσ9 hw => ?_)
    have fr := oFr_i fr eσ9 (by decide)
    rw [← hQ]
    exact o_rv cx rx hw dX11_remember_76 fr
  refine lv_icmp_ne (tgt := 50) hx hb dX11_remember_6 (by decide) (fun c10 => ?_) (fun c10 => ?_)
  · --
    have i11 : Iv v1 0 9 := iv_ne2 c10 i1 (⟨by decide, by decide⟩ : Iv 10 10 10) (by decide)
    exact J_50 σ _ _ hw fr (kn_iv (e1.symm) (iv_w i11 (by decide))) _ (lv_sub hl [0, 1] rfl)
  · --
    have i12 : Iv v1 10 10 := iv_eq1 c10 i1 (⟨by decide, by decide⟩ : Iv 10 10 10) (by decide)
    refine lv_iconst (v := 0) hx hb dX11_remember_9 (by decide) ?_
    refine lv_istore_n (lv' := [(2, .int 0), (0, .ref a0), (1, .ref a1)]) hx hb dX11_remember_10 rfl hl (by decide) rfl (fun ls hl => ?_)
    have frE_11 := fr
    have J_11 : ∀ n11 : Nat, ∀ (j11_2 : Int32) (ij11_2 : Iv j11_2 0 3006), ∀ (σ_11 : oSt) (H : Heap) (locs : List Loc), oI A L τ cy D s.heap σ_11 H locs → oFr τ fs_X11_remember ts_X11_remember σ σ_11 → Iv (σ_11.1 672 a0) 10 10 → (3006 - j11_2.toInt).toNat < n11 → ∀ (ls : Array Slot), lv_has ls 3 [(0, .ref a0), (1, .ref a1), (2, .int j11_2)] → W p l e ({ frames := 1, cells := 0, slots := 0, locals := 23 } : Room) s m args below meth c H locs 0 0 Q (F0 m 11 ls []) := by
      intro n11
      induction n11 with
      | zero => intro j11_2 ij11_2 σ_11 H locs hw fr f11_672_a0  hn_11   ls hl; exact absurd hn_11 (Nat.not_lt_zero _)
      | succ n11 ih_11 =>
        intro j11_2 ij11_2 σ_11 H locs hw fr f11_672_a0  hn_11   ls hl
        have fr_11 := fr
        refine lv_iload_n hx hb dX11_remember_11 rfl (lv_at hl 2 rfl) ?_
        refine lv_sipush (v := 3006) hx hb dX11_remember_12 (by decide) ?_
        refine lv_icmp_ge (tgt := 40) hx hb dX11_remember_15 (by decide) (fun c13 => ?_) (fun c13 => ?_)
        · --
          have i14 : Iv j11_2 3006 3006 := iv_le2 c13 (⟨by decide, by decide⟩ : Iv 3006 3006 3006) ij11_2 (by decide)
          refine lv_aload_n hx hb dX11_remember_40 rfl (lv_at hl 0 rfl) ?_
          refine lv_dup hx hb dX11_remember_41 rfl ?_
          refine g_672 cx hw ha0 k_f_X11_168 dX11_remember_42 (fun v15 e15 i15 => ?_)
          rw [show v15 = (σ_11.1 672 a0) from e15.trans rfl]
          refine lv_iconst (v := 1) hx hb dX11_remember_45 (by decide) ?_
          refine lv_isub hx hb dX11_remember_46 ?_
          refine lv_topi (fun v16 e16 => ?_)
          have i16 : Iv v16 9 9 := iv_sub e16 f11_672_a0 (⟨by decide, by decide⟩ : Iv 1 1 1) (by decide)
          have x16 : v16.toInt = (σ_11.1 672 a0).toInt + (-1) := ex_sub e16 f11_672_a0 (⟨by decide, by decide⟩ : Iv 1 1 1) (by decide)
          refine p_672 cx hw ha0 (iv_w i16 (by decide)) k_f_X11_168 dX11_remember_47 (fun σ17 H locs eσ17 hw => ?_)
          have fr := oFr_i fr eσ17 (by decide)
          exact J_50 σ17 _ _ hw fr (kn_iv ((kp_s eσ17)) (iv_w i16 (by decide))) _ (lv_sub hl [0, 1] rfl)
        · --
          have i18 : Iv j11_2 0 3005 := iv_lt1 (iv_nle c13) ij11_2 (⟨by decide, by decide⟩ : Iv 3006 3006 3006) (by decide)
          refine lv_aload_n hx hb dX11_remember_18 rfl (lv_at hl 0 rfl) ?_
          refine g_671 cx hw ha0 k_f_X11_55 dX11_remember_19 (fun v19 e19 h19 => ?_)
          refine lv_iload_n hx hb dX11_remember_22 rfl (lv_at hl 2 rfl) ?_
          refine lv_aload_n hx hb dX11_remember_23 rfl (lv_at hl 0 rfl) ?_
          refine g_671 cx hw ha0 k_f_X11_55 dX11_remember_24 (fun v20 e20 h20 => ?_)
          rw [show v20 = v19 from Option.some.inj (e20.symm.trans (e19))]
          refine lv_iload_n hx hb dX11_remember_27 rfl (lv_at hl 2 rfl) ?_
          refine lv_sipush (v := 334) hx hb dX11_remember_28 (by decide) ?_
          refine lv_iadd hx hb dX11_remember_31 ?_
          refine lv_topi (fun v21 e21 => ?_)
          have i21 : Iv v21 334 3339 := iv_add e21 i18 (⟨by decide, by decide⟩ : Iv 334 334 334) (by decide)
          have x21 : v21.toInt = j11_2.toInt + 334 := ex_add e21 i18 (⟨by decide, by decide⟩ : Iv 334 334 334) (by decide)
          refine o_iald cx hw h19 (by decide) rfl (iv_in i21 (by decide)) dX11_remember_32 (fun v22 e22 b22 => ?_)
          refine o_iast cx hw h19 (by decide) rfl (iv_in i18 (by decide)) (rb_pp i18 i21 (by decide) b22 (by rw [x21]; omega)) dX11_remember_33 (fun σ23 H locs eσ23 hw => ?_)
          have fr := oFr_p fr eσ23 h19 (by decide)
          obtain ⟨v24, e24⟩ : ∃ y : Int32, y = j11_2 + 1 := ⟨_, rfl⟩
          have i24 : Iv v24 1 3006 := iv_add e24 i18 (⟨by decide, by decide⟩ : Iv 1 1 1) (by decide)
          have x24 : v24.toInt = j11_2.toInt + 1 := ex_add e24 i18 (⟨by decide, by decide⟩ : Iv 1 1 1) (by decide)
          refine lv_iinc (v := v24) (lv' := [(2, .int v24), (0, .ref a0), (1, .ref a1)]) hx hb dX11_remember_34 hl (k := 2) rfl (by rw [e24]; rfl) (by decide) rfl (fun ls hl => ?_)
          refine lv_goto (tgt := 11) hx hb dX11_remember_37 (by decide) ?_
          exact ih_11 v24 (iv_w i24 (by decide)) σ23 _ _ hw fr (kn_iv (((kp_p eσ23).trans rfl)) (iv_w f11_672_a0 (by decide))) (ms_up x24 (by decide) (iv_w (a' := 0) (b' := 3006) i24 (by decide)).2 hn_11) _ (lv_sub hl [1, 2, 0] rfl)
    exact J_11 _ 0 (iv_w (⟨by decide, by decide⟩ : Iv 0 0 0) (by decide)) σ _ _ hw fr (kn_iv (e1.symm) (iv_w i12 (by decide))) (Nat.lt_succ_self _) _ (lv_sub hl [1, 2, 0] rfl)
set_option maxHeartbeats 4000000 in
set_option maxRecDepth 100000 in
theorem c_X11_refusesLay (a0 : Nat) (ha0 : oA L τ a0 10) (a1 : Int32) (a2 : Int32) : oMet l A L τ cy D K yX11_refusesLay cX11_refusesLay 3 (some .int) 2 43 [.ref a0, .int a1, .int a2] σ (va_Qi (fun r σ1 => σ1 = σ ∧ Iv r (-1) (-1) ∧ (0 ≤ r → Iv a1 0 63)) (oPo A L τ cy D) A) := by
  refine oMk (by decide) (Nat.le_of_ble_eq_true rfl) rfl ?_
  intro p e s m args below meth c ls cx rx hA hw hl
  generalize hQ : MQ below _ args s 0 0 A = Q
  have hx := cx.1.1
  have hb := cx.1.2.1
  have hml := cx.1.2.2.1
  have hown := cx.1.2.2.2.1
  have hts := cx.1.2.2.2.2
  have hl : lv_has ls 3 [(0, .ref a0), (1, .int a1), (2, .int a2)] := hl
  refine lv_aload_n hx hb dX11_refusesLay_0 rfl (lv_at hl 0 rfl) ?_
  refine lv_iload_n hx hb dX11_refusesLay_1 rfl (lv_at hl 1 rfl) ?_
  have i1 : Iv (σ.1 641 a0) 0 0 := o_fb (j := 641) hw ha0 rfl
  have i2 : Iv (σ.1 642 a0) 0 0 := o_fb (j := 642) hw ha0 rfl
  refine o_ci hw (oRunV cx hA hw q_X11_isCell k_m_X11_157 rfl ha0 (by decide) (As := [.int a1]) (c_X11_isCell a0 ha0 a1) (by decide) rfl hl.1 rfl (Nat.le_of_ble_eq_true rfl) dX11_refusesLay_2 (by decide)) (fun v4 σ3 H locs hp hw => ?_)
  obtain ⟨p4_0, p4_1, p4_2, p4_3⟩ := hp
  rw [p4_0] at hw
  refine lv_if_eq (tgt := 18) hx hb dX11_refusesLay_5 (by decide) (fun c5 => ?_) (fun c5 => ?_)
  · --
    refine lv_iconst (v := (-1)) hx hb dX11_refusesLay_18 (by decide) ?_
    rw [← hQ]
    exact o_ri cx rx hw dX11_refusesLay_19 ⟨rfl, (iv_w (⟨by decide, by decide⟩ : Iv (-1) (-1) (-1)) (by decide)), (fun h => iv_no (iv_le1 (b' := -1) h (⟨by decide, by decide⟩ : Iv 0 0 0) (⟨by decide, by decide⟩ : Iv (-1) (-1) (-1)) (by decide)) (by decide))⟩
  · --
    exact iv_no (iv_ne1 c5 p4_1 (⟨by decide, by decide⟩ : Iv 0 0 0) (by decide)) (by decide)
set_option maxHeartbeats 4000000 in
set_option maxRecDepth 100000 in
theorem c_X11_layOn (a0 : Nat) (ha0 : oA L τ a0 10) (a1 : Int32) (ia1 : Iv a1 64 128) (a2 : Int32) (a3 : Int32) : oMet l A L τ cy D K yX11_layOn cX11_layOn 6 (some .int) 3 65 [.ref a0, .int a1, .int a2, .int a3] σ (va_Qi (fun r σ1 => σ1 = σ ∧ Iv r (-1) (-1)) (oPo A L τ cy D) A) := by
  refine oMk (by decide) (Nat.le_of_ble_eq_true rfl) rfl ?_
  intro p e s m args below meth c ls cx rx hA hw hl
  generalize hQ : MQ below _ args s 0 0 A = Q
  have hx := cx.1.1
  have hb := cx.1.2.1
  have hml := cx.1.2.2.1
  have hown := cx.1.2.2.2.1
  have hts := cx.1.2.2.2.2
  have hl : lv_has ls 6 [(0, .ref a0), (1, .int a1), (2, .int a2), (3, .int a3)] := hl
  refine lv_aload_n hx hb dX11_layOn_0 rfl (lv_at hl 0 rfl) ?_
  refine lv_iload_n hx hb dX11_layOn_1 rfl (lv_at hl 2 rfl) ?_
  refine lv_iload_n hx hb dX11_layOn_2 rfl (lv_at hl 3 rfl) ?_
  refine o_ci hw (oRunV cx hA hw q_X11_refusesLay k_m_X11_255 rfl ha0 (by decide) (As := [.int a2, .int a3]) (c_X11_refusesLay a0 ha0 a2 a3) (by decide) rfl hl.1 rfl (Nat.le_of_ble_eq_true rfl) dX11_layOn_3 (by decide)) (fun v2 σ1 H locs hp hw => ?_)
  obtain ⟨p2_0, p2_1, p2_2⟩ := hp
  rw [p2_0] at hw
  refine lv_istore (lv' := [(4, .int v2), (0, .ref a0), (1, .int a1), (2, .int a2), (3, .int a3)]) hx hb dX11_layOn_6 hl (by decide) rfl (fun ls hl => ?_)
  refine lv_iload hx hb dX11_layOn_8 (lv_at hl 0 rfl) ?_
  refine lv_if_ge (tgt := 16) hx hb dX11_layOn_10 (by decide) (fun c3 => ?_) (fun c3 => ?_)
  · --
    have i4 : Iv a2 0 63 := p2_2 c3
    exact iv_no (iv_le1 (b' := (-1)) c3 (⟨by decide, by decide⟩ : Iv 0 0 0) p2_1 (by decide)) (by decide)
  · --
    refine lv_iload hx hb dX11_layOn_13 (lv_at hl 0 rfl) ?_
    rw [← hQ]
    exact o_ri cx rx hw dX11_layOn_15 ⟨rfl, (iv_w p2_1 (by decide))⟩
set_option maxHeartbeats 4000000 in
set_option maxRecDepth 100000 in
theorem c_X11_refusesGate (a0 : Nat) (ha0 : oA L τ a0 10) (a1 : Int32) (a2 : Int32) : oMet l A L τ cy D K yX11_refusesGate cX11_refusesGate 3 (some .int) 1 22 [.ref a0, .int a1, .int a2] σ (va_Qi (fun r σ1 => σ1 = σ ∧ Iv r (-1) (-1) ∧ (0 ≤ r → Iv a1 0 5)) (oPo A L τ cy D) A) := by
  refine oMk (by decide) (Nat.le_of_ble_eq_true rfl) rfl ?_
  intro p e s m args below meth c ls cx rx hA hw hl
  generalize hQ : MQ below _ args s 0 0 A = Q
  have hx := cx.1.1
  have hb := cx.1.2.1
  have hml := cx.1.2.2.1
  have hown := cx.1.2.2.2.1
  have hts := cx.1.2.2.2.2
  have hl : lv_has ls 3 [(0, .ref a0), (1, .int a1), (2, .int a2)] := hl
  refine lv_iload_n hx hb dX11_refusesGate_0 rfl (lv_at hl 1 rfl) ?_
  refine lv_iconst (v := 0) hx hb dX11_refusesGate_1 (by decide) ?_
  refine lv_aload_n hx hb dX11_refusesGate_2 rfl (lv_at hl 0 rfl) ?_
  refine g_645 cx hw ha0 k_f_X11_154 dX11_refusesGate_3 (fun v1 e1 i1 => ?_)
  refine lv_iconst (v := 1) hx hb dX11_refusesGate_6 (by decide) ?_
  refine lv_isub hx hb dX11_refusesGate_7 ?_
  refine lv_topi (fun v2 e2 => ?_)
  have i2 : Iv v2 (-1) (-1) := iv_sub e2 i1 (⟨by decide, by decide⟩ : Iv 1 1 1) (by decide)
  have x2 : v2.toInt = v1.toInt + (-1) := ex_sub e2 i1 (⟨by decide, by decide⟩ : Iv 1 1 1) (by decide)
  refine o_ci hw (oRunS cx hA hw q_X11_in k_m_X11_95 (As := [.int a1, .int 0, .int v2]) (c_X11_in a1 0 v2) (by decide) rfl hl.1 rfl (Nat.le_of_ble_eq_true rfl) dX11_refusesGate_8 (by decide)) (fun v4 σ3 H locs hp hw => ?_)
  obtain ⟨p4_0, p4_1, p4_2, p4_3, p4_4⟩ := hp
  rw [p4_0] at hw
  have i5 : Iv v4 0 0 := (by have := (p4_1).1; have := (p4_1).2; have := (i1).1; have := (i1).2; have := (i2).1; have := (i2).2; have : (σ.1 645 a0).toInt = (v1 : Int32).toInt := congrArg Int32.toInt (show σ.1 645 a0 = v1 from e1.symm); have : (0 : Int32).toInt = 0 := (by decide); exact ⟨by omega, by omega⟩)
  refine lv_if_eq (tgt := 23) hx hb dX11_refusesGate_11 (by decide) (fun c6 => ?_) (fun c6 => ?_)
  · --
    refine lv_iconst (v := (-1)) hx hb dX11_refusesGate_23 (by decide) ?_
    rw [← hQ]
    exact o_ri cx rx hw dX11_refusesGate_24 ⟨rfl, (iv_w (⟨by decide, by decide⟩ : Iv (-1) (-1) (-1)) (by decide)), (fun h => iv_no (iv_le1 (b' := -1) h (⟨by decide, by decide⟩ : Iv 0 0 0) (⟨by decide, by decide⟩ : Iv (-1) (-1) (-1)) (by decide)) (by decide))⟩
  · --
    exact iv_no (iv_ne1 c6 i5 (⟨by decide, by decide⟩ : Iv 0 0 0) (by decide)) (by decide)
abbrev fs_X11_goGate : List Nat := []
abbrev ts_X11_goGate : List Nat := [48]
set_option maxHeartbeats 4000000 in
set_option maxRecDepth 100000 in
theorem c_X11_goGate (a0 : Nat) (ha0 : oA L τ a0 10) (a1 : Int32) (ia1 : Iv a1 0 5) (a2 : Int32) : oMet l A L τ cy D K yX11_goGate cX11_goGate 4 (some .int) 0 0 [.ref a0, .int a1, .int a2] σ (va_Qi (fun r σ1 => oFr τ fs_X11_goGate ts_X11_goGate σ σ1 ∧ Iv r 0 1) (oPo A L τ cy D) A) := by
  refine oMk (by decide) (Nat.le_of_ble_eq_true rfl) rfl ?_
  intro p e s m args below meth c ls cx rx hA hw hl
  generalize hQ : MQ below _ args s 0 0 A = Q
  have hx := cx.1.1
  have hb := cx.1.2.1
  have hml := cx.1.2.2.1
  have hown := cx.1.2.2.2.1
  have hts := cx.1.2.2.2.2
  have hl : lv_has ls 4 [(0, .ref a0), (1, .int a1), (2, .int a2)] := hl
  have fr : oFr τ fs_X11_goGate ts_X11_goGate σ σ := oFr_rf
  refine lv_aload_n hx hb dX11_goGate_0 rfl (lv_at hl 0 rfl) ?_
  refine g_640 cx hw ha0 k_f_X11_9 dX11_goGate_1 (fun v1 e1 h1 => ?_)
  refine lv_sipush (v := 332) hx hb dX11_goGate_4 (by decide) ?_
  refine o_iald cx hw h1 (by decide) rfl (iv_in (⟨by decide, by decide⟩ : Iv 332 332 332) (by decide)) dX11_goGate_7 (fun v2 e2 b2 => ?_)
  refine lv_iload_n hx hb dX11_goGate_8 rfl (lv_at hl 1 rfl) ?_
  refine lv_ishr hx hb dX11_goGate_9 ?_
  refine lv_topi (fun v3 e3 => ?_)
  refine lv_iconst (v := 1) hx hb dX11_goGate_10 (by decide) ?_
  refine lv_iand hx hb dX11_goGate_11 ?_
  refine lv_topi (fun v4 e4 => ?_)
  have i4 : Iv v4 0 1 := iv_and e4 (⟨by decide, by decide⟩ : Iv 1 1 1) (by decide)
  refine lv_istore_n (lv' := [(3, .int v4), (0, .ref a0), (1, .int a1), (2, .int a2)]) hx hb dX11_goGate_12 rfl hl (by decide) rfl (fun ls hl => ?_)
  refine lv_aload_n hx hb dX11_goGate_13 rfl (lv_at hl 1 rfl) ?_
  refine g_640 cx hw ha0 k_f_X11_9 dX11_goGate_14 (fun v5 e5 h5 => ?_)
  rw [show v5 = v1 from Option.some.inj (e5.symm.trans (e1))]
  refine lv_sipush (v := 332) hx hb dX11_goGate_17 (by decide) ?_
  refine lv_aload_n hx hb dX11_goGate_20 rfl (lv_at hl 1 rfl) ?_
  refine g_640 cx hw ha0 k_f_X11_9 dX11_goGate_21 (fun v6 e6 h6 => ?_)
  rw [show v6 = v1 from Option.some.inj (e6.symm.trans (e1))]
  refine lv_sipush (v := 332) hx hb dX11_goGate_24 (by decide) ?_
  refine o_iald cx hw h1 (by decide) rfl (iv_in (⟨by decide, by decide⟩ : Iv 332 332 332) (by decide)) dX11_goGate_27 (fun v7 e7 b7 => ?_)
  refine lv_iconst (v := 1) hx hb dX11_goGate_28 (by decide) ?_
  refine lv_iload_n hx hb dX11_goGate_29 rfl (lv_at hl 2 rfl) ?_
  refine lv_ishl hx hb dX11_goGate_30 ?_
  refine lv_topi (fun v8 e8 => ?_)
  have i8 : Iv v8 1 32 := iv_shl1 e8 ia1 (by decide)
  refine lv_iconst (v := (-1)) hx hb dX11_goGate_31 (by decide) ?_
  refine lv_ixor hx hb dX11_goGate_32 ?_
  refine lv_topi (fun v9 e9 => ?_)
  refine lv_iand hx hb dX11_goGate_33 ?_
  refine lv_topi (fun v10 e10 => ?_)
  refine lv_iload_n hx hb dX11_goGate_34 rfl (lv_at hl 3 rfl) ?_
  refine lv_iload_n hx hb dX11_goGate_35 rfl (lv_at hl 2 rfl) ?_
  refine lv_ishl hx hb dX11_goGate_36 ?_
  refine lv_topi (fun v11 e11 => ?_)
  refine lv_ior hx hb dX11_goGate_37 ?_
  refine lv_topi (fun v12 e12 => ?_)
  refine o_iast cx hw h1 (by decide) rfl (iv_in (⟨by decide, by decide⟩ : Iv 332 332 332) (by decide)) (rb_hi (⟨by decide, by decide⟩ : Iv 332 332 332) (by decide)) dX11_goGate_38 (fun σ13 H locs eσ13 hw => ?_)
  have fr := oFr_p fr eσ13 h1 (by decide)
  refine lv_iload_n hx hb dX11_goGate_39 rfl (lv_at hl 0 rfl) ?_
  rw [← hQ]
  exact o_ri cx rx hw dX11_goGate_40 ⟨fr, (iv_w i4 (by decide))⟩
set_option maxHeartbeats 4000000 in
set_option maxRecDepth 100000 in
theorem c_X11_refusesDrive (a0 : Nat) (ha0 : oA L τ a0 10) (a1 : Int32) (a2 : Int32) : oMet l A L τ cy D K yX11_refusesDrive cX11_refusesDrive 4 (some .int) 2 43 [.ref a0, .int a1, .int a2] σ (va_Qi (fun r σ1 => σ1 = σ ∧ Iv r (-1) (-1) ∧ (0 ≤ r → Iv a1 0 5) ∧ (0 ≤ r → Iv a2 0 63)) (oPo A L τ cy D) A) := by
  refine oMk (by decide) (Nat.le_of_ble_eq_true rfl) rfl ?_
  intro p e s m args below meth c ls cx rx hA hw hl
  generalize hQ : MQ below _ args s 0 0 A = Q
  have hx := cx.1.1
  have hb := cx.1.2.1
  have hml := cx.1.2.2.1
  have hown := cx.1.2.2.2.1
  have hts := cx.1.2.2.2.2
  have hl : lv_has ls 4 [(0, .ref a0), (1, .int a1), (2, .int a2)] := hl
  refine lv_aload_n hx hb dX11_refusesDrive_0 rfl (lv_at hl 0 rfl) ?_
  refine lv_iload_n hx hb dX11_refusesDrive_1 rfl (lv_at hl 1 rfl) ?_
  refine o_ci hw (oRunV cx hA hw q_X11_isHerd k_m_X11_237 rfl ha0 (by decide) (As := [.int a1]) (c_X11_isHerd a0 ha0 a1) (by decide) rfl hl.1 rfl (Nat.le_of_ble_eq_true rfl) dX11_refusesDrive_2 (by decide)) (fun v2 σ1 H locs hp hw => ?_)
  obtain ⟨p2_0, p2_1, p2_2⟩ := hp
  rw [p2_0] at hw
  refine lv_if_eq (tgt := 16) hx hb dX11_refusesDrive_5 (by decide) (fun c3 => ?_) (fun c3 => ?_)
  · --
    refine lv_iconst (v := (-1)) hx hb dX11_refusesDrive_16 (by decide) ?_
    rw [← hQ]
    exact o_ri cx rx hw dX11_refusesDrive_17 ⟨rfl, (iv_w (⟨by decide, by decide⟩ : Iv (-1) (-1) (-1)) (by decide)), (fun h => iv_no (iv_le1 (b' := -1) h (⟨by decide, by decide⟩ : Iv 0 0 0) (⟨by decide, by decide⟩ : Iv (-1) (-1) (-1)) (by decide)) (by decide)), (fun h => iv_no (iv_le1 (b' := -1) h (⟨by decide, by decide⟩ : Iv 0 0 0) (⟨by decide, by decide⟩ : Iv (-1) (-1) (-1)) (by decide)) (by decide))⟩
  · --
    exact iv_no (iv_ne1 c3 p2_1 (⟨by decide, by decide⟩ : Iv 0 0 0) (by decide)) (by decide)
abbrev fs_X11_goDrive : List Nat := []
abbrev ts_X11_goDrive : List Nat := [48]
set_option maxHeartbeats 4000000 in
set_option maxRecDepth 100000 in
theorem c_X11_goDrive (a0 : Nat) (ha0 : oA L τ a0 10) (a1 : Int32) (ia1 : Iv a1 0 5) (a2 : Int32) (ia2 : Iv a2 0 63) : oMet l A L τ cy D K yX11_goDrive cX11_goDrive 4 (some .int) 1 21 [.ref a0, .int a1, .int a2] σ (va_Qi (fun r σ1 => oFr τ fs_X11_goDrive ts_X11_goDrive σ σ1 ∧ Iv r 0 63) (oPo A L τ cy D) A) := by
  refine oMk (by decide) (Nat.le_of_ble_eq_true rfl) rfl ?_
  intro p e s m args below meth c ls cx rx hA hw hl
  generalize hQ : MQ below _ args s 0 0 A = Q
  have hx := cx.1.1
  have hb := cx.1.2.1
  have hml := cx.1.2.2.1
  have hown := cx.1.2.2.2.1
  have hts := cx.1.2.2.2.2
  have hl : lv_has ls 4 [(0, .ref a0), (1, .int a1), (2, .int a2)] := hl
  have fr : oFr τ fs_X11_goDrive ts_X11_goDrive σ σ := oFr_rf
  refine lv_aload_n hx hb dX11_goDrive_0 rfl (lv_at hl 0 rfl) ?_
  refine g_640 cx hw ha0 k_f_X11_9 dX11_goDrive_1 (fun v1 e1 h1 => ?_)
  refine lv_sipush (v := 320) hx hb dX11_goDrive_4 (by decide) ?_
  refine lv_iload_n hx hb dX11_goDrive_7 rfl (lv_at hl 1 rfl) ?_
  refine lv_iadd hx hb dX11_goDrive_8 ?_
  refine lv_topi (fun v2 e2 => ?_)
  have i2 : Iv v2 320 325 := iv_add e2 (⟨by decide, by decide⟩ : Iv 320 320 320) ia1 (by decide)
  have x2 : v2.toInt = a1.toInt + 320 := (ex_add e2 (⟨by decide, by decide⟩ : Iv 320 320 320) ia1 (by decide)).trans (Int.add_comm _ _)
  refine o_iald cx hw h1 (by decide) rfl (iv_in i2 (by decide)) dX11_goDrive_9 (fun v3 e3 b3 => ?_)
  have i3 : Iv v3 0 63 := rb_now b3 i2 (by decide)
  refine lv_istore_n (lv' := [(3, .int v3), (0, .ref a0), (1, .int a1), (2, .int a2)]) hx hb dX11_goDrive_10 rfl hl (by decide) rfl (fun ls hl => ?_)
  refine lv_aload_n hx hb dX11_goDrive_11 rfl (lv_at hl 1 rfl) ?_
  refine g_640 cx hw ha0 k_f_X11_9 dX11_goDrive_12 (fun v4 e4 h4 => ?_)
  rw [show v4 = v1 from Option.some.inj (e4.symm.trans (e1))]
  refine lv_sipush (v := 320) hx hb dX11_goDrive_15 (by decide) ?_
  refine lv_iload_n hx hb dX11_goDrive_18 rfl (lv_at hl 2 rfl) ?_
  refine lv_iadd hx hb dX11_goDrive_19 ?_
  refine lv_topi (fun v5 e5 => ?_)
  have i5 : Iv v5 320 325 := iv_add e5 (⟨by decide, by decide⟩ : Iv 320 320 320) ia1 (by decide)
  have x5 : v5.toInt = a1.toInt + 320 := (ex_add e5 (⟨by decide, by decide⟩ : Iv 320 320 320) ia1 (by decide)).trans (Int.add_comm _ _)
  refine lv_iload_n hx hb dX11_goDrive_20 rfl (lv_at hl 3 rfl) ?_
  refine o_iast cx hw h1 (by decide) rfl (iv_in i5 (by decide)) (fun _ _ => iv_w ia2 (by decide)) dX11_goDrive_21 (fun σ6 H locs eσ6 hw => ?_)
  have fr := oFr_p fr eσ6 h1 (by decide)
  refine lv_aload_n hx hb dX11_goDrive_22 rfl (lv_at hl 1 rfl) ?_
  refine g_640 cx hw ha0 k_f_X11_9 dX11_goDrive_23 (fun v7 e7 h7 => ?_)
  rw [show v7 = v1 from Option.some.inj (e7.symm.trans (((kr_p eσ6).trans e1)))]
  refine lv_sipush (v := 326) hx hb dX11_goDrive_26 (by decide) ?_
  refine lv_iload_n hx hb dX11_goDrive_29 rfl (lv_at hl 2 rfl) ?_
  refine lv_iadd hx hb dX11_goDrive_30 ?_
  refine lv_topi (fun v8 e8 => ?_)
  have i8 : Iv v8 326 331 := iv_add e8 (⟨by decide, by decide⟩ : Iv 326 326 326) ia1 (by decide)
  have x8 : v8.toInt = a1.toInt + 326 := (ex_add e8 (⟨by decide, by decide⟩ : Iv 326 326 326) ia1 (by decide)).trans (Int.add_comm _ _)
  refine lv_iconst (v := 0) hx hb dX11_goDrive_31 (by decide) ?_
  refine o_iast cx hw h1 (by decide) rfl (iv_in i8 (by decide)) (fun _ _ => iv_w (⟨by decide, by decide⟩ : Iv 0 0 0) (by decide)) dX11_goDrive_32 (fun σ9 H locs eσ9 hw => ?_)
  have fr := oFr_p fr eσ9 h1 (by decide)
  refine lv_aload_n hx hb dX11_goDrive_33 rfl (lv_at hl 1 rfl) ?_
  refine g_640 cx hw ha0 k_f_X11_9 dX11_goDrive_34 (fun v10 e10 h10 => ?_)
  rw [show v10 = v1 from Option.some.inj (e10.symm.trans (((kr_p eσ9).trans ((kr_p eσ6).trans e1))))]
  refine lv_iload_n hx hb dX11_goDrive_37 rfl (lv_at hl 2 rfl) ?_
  refine o_cv hw (oRunS cx hA hw q_X11_tread k_m_X11_178 (As := [.ref v1, .int a1]) (c_X11_tread v1 h1 a1 (iv_w ia1 (by decide))) (by decide) rfl hl.1 rfl (Nat.le_of_ble_eq_true rfl) dX11_goDrive_38 (by decide)) (fun σ11 H locs hp hw => ?_)
  have p12_0 := hp
  have fr := oFr_tr fr p12_0 (by decide)
  refine lv_iload_n hx hb dX11_goDrive_41 rfl (lv_at hl 0 rfl) ?_
  rw [← hQ]
  exact o_ri cx rx hw dX11_goDrive_42 ⟨fr, (iv_w i3 (by decide))⟩
abbrev fs_X11_goHour : List Nat := []
abbrev ts_X11_goHour : List Nat := [48]
set_option maxHeartbeats 4000000 in
set_option maxRecDepth 100000 in
theorem c_X11_goHour (a0 : Nat) (ha0 : oA L τ a0 10) (a1 : Nat) (ha1 : oA L τ a1 48) : oMet l A L τ cy D K yX11_goHour cX11_goHour 6 (some .int) 2 43 [.ref a0, .ref a1] σ (va_Qi (fun r σ1 => oFr τ fs_X11_goHour ts_X11_goHour σ σ1 ∧ Iv r 0 0) (oPo A L τ cy D) A) := by
  refine oMk (by decide) (Nat.le_of_ble_eq_true rfl) rfl ?_
  intro p e s m args below meth c ls cx rx hA hw hl
  generalize hQ : MQ below _ args s 0 0 A = Q
  have hx := cx.1.1
  have hb := cx.1.2.1
  have hml := cx.1.2.2.1
  have hown := cx.1.2.2.2.1
  have hts := cx.1.2.2.2.2
  have hl : lv_has ls 6 [(0, .ref a0), (1, .ref a1)] := hl
  have fr : oFr τ fs_X11_goHour ts_X11_goHour σ σ := oFr_rf
  refine lv_aload_n hx hb dX11_goHour_0 rfl (lv_at hl 1 rfl) ?_
  refine lv_sipush (v := 333) hx hb dX11_goHour_1 (by decide) ?_
  refine lv_dup2_11 hx hb dX11_goHour_4 rfl rfl ?_
  refine o_iald cx hw ha1 (by decide) rfl (iv_in (⟨by decide, by decide⟩ : Iv 333 333 333) (by decide)) dX11_goHour_5 (fun v1 e1 b1 => ?_)
  refine lv_iconst (v := 1) hx hb dX11_goHour_6 (by decide) ?_
  refine lv_iadd hx hb dX11_goHour_7 ?_
  refine lv_topi (fun v2 e2 => ?_)
  refine o_iast cx hw ha1 (by decide) rfl (iv_in (⟨by decide, by decide⟩ : Iv 333 333 333) (by decide)) (rb_hi (⟨by decide, by decide⟩ : Iv 333 333 333) (by decide)) dX11_goHour_8 (fun σ3 H locs eσ3 hw => ?_)
  have fr := oFr_p fr eσ3 ha1 (by decide)
  refine lv_iconst (v := 0) hx hb dX11_goHour_9 (by decide) ?_
  refine lv_istore_n (lv' := [(2, .int 0), (0, .ref a0), (1, .ref a1)]) hx hb dX11_goHour_10 rfl hl (by decide) rfl (fun ls hl => ?_)
  refine lv_iconst (v := 0) hx hb dX11_goHour_11 (by decide) ?_
  refine lv_istore_n (lv' := [(3, .int 0), (2, .int 0), (0, .ref a0), (1, .ref a1)]) hx hb dX11_goHour_12 rfl hl (by decide) rfl (fun ls hl => ?_)
  have J_13 : ∀ n13 : Nat, ∀ (H : Heap) (locs : List Loc), oI A L τ cy D s.heap σ3 H locs → 0 < n13 → ∀ (ls : Array Slot), lv_has ls 6 [(0, .ref a0), (1, .ref a1), (2, .int 0), (3, .int 0)] → W p l e ({ frames := 2, cells := 0, slots := 0, locals := 43 } : Room) s m args below meth c H locs 0 0 Q (F0 m 13 ls []) := by
    intro n13
    induction n13 with
    | zero => intro  H locs hw  hn_13   ls hl; exact absurd hn_13 (Nat.not_lt_zero _)
    | succ n13 ih_13 =>
      intro  H locs hw  hn_13   ls hl
      refine lv_iload_n hx hb dX11_goHour_13 rfl (lv_at hl 3 rfl) ?_
      refine lv_aload_n hx hb dX11_goHour_14 rfl (lv_at hl 0 rfl) ?_
      refine g_647 cx hw ha0 k_f_X11_105 dX11_goHour_15 (fun v4 e4 i4 => ?_)
      refine lv_icmp_ge (tgt := 141) hx hb dX11_goHour_18 (by decide) (fun c5 => ?_) (fun c5 => ?_)
      · --
        refine lv_aload_n hx hb dX11_goHour_141 rfl (lv_at hl 1 rfl) ?_
        refine lv_sipush (v := 333) hx hb dX11_goHour_142 (by decide) ?_
        refine o_iald cx hw ha1 (by decide) rfl (iv_in (⟨by decide, by decide⟩ : Iv 333 333 333) (by decide)) dX11_goHour_145 (fun v6 e6 b6 => ?_)
        refine lv_aload_n hx hb dX11_goHour_146 rfl (lv_at hl 0 rfl) ?_
        refine g_651 cx hw ha0 k_f_X11_29 dX11_goHour_147 (fun v7 e7 i7 => ?_)
        refine lv_irem hx hb dX11_goHour_150 (iv_nz i7 (by decide)) ?_
        refine lv_topi (fun v8 e8 => ?_)
        have i8 : Iv v8 (-98) 98 := iv_remA e8 i7 (by decide)
        refine lv_if_ne (tgt := 211) hx hb dX11_goHour_151 (by decide) (fun c9 => ?_) (fun c9 => ?_)
        · --
          refine lv_iload_n hx hb dX11_goHour_211 rfl (lv_at hl 2 rfl) ?_
          rw [← hQ]
          exact o_ri cx rx hw dX11_goHour_212 ⟨fr, (iv_w (⟨by decide, by decide⟩ : Iv 0 0 0) (by decide))⟩
        · --
          have i10 : Iv v8 0 0 := iv_eq1 c9 i8 (⟨by decide, by decide⟩ : Iv 0 0 0) (by decide)
          refine lv_iconst (v := 0) hx hb dX11_goHour_154 (by decide) ?_
          refine lv_istore_n (lv' := [(3, .int 0), (0, .ref a0), (1, .ref a1), (2, .int 0)]) hx hb dX11_goHour_155 rfl hl (by decide) rfl (fun ls hl => ?_)
          have J_156 : ∀ n156 : Nat, ∀ (j156_3 : Int32) (ij156_3 : Iv j156_3 0 64), ∀ (H : Heap) (locs : List Loc), oI A L τ cy D s.heap σ3 H locs → (64 - j156_3.toInt).toNat < n156 → ∀ (ls : Array Slot), lv_has ls 6 [(0, .ref a0), (1, .ref a1), (2, .int 0), (3, .int j156_3)] → W p l e ({ frames := 2, cells := 0, slots := 0, locals := 43 } : Room) s m args below meth c H locs 0 0 Q (F0 m 156 ls []) := by
            intro n156
            induction n156 with
            | zero => intro j156_3 ij156_3 H locs hw  hn_156   ls hl; exact absurd hn_156 (Nat.not_lt_zero _)
            | succ n156 ih_156 =>
              intro j156_3 ij156_3 H locs hw  hn_156   ls hl
              refine lv_iload_n hx hb dX11_goHour_156 rfl (lv_at hl 3 rfl) ?_
              refine lv_bipush (v := 64) hx hb dX11_goHour_157 (by decide) ?_
              refine lv_icmp_ge (tgt := 211) hx hb dX11_goHour_159 (by decide) (fun c11 => ?_) (fun c11 => ?_)
              · --
                have i12 : Iv j156_3 64 64 := iv_le2 c11 (⟨by decide, by decide⟩ : Iv 64 64 64) ij156_3 (by decide)
                refine lv_iload_n hx hb dX11_goHour_211 rfl (lv_at hl 2 rfl) ?_
                rw [← hQ]
                exact o_ri cx rx hw dX11_goHour_212 ⟨fr, (iv_w (⟨by decide, by decide⟩ : Iv 0 0 0) (by decide))⟩
              · --
                have i13 : Iv j156_3 0 63 := iv_lt1 (iv_nle c11) ij156_3 (⟨by decide, by decide⟩ : Iv 64 64 64) (by decide)
                refine lv_aload_n hx hb dX11_goHour_162 rfl (lv_at hl 0 rfl) ?_
                refine lv_iload_n hx hb dX11_goHour_163 rfl (lv_at hl 3 rfl) ?_
                have i14 : Iv (σ3.1 641 a0) 0 0 := o_fb (j := 641) hw ha0 rfl
                have i15 : Iv (σ3.1 642 a0) 0 0 := o_fb (j := 642) hw ha0 rfl
                refine o_ci hw (oRunV cx hA hw q_X11_isCell k_m_X11_157 rfl ha0 (by decide) (As := [.int j156_3]) (c_X11_isCell a0 ha0 j156_3) (by decide) rfl hl.1 rfl (Nat.le_of_ble_eq_true rfl) dX11_goHour_164 (by decide)) (fun v17 σ16 H locs hp hw => ?_)
                obtain ⟨p17_0, p17_1, p17_2, p17_3⟩ := hp
                rw [p17_0] at hw
                have J_205 : ∀ (H : Heap) (locs : List Loc), oI A L τ cy D s.heap σ3 H locs → ∀ (ls : Array Slot), lv_has ls 6 [(0, .ref a0), (1, .ref a1), (2, .int 0), (3, .int j156_3)] → W p l e ({ frames := 2, cells := 0, slots := 0, locals := 43 } : Room) s m args below meth c H locs 0 0 Q (F0 m 205 ls []) := by
                  intro  H locs hw     ls hl
                  obtain ⟨v18, e18⟩ : ∃ y : Int32, y = j156_3 + 1 := ⟨_, rfl⟩
                  have i18 : Iv v18 1 64 := iv_add e18 i13 (⟨by decide, by decide⟩ : Iv 1 1 1) (by decide)
                  have x18 : v18.toInt = j156_3.toInt + 1 := ex_add e18 i13 (⟨by decide, by decide⟩ : Iv 1 1 1) (by decide)
                  refine lv_iinc (v := v18) (lv' := [(3, .int v18), (0, .ref a0), (1, .ref a1), (2, .int 0)]) hx hb dX11_goHour_205 hl (k := 3) rfl (by rw [e18]; rfl) (by decide) rfl (fun ls hl => ?_)
                  refine lv_goto (tgt := 156) hx hb dX11_goHour_208 (by decide) ?_
                  exact ih_156 v18 (iv_w i18 (by decide)) _ _ hw (ms_up x18 (by decide) (iv_w (a' := 0) (b' := 64) i18 (by decide)).2 hn_156) _ (lv_sub hl [1, 2, 3, 0] rfl)
                refine lv_if_eq (tgt := 205) hx hb dX11_goHour_167 (by decide) (fun c19 => ?_) (fun c19 => ?_)
                · --
                  exact J_205 _ _ hw _ (lv_sub hl [0, 1, 2, 3] rfl)
                · --
                  exact iv_no (iv_ne1 c19 p17_1 (⟨by decide, by decide⟩ : Iv 0 0 0) (by decide)) (by decide)
          exact J_156 _ 0 (iv_w (⟨by decide, by decide⟩ : Iv 0 0 0) (by decide)) _ _ hw (Nat.lt_succ_self _) _ (lv_sub hl [1, 2, 3, 0] rfl)
      · --
        exact iv_no (iv_lt1 (b' := (-1)) (iv_nle c5) (⟨by decide, by decide⟩ : Iv 0 0 0) i4 (by decide)) (by decide)
  exact J_13 _ _ _ hw (Nat.lt_succ_self _) _ (lv_sub hl [2, 3, 1, 0] rfl)
abbrev fs_X11_tellHerds : List Nat := [657]
abbrev ts_X11_tellHerds : List Nat := []
set_option maxHeartbeats 4000000 in
set_option maxRecDepth 100000 in
theorem c_X11_tellHerds (a0 : Nat) (ha0 : oA L τ a0 10) (a1 : Nat) (ha1 : oA L τ a1 48) : oMet l A L τ cy D K yX11_tellHerds cX11_tellHerds 3 none 0 0 [.ref a0, .ref a1] σ (va_Qv (fun σ1 => oFr τ fs_X11_tellHerds ts_X11_tellHerds σ σ1) (oPo A L τ cy D) A) := by
  refine oMk (by decide) (Nat.le_of_ble_eq_true rfl) rfl ?_
  intro p e s m args below meth c ls cx rx hA hw hl
  generalize hQ : MQ below _ args s 0 0 A = Q
  have hx := cx.1.1
  have hb := cx.1.2.1
  have hml := cx.1.2.2.1
  have hown := cx.1.2.2.2.1
  have hts := cx.1.2.2.2.2
  have hl : lv_has ls 3 [(0, .ref a0), (1, .ref a1)] := hl
  have fr : oFr τ fs_X11_tellHerds ts_X11_tellHerds σ σ := oFr_rf
  refine lv_aload_n hx hb dX11_tellHerds_0 rfl (lv_at hl 0 rfl) ?_
  refine lv_iconst (v := 0) hx hb dX11_tellHerds_1 (by decide) ?_
  refine p_657 cx hw ha0 (iv_w (⟨by decide, by decide⟩ : Iv 0 0 0) (by decide)) k_f_X11_92 dX11_tellHerds_2 (fun σ1 H locs eσ1 hw => ?_)
  have fr := oFr_i fr eσ1 (by decide)
  refine lv_iconst (v := 0) hx hb dX11_tellHerds_5 (by decide) ?_
  refine lv_istore_n (lv' := [(2, .int 0), (0, .ref a0), (1, .ref a1)]) hx hb dX11_tellHerds_6 rfl hl (by decide) rfl (fun ls hl => ?_)
  have J_7 : ∀ n7 : Nat, ∀ (H : Heap) (locs : List Loc), oI A L τ cy D s.heap σ1 H locs → 0 < n7 → ∀ (ls : Array Slot), lv_has ls 3 [(0, .ref a0), (1, .ref a1), (2, .int 0)] → W p l e ({ frames := 0, cells := 0, slots := 0, locals := 0 } : Room) s m args below meth c H locs 0 0 Q (F0 m 7 ls []) := by
    intro n7
    induction n7 with
    | zero => intro  H locs hw  hn_7   ls hl; exact absurd hn_7 (Nat.not_lt_zero _)
    | succ n7 ih_7 =>
      intro  H locs hw  hn_7   ls hl
      refine lv_iload_n hx hb dX11_tellHerds_7 rfl (lv_at hl 2 rfl) ?_
      refine lv_aload_n hx hb dX11_tellHerds_8 rfl (lv_at hl 0 rfl) ?_
      refine g_647 cx hw ha0 k_f_X11_105 dX11_tellHerds_9 (fun v2 e2 i2 => ?_)
      refine lv_icmp_ge (tgt := 33) hx hb dX11_tellHerds_12 (by decide) (fun c3 => ?_) (fun c3 => ?_)
      · --
        rw [← hQ]
        exact o_rv cx rx hw dX11_tellHerds_33 fr
      · --
        exact iv_no (iv_lt1 (b' := (-1)) (iv_nle c3) (⟨by decide, by decide⟩ : Iv 0 0 0) i2 (by decide)) (by decide)
  exact J_7 _ _ _ hw (Nat.lt_succ_self _) _ (lv_sub hl [1, 2, 0] rfl)
abbrev fs_X11_hours : List Nat := [657, 658, 672]
abbrev ts_X11_hours : List Nat := [48, 56]
set_option maxHeartbeats 4000000 in
set_option maxRecDepth 100000 in
theorem c_X11_hours (a0 : Nat) (ha0 : oA L τ a0 10) (a1 : Int32) : oMet l A L τ cy D K yX11_hours cX11_hours 4 (some .int) 3 68 [.ref a0, .int a1] σ (va_Qi (fun r σ1 => oFr τ fs_X11_hours ts_X11_hours σ σ1 ∧ Iv r (-1) 0 ∧ (((0 ≤ a1.toInt ∧ a1.toInt ≤ 60) ∧ r.toInt = 0) ∨ (¬ (0 ≤ a1.toInt ∧ a1.toInt ≤ 60) ∧ r.toInt = -1))) (oPo A L τ cy D) A) := by
  refine oMk (by decide) (Nat.le_of_ble_eq_true rfl) rfl ?_
  intro p e s m args below meth c ls cx rx hA hw hl
  generalize hQ : MQ below _ args s 0 0 A = Q
  have hx := cx.1.1
  have hb := cx.1.2.1
  have hml := cx.1.2.2.1
  have hown := cx.1.2.2.2.1
  have hts := cx.1.2.2.2.2
  have hl : lv_has ls 4 [(0, .ref a0), (1, .int a1)] := hl
  have fr : oFr τ fs_X11_hours ts_X11_hours σ σ := oFr_rf
  refine lv_aload_n hx hb dX11_hours_0 rfl (lv_at hl 0 rfl) ?_
  refine lv_iconst (v := 0) hx hb dX11_hours_1 (by decide) ?_
  refine p_658 cx hw ha0 k_f_X11_89 dX11_hours_2 (fun σ1 H locs eσ1 hw => ?_)
  have fr := oFr_i fr eσ1 (by decide)
  refine lv_iload_n hx hb dX11_hours_5 rfl (lv_at hl 1 rfl) ?_
  refine lv_iconst (v := 0) hx hb dX11_hours_6 (by decide) ?_
  refine lv_bipush (v := 60) hx hb dX11_hours_7 (by decide) ?_
  refine o_ci hw (oRunS cx hA hw q_X11_in k_m_X11_95 (As := [.int a1, .int 0, .int 60]) (c_X11_in a1 0 60) (by decide) rfl hl.1 rfl (Nat.le_of_ble_eq_true rfl) dX11_hours_9 (by decide)) (fun v3 σ2 H locs hp hw => ?_)
  obtain ⟨p3_0, p3_1, p3_2, p3_3, p3_4⟩ := hp
  rw [p3_0] at hw
  refine lv_if_ne (tgt := 17) hx hb dX11_hours_12 (by decide) (fun c4 => ?_) (fun c4 => ?_)
  · --
    have i5 : Iv v3 1 1 := iv_ne1 c4 p3_1 (⟨by decide, by decide⟩ : Iv 0 0 0) (by decide)
    have i6 : Iv a1 0 60 := (fun h => iv_rel (p3_2 h) (⟨by decide, by decide⟩ : Iv 0 0 0) (⟨by decide, by decide⟩ : Iv 60 60 60)) c4
    refine lv_iload_n hx hb dX11_hours_17 rfl (lv_at hl 1 rfl) ?_
    have frE_29 := fr
    have J_29 : ∀ (σ_29 : oSt) (H : Heap) (locs : List Loc), oI A L τ cy D s.heap σ_29 H locs → oFr τ fs_X11_hours ts_X11_hours σ σ_29 → ∀ (ls : Array Slot), lv_has ls 4 [(0, .ref a0), (1, .int a1)] → W p l e ({ frames := 3, cells := 0, slots := 0, locals := 68 } : Room) s m args below meth c H locs 0 0 Q (F0 m 29 ls []) := by
      intro  σ_29 H locs hw fr      ls hl
      have fr_29 := fr
      refine lv_iconst (v := 0) hx hb dX11_hours_29 (by decide) ?_
      refine lv_istore_n (lv' := [(2, .int 0), (0, .ref a0), (1, .int a1)]) hx hb dX11_hours_30 rfl hl (by decide) rfl (fun ls hl => ?_)
      refine lv_iconst (v := 0) hx hb dX11_hours_31 (by decide) ?_
      refine lv_istore_n (lv' := [(3, .int 0), (2, .int 0), (0, .ref a0), (1, .int a1)]) hx hb dX11_hours_32 rfl hl (by decide) rfl (fun ls hl => ?_)
      have frE_33 := fr
      have J_33 : ∀ n33 : Nat, ∀ (j33_2 : Int32) (ij33_2 : Iv j33_2 0 0) (j33_3 : Int32) (ij33_3 : Iv j33_3 0 60), ∀ (σ_33 : oSt) (H : Heap) (locs : List Loc), oI A L τ cy D s.heap σ_33 H locs → oFr τ fs_X11_hours ts_X11_hours σ σ_33 → (60 - j33_3.toInt).toNat < n33 → ∀ (ls : Array Slot), lv_has ls 4 [(0, .ref a0), (1, .int a1), (2, .int j33_2), (3, .int j33_3)] → W p l e ({ frames := 3, cells := 0, slots := 0, locals := 68 } : Room) s m args below meth c H locs 0 0 Q (F0 m 33 ls []) := by
        intro n33
        induction n33 with
        | zero => intro j33_2 ij33_2 j33_3 ij33_3 σ_33 H locs hw fr   hn_33   ls hl; exact absurd hn_33 (Nat.not_lt_zero _)
        | succ n33 ih_33 =>
          intro j33_2 ij33_2 j33_3 ij33_3 σ_33 H locs hw fr   hn_33   ls hl
          have fr_33 := fr
          refine lv_iload_n hx hb dX11_hours_33 rfl (lv_at hl 3 rfl) ?_
          refine lv_iload_n hx hb dX11_hours_34 rfl (lv_at hl 1 rfl) ?_
          refine lv_icmp_ge (tgt := 55) hx hb dX11_hours_35 (by decide) (fun c7 => ?_) (fun c7 => ?_)
          · --
            refine lv_aload_n hx hb dX11_hours_55 rfl (lv_at hl 0 rfl) ?_
            refine lv_aload_n hx hb dX11_hours_56 rfl (lv_at hl 0 rfl) ?_
            refine g_640 cx hw ha0 k_f_X11_9 dX11_hours_57 (fun v8 e8 h8 => ?_)
            refine o_cv hw (oRunV cx hA hw q_X11_tellHerds k_m_X11_289 rfl ha0 (by decide) (As := [.ref v8]) (c_X11_tellHerds a0 ha0 v8 h8) (by decide) rfl hl.1 rfl (Nat.le_of_ble_eq_true rfl) dX11_hours_60 (by decide)) (fun σ9 H locs hp hw => ?_)
            have p10_0 := hp
            have fr := oFr_tr fr p10_0 (by decide)
            refine lv_iload_n hx hb dX11_hours_63 rfl (lv_at hl 2 rfl) ?_
            rw [← hQ]
            exact o_ri cx rx hw dX11_hours_64 ⟨fr, (iv_w ij33_2 (by decide)), (by exact (by have : (0 : Int32).toInt = 0 := (by decide); have : (60 : Int32).toInt = 60 := (by decide); have := (i6).1; have := (i6).2; have := (ij33_2).1; have := (ij33_2).2; have := (ij33_3).1; have := (ij33_3).2; have := (i5).1; have := (i5).2; have : (a1 : Int32).toInt ≤ (j33_3 : Int32).toInt := iv_le.mp c7; have : (0 : Int32).toInt = 0 := (by decide); have : (60 : Int32).toInt = 60 := (by decide); omega))⟩
          · --
            have i11 : Iv j33_3 0 59 := iv_lt1 (iv_nle c7) ij33_3 i6 (by decide)
            have i12 : Iv a1 1 60 := iv_lt2 (iv_nle c7) ij33_3 i6 (by decide)
            refine lv_iload_n hx hb dX11_hours_38 rfl (lv_at hl 2 rfl) ?_
            refine lv_aload_n hx hb dX11_hours_39 rfl (lv_at hl 0 rfl) ?_
            refine lv_aload_n hx hb dX11_hours_40 rfl (lv_at hl 0 rfl) ?_
            refine g_640 cx hw ha0 k_f_X11_9 dX11_hours_41 (fun v13 e13 h13 => ?_)
            refine o_ci hw (oRunV cx hA hw q_X11_goHour k_m_X11_285 rfl ha0 (by decide) (As := [.ref v13]) (c_X11_goHour a0 ha0 v13 h13) (by decide) rfl hl.1 rfl (Nat.le_of_ble_eq_true rfl) dX11_hours_44 (by decide)) (fun v15 σ14 H locs hp hw => ?_)
            obtain ⟨p15_0, p15_1⟩ := hp
            have fr := oFr_tr fr p15_0 (by decide)
            refine lv_iadd hx hb dX11_hours_47 ?_
            refine lv_topi (fun v16 e16 => ?_)
            have i16 : Iv v16 0 0 := iv_add e16 ij33_2 p15_1 (by decide)
            have x16 : v16.toInt = j33_2.toInt + v15.toInt := ex_add e16 ij33_2 p15_1 (by decide)
            refine lv_istore_n (lv' := [(2, .int v16), (0, .ref a0), (1, .int a1), (3, .int j33_3)]) hx hb dX11_hours_48 rfl hl (by decide) rfl (fun ls hl => ?_)
            obtain ⟨v17, e17⟩ : ∃ y : Int32, y = j33_3 + 1 := ⟨_, rfl⟩
            have i17 : Iv v17 1 60 := iv_add e17 i11 (⟨by decide, by decide⟩ : Iv 1 1 1) (by decide)
            have x17 : v17.toInt = j33_3.toInt + 1 := ex_add e17 i11 (⟨by decide, by decide⟩ : Iv 1 1 1) (by decide)
            refine lv_iinc (v := v17) (lv' := [(3, .int v17), (2, .int v16), (0, .ref a0), (1, .int a1)]) hx hb dX11_hours_49 hl (k := 3) rfl (by rw [e17]; rfl) (by decide) rfl (fun ls hl => ?_)
            refine lv_goto (tgt := 33) hx hb dX11_hours_52 (by decide) ?_
            exact ih_33 v16 i16 v17 (iv_w i17 (by decide)) σ14 _ _ hw fr (ms_up x17 (by decide) (iv_w (a' := 0) (b' := 60) i17 (by decide)).2 hn_33) _ (lv_sub hl [2, 3, 1, 0] rfl)
      exact J_33 _ 0 (⟨by decide, by decide⟩ : Iv 0 0 0) 0 (iv_w (⟨by decide, by decide⟩ : Iv 0 0 0) (by decide)) σ_29 _ _ hw fr (Nat.lt_succ_self _) _ (lv_sub hl [2, 3, 1, 0] rfl)
    refine lv_if_le (tgt := 29) hx hb dX11_hours_18 (by decide) (fun c18 => ?_) (fun c18 => ?_)
    · --
      have i19 : Iv a1 0 0 := iv_le1 c18 i6 (⟨by decide, by decide⟩ : Iv 0 0 0) (by decide)
      exact J_29 σ1 _ _ hw fr _ (lv_sub hl [0, 1] rfl)
    · --
      have i20 : Iv a1 1 60 := iv_lt2 (iv_nle c18) (⟨by decide, by decide⟩ : Iv 0 0 0) i6 (by decide)
      refine lv_aload_n hx hb dX11_hours_21 rfl (lv_at hl 0 rfl) ?_
      refine lv_aload_n hx hb dX11_hours_22 rfl (lv_at hl 0 rfl) ?_
      refine g_640 cx hw ha0 k_f_X11_9 dX11_hours_23 (fun v21 e21 h21 => ?_)
      refine o_cv hw (oRunV cx hA hw q_X11_remember k_m_X11_258 rfl ha0 (by decide) (As := [.ref v21]) (c_X11_remember a0 ha0 v21 h21) (by decide) rfl hl.1 rfl (Nat.le_of_ble_eq_true rfl) dX11_hours_26 (by decide)) (fun σ22 H locs hp hw => ?_)
      have p23_0 := hp
      have fr := oFr_tr fr p23_0 (by decide)
      exact J_29 σ22 _ _ hw fr _ (lv_sub hl [0, 1] rfl)
  · --
    have i24 : Iv v3 0 0 := iv_eq1 c4 p3_1 (⟨by decide, by decide⟩ : Iv 0 0 0) (by decide)
    refine lv_iconst (v := (-1)) hx hb dX11_hours_15 (by decide) ?_
    rw [← hQ]
    exact o_ri cx rx hw dX11_hours_16 ⟨fr, (iv_w (⟨by decide, by decide⟩ : Iv (-1) (-1) (-1)) (by decide)), (by exact (by have : (0 : Int32).toInt = 0 := (by decide); have : (60 : Int32).toInt = 60 := (by decide); have := (i24).1; have := (i24).2; have : (σ1.1 658 a0).toInt = (0 : Int32).toInt := congrArg Int32.toInt (show σ1.1 658 a0 = 0 from (kp_s eσ1)); have : (v3 : Int32).toInt = (0 : Int32).toInt := congrArg Int32.toInt c4; have : ((-1) : Int32).toInt = (-1) := (by decide); have : (0 : Int32).toInt = 0 := (by decide); have : (60 : Int32).toInt = 60 := (by decide); omega))⟩
abbrev fs_X11_readCell : List Nat := [662, 663]
abbrev ts_X11_readCell : List Nat := []
set_option maxHeartbeats 4000000 in
set_option maxRecDepth 100000 in
theorem c_X11_readCell (a0 : Nat) (ha0 : oA L τ a0 10) (b0 : Nat) (hF0 : σ.2.2.2.2 659 a0 = some b0) (hb0 : oA L τ b0 51) (hf660 : Iv (σ.1 660 a0) 0 0) : oMet l A L τ cy D K yX11_readCell cX11_readCell 2 (some .int) 3 63 [.ref a0] σ (va_Qi (fun r σ1 => oFr τ fs_X11_readCell ts_X11_readCell σ σ1 ∧ Iv r 0 63 ∧ ((σ.1 662 a0).toInt ≤ (σ1.1 662 a0).toInt)) (oPo A L τ cy D) A) := by
  refine oMk (by decide) (Nat.le_of_ble_eq_true rfl) rfl ?_
  intro p e s m args below meth c ls cx rx hA hw hl
  generalize hQ : MQ below _ args s 0 0 A = Q
  have hx := cx.1.1
  have hb := cx.1.2.1
  have hml := cx.1.2.2.1
  have hown := cx.1.2.2.2.1
  have hts := cx.1.2.2.2.2
  have hl : lv_has ls 2 [(0, .ref a0)] := hl
  have fr : oFr τ fs_X11_readCell ts_X11_readCell σ σ := oFr_rf
  refine lv_aload_n hx hb dX11_readCell_0 rfl (lv_at hl 0 rfl) ?_
  refine lv_bipush (v := 97) hx hb dX11_readCell_1 (by decide) ?_
  refine lv_bipush (v := 8) hx hb dX11_readCell_3 (by decide) ?_
  have i1 : Iv (σ.1 662 a0) 0 200 := o_fb (j := 662) hw ha0 rfl
  have i2 : Iv (σ.1 663 a0) (-1) 200 := o_fb (j := 663) hw ha0 rfl
  have i3 : Iv (σ.1 661 a0) 0 80 := o_fb (j := 661) hw ha0 rfl
  refine o_ci hw (oRunV cx hA hw q_X11_oneOf k_m_X11_171 rfl ha0 (by decide) (As := [.int 97, .int 8]) (c_X11_oneOfT a0 ha0 97 (iv_w (⟨by decide, by decide⟩ : Iv 97 97 97) (by decide)) 8 (iv_w (⟨by decide, by decide⟩ : Iv 8 8 8) (by decide)) b0 (hF0) hb0 (kn_iv (rfl) (iv_w hf660 (by decide)))) (by decide) rfl hl.1 rfl (Nat.le_of_ble_eq_true rfl) dX11_readCell_5 (by decide)) (fun v5 σ4 H locs hp hw => ?_)
  obtain ⟨p5_0, p5_1, p5_2, p5_3, p5_4, p5_5, p5_6, p5_7⟩ := hp
  have fr := oFr_tr fr p5_0 (by decide)
  have i6 : Iv (σ4.1 662 a0) 0 200 := o_fb (j := 662) hw ha0 rfl
  have i7 : Iv (σ4.1 663 a0) (-1) 200 := o_fb (j := 663) hw ha0 rfl
  have i8 : Iv v5 0 7 := iv_lt0 p5_2 (⟨by decide, by decide⟩ : Iv 8 8 8) (by decide)
  refine lv_istore_n (lv' := [(1, .int v5), (0, .ref a0)]) hx hb dX11_readCell_8 rfl hl (by decide) rfl (fun ls hl => ?_)
  refine lv_bipush (v := 8) hx hb dX11_readCell_9 (by decide) ?_
  refine lv_aload_n hx hb dX11_readCell_11 rfl (lv_at hl 1 rfl) ?_
  refine lv_bipush (v := 49) hx hb dX11_readCell_12 (by decide) ?_
  refine lv_bipush (v := 8) hx hb dX11_readCell_14 (by decide) ?_
  have z9 : (σ4.1 660 a0).toInt = ((σ.1 660 a0) : Int32).toInt := congrArg Int32.toInt (show σ4.1 660 a0 = (σ.1 660 a0) from ((kp_c p5_0 (by decide)).trans rfl))
  have z10 : (σ4.1 661 a0).toInt = ((σ.1 661 a0) : Int32).toInt := congrArg Int32.toInt (show σ4.1 661 a0 = (σ.1 661 a0) from ((kp_c p5_0 (by decide)).trans rfl))
  refine o_ci hw (oRunV cx hA hw q_X11_oneOf k_m_X11_171 rfl ha0 (by decide) (As := [.int 49, .int 8]) (c_X11_oneOfT a0 ha0 49 (iv_w (⟨by decide, by decide⟩ : Iv 49 49 49) (by decide)) 8 (iv_w (⟨by decide, by decide⟩ : Iv 8 8 8) (by decide)) b0 (((kr_c p5_0 (by decide)).trans hF0)) hb0 (kn_iv (((kp_c p5_0 (by decide)).trans rfl)) (iv_w hf660 (by decide)))) (by decide) rfl hl.1 rfl (Nat.le_of_ble_eq_true rfl) dX11_readCell_16 (by decide)) (fun v12 σ11 H locs hp hw => ?_)
  obtain ⟨p12_0, p12_1, p12_2, p12_3, p12_4, p12_5, p12_6, p12_7⟩ := hp
  have fr := oFr_tr fr p12_0 (by decide)
  have i13 : Iv (σ11.1 662 a0) 0 200 := o_fb (j := 662) hw ha0 rfl
  have i14 : Iv (σ11.1 663 a0) (-1) 200 := o_fb (j := 663) hw ha0 rfl
  have i15 : Iv v12 0 7 := iv_lt0 p12_2 (⟨by decide, by decide⟩ : Iv 8 8 8) (by decide)
  refine lv_imul hx hb dX11_readCell_19 ?_
  refine lv_topi (fun v16 e16 => ?_)
  have i16 : Iv v16 0 56 := iv_mul e16 (⟨by decide, by decide⟩ : Iv 8 8 8) i15 (by decide)
  refine lv_iload_n hx hb dX11_readCell_20 rfl (lv_at hl 0 rfl) ?_
  refine lv_iadd hx hb dX11_readCell_21 ?_
  refine lv_topi (fun v17 e17 => ?_)
  have i17 : Iv v17 0 63 := iv_add e17 i16 i8 (by decide)
  have x17 : v17.toInt = v16.toInt + v5.toInt := ex_add e17 i16 i8 (by decide)
  rw [← hQ]
  exact o_ri cx rx hw dX11_readCell_22 ⟨fr, (iv_w i17 (by decide)), (by exact (by have := (i8).1; have := (i8).2; have := (i17).1; have := (i17).2; have := (hf660).1; have := (hf660).2; have := (i3).1; have := (i3).2; have := (i13).1; have := (i13).2; have := (i14).1; have := (i14).2; have := (i1).1; have := (i1).2; have := (i2).1; have := (i2).2; have := (i6).1; have := (i6).2; have := (i7).1; have := (i7).2; have := (i15).1; have := (i15).2; have := (i16).1; have := (i16).2; have : (σ11.1 660 a0).toInt = ((σ.1 660 a0) : Int32).toInt := congrArg Int32.toInt (show σ11.1 660 a0 = (σ.1 660 a0) from ((kp_c p12_0 (by decide)).trans ((kp_c p5_0 (by decide)).trans rfl))); have : (σ11.1 661 a0).toInt = ((σ.1 661 a0) : Int32).toInt := congrArg Int32.toInt (show σ11.1 661 a0 = (σ.1 661 a0) from ((kp_c p12_0 (by decide)).trans ((kp_c p5_0 (by decide)).trans rfl))); have : (49 : Int32).toInt = 49 := (by decide); have : (8 : Int32).toInt = 8 := (by decide); have : (97 : Int32).toInt = 97 := (by decide); omega))⟩
abbrev fs_X11_readAct : List Nat := [662, 663]
abbrev ts_X11_readAct : List Nat := [57]
set_option maxHeartbeats 4000000 in
set_option maxRecDepth 100000 in
theorem c_X11_readAct (a0 : Nat) (ha0 : oA L τ a0 10) (a1 : Int32) (ia1 : Iv a1 0 316) (b0 : Nat) (hF0 : σ.2.2.2.2 659 a0 = some b0) (hb0 : oA L τ b0 51) (hf660 : Iv (σ.1 660 a0) 0 0) (hf662 : Iv (σ.1 662 a0) 0 80) : oMet l A L τ cy D K yX11_readAct cX11_readAct 3 none 4 84 [.ref a0, .int a1] σ (va_Qv (fun σ1 => oFr τ fs_X11_readAct ts_X11_readAct σ σ1 ∧ ((σ.1 662 a0).toInt + 1 ≤ (σ1.1 662 a0).toInt)) (oPo A L τ cy D) A) := by
  refine oMk (by decide) (Nat.le_of_ble_eq_true rfl) rfl ?_
  intro p e s m args below meth c ls cx rx hA hw hl
  generalize hQ : MQ below _ args s 0 0 A = Q
  have hx := cx.1.1
  have hb := cx.1.2.1
  have hml := cx.1.2.2.1
  have hown := cx.1.2.2.2.1
  have hts := cx.1.2.2.2.2
  have hl : lv_has ls 3 [(0, .ref a0), (1, .int a1)] := hl
  have fr : oFr τ fs_X11_readAct ts_X11_readAct σ σ := oFr_rf
  refine lv_aload_n hx hb dX11_readAct_0 rfl (lv_at hl 0 rfl) ?_
  have i1 : Iv (σ.1 661 a0) 0 80 := o_fb (j := 661) hw ha0 rfl
  refine o_ci hw (oRunV cx hA hw q_X11_here k_m_X11_130 rfl ha0 (by decide) (As := []) (c_X11_hereT a0 ha0 b0 (hF0) hb0 (kn_iv (rfl) (iv_w hf660 (by decide)))) (by decide) rfl hl.1 rfl (Nat.le_of_ble_eq_true rfl) dX11_readAct_1 (by decide)) (fun v3 σ2 H locs hp hw => ?_)
  obtain ⟨p3_0, p3_1, p3_2, p3_3, p3_4, p3_5, p3_6⟩ := hp
  rw [p3_0] at hw
  have hnv3 := congrArg Int32.toInt p3_6
  refine lv_istore_n (lv' := [(2, .int v3), (0, .ref a0), (1, .int a1)]) hx hb dX11_readAct_4 rfl hl (by decide) rfl (fun ls hl => ?_)
  refine lv_iload_n hx hb dX11_readAct_5 rfl (lv_at hl 0 rfl) ?_
  refine lv_bipush (v := 104) hx hb dX11_readAct_6 (by decide) ?_
  refine lv_icmp_eq (tgt := 49) hx hb dX11_readAct_8 (by decide) (fun c4 => ?_) (fun c4 => ?_)
  · --
    exact iv_no (iv_eq1 (lo := 104) (hi := (-1)) c4 p3_1 (⟨by decide, by decide⟩ : Iv 104 104 104) (by decide)) (by decide)
  · --
    refine lv_iload_n hx hb dX11_readAct_11 rfl (lv_at hl 0 rfl) ?_
    refine lv_bipush (v := 115) hx hb dX11_readAct_12 (by decide) ?_
    refine lv_icmp_eq (tgt := 49) hx hb dX11_readAct_14 (by decide) (fun c5 => ?_) (fun c5 => ?_)
    · --
      exact iv_no (iv_eq1 (lo := 115) (hi := (-1)) c5 p3_1 (⟨by decide, by decide⟩ : Iv 115 115 115) (by decide)) (by decide)
    · --
      refine lv_iload_n hx hb dX11_readAct_17 rfl (lv_at hl 0 rfl) ?_
      refine lv_bipush (v := 116) hx hb dX11_readAct_18 (by decide) ?_
      refine lv_icmp_eq (tgt := 49) hx hb dX11_readAct_20 (by decide) (fun c6 => ?_) (fun c6 => ?_)
      · --
        exact iv_no (iv_eq1 (lo := 116) (hi := (-1)) c6 p3_1 (⟨by decide, by decide⟩ : Iv 116 116 116) (by decide)) (by decide)
      · --
        refine lv_iload_n hx hb dX11_readAct_23 rfl (lv_at hl 0 rfl) ?_
        refine lv_bipush (v := 111) hx hb dX11_readAct_24 (by decide) ?_
        refine lv_icmp_eq (tgt := 49) hx hb dX11_readAct_26 (by decide) (fun c7 => ?_) (fun c7 => ?_)
        · --
          exact iv_no (iv_eq1 (lo := 111) (hi := (-1)) c7 p3_1 (⟨by decide, by decide⟩ : Iv 111 111 111) (by decide)) (by decide)
        · --
          refine lv_iload_n hx hb dX11_readAct_29 rfl (lv_at hl 0 rfl) ?_
          refine lv_bipush (v := 99) hx hb dX11_readAct_30 (by decide) ?_
          refine lv_icmp_eq (tgt := 49) hx hb dX11_readAct_32 (by decide) (fun c8 => ?_) (fun c8 => ?_)
          · --
            exact iv_no (iv_eq1 (lo := 99) (hi := (-1)) c8 p3_1 (⟨by decide, by decide⟩ : Iv 99 99 99) (by decide)) (by decide)
          · --
            refine lv_iload_n hx hb dX11_readAct_35 rfl (lv_at hl 0 rfl) ?_
            refine lv_bipush (v := 100) hx hb dX11_readAct_36 (by decide) ?_
            refine lv_icmp_eq (tgt := 49) hx hb dX11_readAct_38 (by decide) (fun c9 => ?_) (fun c9 => ?_)
            · --
              exact iv_no (iv_eq1 (lo := 100) (hi := (-1)) c9 p3_1 (⟨by decide, by decide⟩ : Iv 100 100 100) (by decide)) (by decide)
            · --
              refine lv_aload_n hx hb dX11_readAct_41 rfl (lv_at hl 1 rfl) ?_
              refine lv_aload_n hx hb dX11_readAct_42 rfl (lv_at hl 1 rfl) ?_
              refine g_662 cx hw ha0 k_f_X11_120 dX11_readAct_43 (fun v10 e10 i10 => ?_)
              rw [show v10 = (σ.1 662 a0) from e10.trans rfl]
              have i11 : Iv (σ.1 663 a0) (-1) 200 := o_fb (j := 663) hw ha0 rfl
              refine o_cv hw (oRunV cx hA hw q_X11_fault k_m_X11_138 rfl ha0 (by decide) (As := [.int (σ.1 662 a0)]) (c_X11_fault a0 ha0 (σ.1 662 a0) (iv_w hf662 (by decide))) (by decide) rfl hl.1 rfl (Nat.le_of_ble_eq_true rfl) dX11_readAct_46 (by decide)) (fun σ12 H locs hp hw => ?_)
              obtain ⟨p13_0, p13_1⟩ := hp
              have fr := oFr_tr fr p13_0 (by decide)
              have i14 : Iv (σ12.1 663 a0) (-1) 200 := o_fb (j := 663) hw ha0 rfl
              have i15 : Iv (σ12.1 663 a0) 0 200 := (by have := (ia1).1; have := (ia1).2; have := (p3_1).1; have := (p3_1).2; have := (hf660).1; have := (hf660).2; have := (hf662).1; have := (hf662).2; have := (i1).1; have := (i1).2; have := (i14).1; have := (i14).2; have := (i11).1; have := (i11).2; have : (σ12.1 660 a0).toInt = ((σ.1 660 a0) : Int32).toInt := congrArg Int32.toInt (show σ12.1 660 a0 = (σ.1 660 a0) from ((kp_c p13_0 (by decide)).trans rfl)); have : (σ12.1 662 a0).toInt = ((σ.1 662 a0) : Int32).toInt := congrArg Int32.toInt (show σ12.1 662 a0 = (σ.1 662 a0) from ((kp_c p13_0 (by decide)).trans rfl)); have : (σ12.1 661 a0).toInt = ((σ.1 661 a0) : Int32).toInt := congrArg Int32.toInt (show σ12.1 661 a0 = (σ.1 661 a0) from ((kp_c p13_0 (by decide)).trans rfl)); exact ⟨by omega, by omega⟩)
              refine lv_aload_n hx hb dX11_readAct_49 rfl (lv_at hl 1 rfl) ?_
              refine lv_dup hx hb dX11_readAct_50 rfl ?_
              refine g_662 cx hw ha0 k_f_X11_120 dX11_readAct_51 (fun v16 e16 i16 => ?_)
              rw [show v16 = (σ.1 662 a0) from e16.trans ((kp_c p13_0 (by decide)).trans rfl)]
              refine lv_iconst (v := 1) hx hb dX11_readAct_54 (by decide) ?_
              refine lv_iadd hx hb dX11_readAct_55 ?_
              refine lv_topi (fun v17 e17 => ?_)
              have i17 : Iv v17 1 81 := iv_add e17 hf662 (⟨by decide, by decide⟩ : Iv 1 1 1) (by decide)
              have x17 : v17.toInt = (σ.1 662 a0).toInt + 1 := ex_add e17 hf662 (⟨by decide, by decide⟩ : Iv 1 1 1) (by decide)
              refine p_662 cx hw ha0 (iv_w i17 (by decide)) k_f_X11_120 dX11_readAct_56 (fun σ18 H locs eσ18 hw => ?_)
              have fr := oFr_i fr eσ18 (by decide)
              refine lv_aload_n hx hb dX11_readAct_59 rfl (lv_at hl 1 rfl) ?_
              refine g_674 cx hw ha0 k_f_X11_61 dX11_readAct_60 (fun v19 e19 h19 => ?_)
              refine lv_iload_n hx hb dX11_readAct_63 rfl (lv_at hl 2 rfl) ?_
              refine lv_iload_n hx hb dX11_readAct_64 rfl (lv_at hl 0 rfl) ?_
              refine o_iast cx hw h19 (by decide) rfl (iv_in ia1 (by decide)) trivial dX11_readAct_65 (fun σ20 H locs eσ20 hw => ?_)
              have fr := oFr_p fr eσ20 h19 (by decide)
              refine lv_iload_n hx hb dX11_readAct_66 rfl (lv_at hl 0 rfl) ?_
              have q21 : ¬ v3 = 100 := fun h => iv_no (iv_eq1 (lo := 100) (hi := (-1)) h p3_1 (⟨by decide, by decide⟩ : Iv 100 100 100) (by decide)) (by decide)
              have q22 : ¬ v3 = 104 := fun h => iv_no (iv_eq1 (lo := 104) (hi := (-1)) h p3_1 (⟨by decide, by decide⟩ : Iv 104 104 104) (by decide)) (by decide)
              have q23 : ¬ v3 = 115 := fun h => iv_no (iv_eq1 (lo := 115) (hi := (-1)) h p3_1 (⟨by decide, by decide⟩ : Iv 115 115 115) (by decide)) (by decide)
              have q24 : ¬ v3 = 116 := fun h => iv_no (iv_eq1 (lo := 116) (hi := (-1)) h p3_1 (⟨by decide, by decide⟩ : Iv 116 116 116) (by decide)) (by decide)
              have q21 := iv_nt q21 (k := 100) (by decide)
              have q22 := iv_nt q22 (k := 104) (by decide)
              have q23 := iv_nt q23 (k := 115) (by decide)
              have q24 := iv_nt q24 (k := 116) (by decide)
              refine lv_lookup (off := 136) (tgt := 203) hx hb dX11_readAct_67 (by decide) (by simp [Op.lookupswitch.offset, q21, Ne.symm q21, q22, Ne.symm q22, q23, Ne.symm q23, q24, Ne.symm q24]) (by decide) ?_
              refine lv_aload_n hx hb dX11_readAct_203 rfl (lv_at hl 1 rfl) ?_
              refine g_674 cx hw ha0 k_f_X11_61 dX11_readAct_204 (fun v25 e25 h25 => ?_)
              rw [show v25 = v19 from Option.some.inj (e25.symm.trans (((kr_p eσ20).trans e19)))]
              refine lv_iload_n hx hb dX11_readAct_207 rfl (lv_at hl 2 rfl) ?_
              refine lv_iconst (v := 1) hx hb dX11_readAct_208 (by decide) ?_
              refine lv_iadd hx hb dX11_readAct_209 ?_
              refine lv_topi (fun v26 e26 => ?_)
              have i26 : Iv v26 1 317 := iv_add e26 ia1 (⟨by decide, by decide⟩ : Iv 1 1 1) (by decide)
              have x26 : v26.toInt = a1.toInt + 1 := ex_add e26 ia1 (⟨by decide, by decide⟩ : Iv 1 1 1) (by decide)
              refine lv_aload_n hx hb dX11_readAct_210 rfl (lv_at hl 1 rfl) ?_
              refine lv_bipush (v := 48) hx hb dX11_readAct_211 (by decide) ?_
              refine lv_bipush (v := 10) hx hb dX11_readAct_213 (by decide) ?_
              have z27 : (σ20.1 662 a0).toInt = (v17 : Int32).toInt := congrArg Int32.toInt (show σ20.1 662 a0 = v17 from ((kp_p eσ20).trans (kp_s eσ18)))
              have z28 : (σ20.1 660 a0).toInt = ((σ.1 660 a0) : Int32).toInt := congrArg Int32.toInt (show σ20.1 660 a0 = (σ.1 660 a0) from ((kp_p eσ20).trans ((kp_i eσ18 (by decide)).trans ((kp_c p13_0 (by decide)).trans rfl))))
              have z29 : (σ20.1 663 a0).toInt = ((σ12.1 663 a0) : Int32).toInt := congrArg Int32.toInt (show σ20.1 663 a0 = (σ12.1 663 a0) from ((kp_p eσ20).trans ((kp_i eσ18 (by decide)).trans rfl)))
              have z30 : (σ20.1 661 a0).toInt = ((σ.1 661 a0) : Int32).toInt := congrArg Int32.toInt (show σ20.1 661 a0 = (σ.1 661 a0) from ((kp_p eσ20).trans ((kp_i eσ18 (by decide)).trans ((kp_c p13_0 (by decide)).trans rfl))))
              refine o_ci hw (oRunV cx hA hw q_X11_oneOf k_m_X11_171 rfl ha0 (by decide) (As := [.int 48, .int 10]) (c_X11_oneOfT a0 ha0 48 (iv_w (⟨by decide, by decide⟩ : Iv 48 48 48) (by decide)) 10 (iv_w (⟨by decide, by decide⟩ : Iv 10 10 10) (by decide)) b0 (((kr_p eσ20).trans ((kr_i eσ18).trans ((kr_c p13_0 (by decide)).trans hF0)))) hb0 (kn_iv (((kp_p eσ20).trans ((kp_i eσ18 (by decide)).trans ((kp_c p13_0 (by decide)).trans rfl)))) (iv_w hf660 (by decide)))) (by decide) rfl hl.1 rfl (Nat.le_of_ble_eq_true rfl) dX11_readAct_215 (by decide)) (fun v32 σ31 H locs hp hw => ?_)
              obtain ⟨p32_0, p32_1, p32_2, p32_3, p32_4, p32_5, p32_6, p32_7⟩ := hp
              have fr := oFr_tr fr p32_0 (by decide)
              have i33 : Iv (σ31.1 662 a0) 0 200 := o_fb (j := 662) hw ha0 rfl
              have i34 : Iv (σ31.1 663 a0) (-1) 200 := o_fb (j := 663) hw ha0 rfl
              have i35 : Iv v32 0 9 := iv_lt0 p32_2 (⟨by decide, by decide⟩ : Iv 10 10 10) (by decide)
              refine o_iast cx hw h19 (by decide) rfl (iv_in i26 (by decide)) trivial dX11_readAct_218 (fun σ36 H locs eσ36 hw => ?_)
              have fr := oFr_p fr eσ36 h19 (by decide)
              rw [← hQ]
              exact o_rv cx rx hw dX11_readAct_219 ⟨fr, (by exact (by have := (ia1).1; have := (ia1).2; have := (p3_1).1; have := (p3_1).2; have := (hf660).1; have := (hf660).2; have := (i1).1; have := (i1).2; have := (i33).1; have := (i33).2; have := (i34).1; have := (i34).2; have := (hf662).1; have := (hf662).2; have := (i11).1; have := (i11).2; have := (i15).1; have := (i15).2; have := (i17).1; have := (i17).2; have := (i26).1; have := (i26).2; have := (i35).1; have := (i35).2; have : (σ36.1 660 a0).toInt = ((σ.1 660 a0) : Int32).toInt := congrArg Int32.toInt (show σ36.1 660 a0 = (σ.1 660 a0) from ((kp_p eσ36).trans ((kp_c p32_0 (by decide)).trans ((kp_p eσ20).trans ((kp_i eσ18 (by decide)).trans ((kp_c p13_0 (by decide)).trans rfl)))))); have : (σ36.1 661 a0).toInt = ((σ.1 661 a0) : Int32).toInt := congrArg Int32.toInt (show σ36.1 661 a0 = (σ.1 661 a0) from ((kp_p eσ36).trans ((kp_c p32_0 (by decide)).trans ((kp_p eσ20).trans ((kp_i eσ18 (by decide)).trans ((kp_c p13_0 (by decide)).trans rfl)))))); have : (σ36.1 662 a0).toInt = ((σ31.1 662 a0) : Int32).toInt := congrArg Int32.toInt (show σ36.1 662 a0 = (σ31.1 662 a0) from ((kp_p eσ36).trans rfl)); have : (σ36.1 663 a0).toInt = ((σ31.1 663 a0) : Int32).toInt := congrArg Int32.toInt (show σ36.1 663 a0 = (σ31.1 663 a0) from ((kp_p eσ36).trans rfl)); have : (10 : Int32).toInt = 10 := (by decide); have : (48 : Int32).toInt = 48 := (by decide); omega))⟩
abbrev fs_X11_act : List Nat := [675]
abbrev ts_X11_act : List Nat := [48]
set_option maxHeartbeats 4000000 in
set_option maxRecDepth 100000 in
theorem c_X11_act (a0 : Nat) (ha0 : oA L τ a0 10) (a1 : Int32) (a2 : Int32) (a3 : Int32) (a4 : Int32) : oMet l A L τ cy D K yX11_act cX11_act 6 (some .boolean) 3 68 [.ref a0, .int a1, .int a2, .int a3, .int a4] σ (va_Qi (fun r σ1 => oFr τ fs_X11_act ts_X11_act σ σ1 ∧ Iv r 0 1) (oPo A L τ cy D) A) := by
  refine oMk (by decide) (Nat.le_of_ble_eq_true rfl) rfl ?_
  intro p e s m args below meth c ls cx rx hA hw hl
  generalize hQ : MQ below _ args s 0 0 A = Q
  have hx := cx.1.1
  have hb := cx.1.2.1
  have hml := cx.1.2.2.1
  have hown := cx.1.2.2.2.1
  have hts := cx.1.2.2.2.2
  have hl : lv_has ls 6 [(0, .ref a0), (1, .int a1), (2, .int a2), (3, .int a3), (4, .int a4)] := hl
  have fr : oFr τ fs_X11_act ts_X11_act σ σ := oFr_rf
  refine lv_iload_n hx hb dX11_act_0 rfl (lv_at hl 1 rfl) ?_
  by_cases q1 : a1 = 100
  · --
    refine lv_lookup (off := 112) (tgt := 113) hx hb dX11_act_1 (by decide) (by rw [q1] <;> decide) (by decide) ?_
    have i2 : Iv a1 100 100 := iv_eq1 q1 (iv_top a1) (⟨by decide, by decide⟩ : Iv 100 100 100) (by decide)
    refine lv_aload_n hx hb dX11_act_113 rfl (lv_at hl 0 rfl) ?_
    refine lv_iload_n hx hb dX11_act_114 rfl (lv_at hl 2 rfl) ?_
    refine lv_iload_n hx hb dX11_act_115 rfl (lv_at hl 3 rfl) ?_
    refine o_ci hw (oRunV cx hA hw q_X11_refusesDrive k_m_X11_272 rfl ha0 (by decide) (As := [.int a2, .int a3]) (c_X11_refusesDrive a0 ha0 a2 a3) (by decide) rfl hl.1 rfl (Nat.le_of_ble_eq_true rfl) dX11_act_116 (by decide)) (fun v4 σ3 H locs hp hw => ?_)
    obtain ⟨p4_0, p4_1, p4_2, p4_3⟩ := hp
    rw [p4_0] at hw
    refine lv_if_ge (tgt := 124) hx hb dX11_act_119 (by decide) (fun c5 => ?_) (fun c5 => ?_)
    · --
      have i6 : Iv a2 0 5 := p4_2 c5
      have i7 : Iv a3 0 63 := p4_3 c5
      exact iv_no (iv_le1 (b' := (-1)) c5 (⟨by decide, by decide⟩ : Iv 0 0 0) p4_1 (by decide)) (by decide)
    · --
      refine lv_iconst (v := 0) hx hb dX11_act_122 (by decide) ?_
      rw [← hQ]
      exact o_rz cx rx hw (iv_nz01 (iv_w (⟨by decide, by decide⟩ : Iv 0 0 0) (by decide))) dX11_act_123 ⟨fr, (iv_w (⟨by decide, by decide⟩ : Iv 0 0 0) (by decide))⟩
  by_cases q8 : a1 = 104
  · --
    refine lv_lookup (off := 43) (tgt := 44) hx hb dX11_act_1 (by decide) (by rw [q8] <;> decide) (by decide) ?_
    have i9 : Iv a1 104 104 := iv_eq1 q8 (iv_top a1) (⟨by decide, by decide⟩ : Iv 104 104 104) (by decide)
    refine lv_iconst (v := 0) hx hb dX11_act_44 (by decide) ?_
    refine lv_istore (lv' := [(5, .int 0), (0, .ref a0), (1, .int a1), (2, .int a2), (3, .int a3), (4, .int a4)]) hx hb dX11_act_45 hl (by decide) rfl (fun ls hl => ?_)
    have frE_47 := fr
    have J_47 : ∀ n47 : Nat, ∀ (j47_5 : Int32) (ij47_5 : Iv j47_5 0 2147483647), ∀ (σ_47 : oSt) (H : Heap) (locs : List Loc), oI A L τ cy D s.heap σ_47 H locs → oFr τ fs_X11_act ts_X11_act σ σ_47 → (2147483647 - j47_5.toInt).toNat < n47 → ∀ (ls : Array Slot), lv_has ls 6 [(0, .ref a0), (1, .int a1), (2, .int a2), (3, .int a3), (4, .int a4), (5, .int j47_5)] → W p l e ({ frames := 3, cells := 0, slots := 0, locals := 68 } : Room) s m args below meth c H locs 0 0 Q (F0 m 47 ls []) := by
      intro n47
      induction n47 with
      | zero => intro j47_5 ij47_5 σ_47 H locs hw fr   hn_47   ls hl; exact absurd hn_47 (Nat.not_lt_zero _)
      | succ n47 ih_47 =>
        intro j47_5 ij47_5 σ_47 H locs hw fr   hn_47   ls hl
        have fr_47 := fr
        refine lv_iload hx hb dX11_act_47 (lv_at hl 5 rfl) ?_
        refine lv_iload_n hx hb dX11_act_49 rfl (lv_at hl 2 rfl) ?_
        refine lv_icmp_ge (tgt := 76) hx hb dX11_act_50 (by decide) (fun c10 => ?_) (fun c10 => ?_)
        · --
          refine lv_iconst (v := 1) hx hb dX11_act_76 (by decide) ?_
          rw [← hQ]
          exact o_rz cx rx hw (iv_nz01 (iv_w (⟨by decide, by decide⟩ : Iv 1 1 1) (by decide))) dX11_act_77 ⟨fr, (iv_w (⟨by decide, by decide⟩ : Iv 1 1 1) (by decide))⟩
        · --
          have i11 : Iv j47_5 0 2147483646 := iv_lt1 (iv_nle c10) ij47_5 (iv_top a2) (by decide)
          have i12 : Iv a2 1 2147483647 := iv_lt2 (iv_nle c10) ij47_5 (iv_top a2) (by decide)
          refine lv_aload_n hx hb dX11_act_53 rfl (lv_at hl 0 rfl) ?_
          refine lv_dup hx hb dX11_act_54 rfl ?_
          refine g_675 cx hw ha0 k_f_X11_295 dX11_act_55 (fun v13 e13 => ?_)
          refine lv_aload_n hx hb dX11_act_58 rfl (lv_at hl 0 rfl) ?_
          refine lv_aload_n hx hb dX11_act_59 rfl (lv_at hl 0 rfl) ?_
          refine g_640 cx hw ha0 k_f_X11_9 dX11_act_60 (fun v14 e14 h14 => ?_)
          refine o_ci hw (oRunV cx hA hw q_X11_goHour k_m_X11_285 rfl ha0 (by decide) (As := [.ref v14]) (c_X11_goHour a0 ha0 v14 h14) (by decide) rfl hl.1 rfl (Nat.le_of_ble_eq_true rfl) dX11_act_63 (by decide)) (fun v16 σ15 H locs hp hw => ?_)
          obtain ⟨p16_0, p16_1⟩ := hp
          have fr := oFr_tr fr p16_0 (by decide)
          refine lv_iadd hx hb dX11_act_66 ?_
          refine lv_topi (fun v17 e17 => ?_)
          refine p_675 cx hw ha0 k_f_X11_295 dX11_act_67 (fun σ18 H locs eσ18 hw => ?_)
          have fr := oFr_i fr eσ18 (by decide)
          obtain ⟨v19, e19⟩ : ∃ y : Int32, y = j47_5 + 1 := ⟨_, rfl⟩
          have i19 : Iv v19 1 2147483647 := iv_add e19 i11 (⟨by decide, by decide⟩ : Iv 1 1 1) (by decide)
          have x19 : v19.toInt = j47_5.toInt + 1 := ex_add e19 i11 (⟨by decide, by decide⟩ : Iv 1 1 1) (by decide)
          refine lv_iinc (v := v19) (lv' := [(5, .int v19), (0, .ref a0), (1, .int a1), (2, .int a2), (3, .int a3), (4, .int a4)]) hx hb dX11_act_70 hl (k := 5) rfl (by rw [e19]; rfl) (by decide) rfl (fun ls hl => ?_)
          refine lv_goto (tgt := 47) hx hb dX11_act_73 (by decide) ?_
          exact ih_47 v19 (iv_w i19 (by decide)) σ18 _ _ hw fr (ms_up x19 (by decide) (iv_w (a' := 0) (b' := 2147483647) i19 (by decide)).2 hn_47) _ (lv_sub hl [1, 2, 3, 4, 5, 0] rfl)
    exact J_47 _ 0 (iv_w (⟨by decide, by decide⟩ : Iv 0 0 0) (by decide)) σ _ _ hw fr (Nat.lt_succ_self _) _ (lv_sub hl [1, 2, 3, 4, 5, 0] rfl)
  by_cases q20 : a1 = 115
  · --
    refine lv_lookup (off := 77) (tgt := 78) hx hb dX11_act_1 (by decide) (by rw [q20] <;> decide) (by decide) ?_
    have i21 : Iv a1 115 115 := iv_eq1 q20 (iv_top a1) (⟨by decide, by decide⟩ : Iv 115 115 115) (by decide)
    refine lv_aload_n hx hb dX11_act_78 rfl (lv_at hl 0 rfl) ?_
    refine lv_iload_n hx hb dX11_act_79 rfl (lv_at hl 2 rfl) ?_
    refine lv_iload_n hx hb dX11_act_80 rfl (lv_at hl 3 rfl) ?_
    refine o_ci hw (oRunV cx hA hw q_X11_refusesLay k_m_X11_255 rfl ha0 (by decide) (As := [.int a2, .int a3]) (c_X11_refusesLay a0 ha0 a2 a3) (by decide) rfl hl.1 rfl (Nat.le_of_ble_eq_true rfl) dX11_act_81 (by decide)) (fun v23 σ22 H locs hp hw => ?_)
    obtain ⟨p23_0, p23_1, p23_2⟩ := hp
    rw [p23_0] at hw
    refine lv_if_ge (tgt := 89) hx hb dX11_act_84 (by decide) (fun c24 => ?_) (fun c24 => ?_)
    · --
      have i25 : Iv a2 0 63 := p23_2 c24
      exact iv_no (iv_le1 (b' := (-1)) c24 (⟨by decide, by decide⟩ : Iv 0 0 0) p23_1 (by decide)) (by decide)
    · --
      refine lv_iconst (v := 0) hx hb dX11_act_87 (by decide) ?_
      rw [← hQ]
      exact o_rz cx rx hw (iv_nz01 (iv_w (⟨by decide, by decide⟩ : Iv 0 0 0) (by decide))) dX11_act_88 ⟨fr, (iv_w (⟨by decide, by decide⟩ : Iv 0 0 0) (by decide))⟩
  by_cases q26 : a1 = 116
  · --
    refine lv_lookup (off := 77) (tgt := 78) hx hb dX11_act_1 (by decide) (by rw [q26] <;> decide) (by decide) ?_
    have i27 : Iv a1 116 116 := iv_eq1 q26 (iv_top a1) (⟨by decide, by decide⟩ : Iv 116 116 116) (by decide)
    refine lv_aload_n hx hb dX11_act_78 rfl (lv_at hl 0 rfl) ?_
    refine lv_iload_n hx hb dX11_act_79 rfl (lv_at hl 2 rfl) ?_
    refine lv_iload_n hx hb dX11_act_80 rfl (lv_at hl 3 rfl) ?_
    refine o_ci hw (oRunV cx hA hw q_X11_refusesLay k_m_X11_255 rfl ha0 (by decide) (As := [.int a2, .int a3]) (c_X11_refusesLay a0 ha0 a2 a3) (by decide) rfl hl.1 rfl (Nat.le_of_ble_eq_true rfl) dX11_act_81 (by decide)) (fun v29 σ28 H locs hp hw => ?_)
    obtain ⟨p29_0, p29_1, p29_2⟩ := hp
    rw [p29_0] at hw
    refine lv_if_ge (tgt := 89) hx hb dX11_act_84 (by decide) (fun c30 => ?_) (fun c30 => ?_)
    · --
      have i31 : Iv a2 0 63 := p29_2 c30
      exact iv_no (iv_le1 (b' := (-1)) c30 (⟨by decide, by decide⟩ : Iv 0 0 0) p29_1 (by decide)) (by decide)
    · --
      refine lv_iconst (v := 0) hx hb dX11_act_87 (by decide) ?_
      rw [← hQ]
      exact o_rz cx rx hw (iv_nz01 (iv_w (⟨by decide, by decide⟩ : Iv 0 0 0) (by decide))) dX11_act_88 ⟨fr, (iv_w (⟨by decide, by decide⟩ : Iv 0 0 0) (by decide))⟩
  have q1 := iv_nt q1 (k := 100) (by decide)
  have q8 := iv_nt q8 (k := 104) (by decide)
  have q20 := iv_nt q20 (k := 115) (by decide)
  have q26 := iv_nt q26 (k := 116) (by decide)
  refine lv_lookup (off := 132) (tgt := 133) hx hb dX11_act_1 (by decide) (by simp [Op.lookupswitch.offset, q1, Ne.symm q1, q8, Ne.symm q8, q20, Ne.symm q20, q26, Ne.symm q26]) (by decide) ?_
  refine lv_iload_n hx hb dX11_act_133 rfl (lv_at hl 1 rfl) ?_
  refine lv_bipush (v := 111) hx hb dX11_act_134 (by decide) ?_
  have J_144 : ∀ (k144_0 : Int32) (ik144_0 : Iv k144_0 0 1), ∀ (H : Heap) (locs : List Loc), oI A L τ cy D s.heap σ H locs → ∀ (ls : Array Slot), lv_has ls 6 [(0, .ref a0), (1, .int a1), (2, .int a2), (3, .int a3), (4, .int a4)] → W p l e ({ frames := 3, cells := 0, slots := 0, locals := 68 } : Room) s m args below meth c H locs 0 0 Q (F0 m 144 ls [.int k144_0]) := by
    intro k144_0 ik144_0 H locs hw     ls hl
    refine lv_istore (lv' := [(5, .int k144_0), (0, .ref a0), (1, .int a1), (2, .int a2), (3, .int a3), (4, .int a4)]) hx hb dX11_act_144 hl (by decide) rfl (fun ls hl => ?_)
    refine lv_aload_n hx hb dX11_act_146 rfl (lv_at hl 1 rfl) ?_
    refine lv_iload_n hx hb dX11_act_147 rfl (lv_at hl 3 rfl) ?_
    refine lv_iload hx hb dX11_act_148 (lv_at hl 0 rfl) ?_
    refine o_ci hw (oRunV cx hA hw q_X11_refusesGate k_m_X11_266 rfl ha0 (by decide) (As := [.int a2, .int k144_0]) (c_X11_refusesGate a0 ha0 a2 k144_0) (by decide) rfl hl.1 rfl (Nat.le_of_ble_eq_true rfl) dX11_act_150 (by decide)) (fun v33 σ32 H locs hp hw => ?_)
    obtain ⟨p33_0, p33_1, p33_2⟩ := hp
    rw [p33_0] at hw
    refine lv_if_ge (tgt := 158) hx hb dX11_act_153 (by decide) (fun c34 => ?_) (fun c34 => ?_)
    · --
      have i35 : Iv a2 0 5 := p33_2 c34
      exact iv_no (iv_le1 (b' := (-1)) c34 (⟨by decide, by decide⟩ : Iv 0 0 0) p33_1 (by decide)) (by decide)
    · --
      refine lv_iconst (v := 0) hx hb dX11_act_156 (by decide) ?_
      rw [← hQ]
      exact o_rz cx rx hw (iv_nz01 (iv_w (⟨by decide, by decide⟩ : Iv 0 0 0) (by decide))) dX11_act_157 ⟨fr, (iv_w (⟨by decide, by decide⟩ : Iv 0 0 0) (by decide))⟩
  refine lv_icmp_ne (tgt := 143) hx hb dX11_act_136 (by decide) (fun c36 => ?_) (fun c36 => ?_)
  · --
    refine lv_iconst (v := 0) hx hb dX11_act_143 (by decide) ?_
    exact J_144 0 (iv_w (⟨by decide, by decide⟩ : Iv 0 0 0) (by decide)) _ _ hw _ (lv_sub hl [0, 1, 2, 3, 4] rfl)
  · --
    have i37 : Iv a1 111 111 := iv_eq1 c36 (iv_top a1) (⟨by decide, by decide⟩ : Iv 111 111 111) (by decide)
    refine lv_iconst (v := 1) hx hb dX11_act_139 (by decide) ?_
    refine lv_goto (tgt := 144) hx hb dX11_act_140 (by decide) ?_
    exact J_144 1 (iv_w (⟨by decide, by decide⟩ : Iv 1 1 1) (by decide)) _ _ hw _ (lv_sub hl [0, 1, 2, 3, 4] rfl)
end OM
