section OM
variable {l : Launch} {A : Nat → Prop} {L : List Nat} {τ : Nat → Nat} {cy : Nat → ClassId} {D : va_G} {K : (Nat → Nat) × (Nat → Nat)} {σ : oSt}
abbrev fs_X1_hourOfReturn : List Nat := [327, 328, 329, 330, 331, 517]
abbrev ts_X1_hourOfReturn : List Nat := [32, 33, 34, 37, 38]
set_option maxHeartbeats 4000000 in
set_option maxRecDepth 100000 in
theorem c_X1_hourOfReturn (a0 : Nat) (ha0 : oA L τ a0 0) (a1 : Int32) (ia1 : Iv a1 0 5) : oMet l A L τ cy D K yX1_hourOfReturn cX1_hourOfReturn 4 (some .int) 4 106 [.ref a0, .int a1] σ (va_Qi (fun r σ1 => oFr τ fs_X1_hourOfReturn ts_X1_hourOfReturn σ σ1 ∧ Iv r (-1) 100) (oPo A L τ cy D) A) := by
  refine oMk (by decide) (Nat.le_of_ble_eq_true rfl) rfl ?_
  intro p e s m args below meth c ls cx rx hA hw hl
  generalize hQ : MQ below _ args s 0 0 A = Q
  have hx := cx.1.1
  have hb := cx.1.2.1
  have hml := cx.1.2.2.1
  have hown := cx.1.2.2.2.1
  have hts := cx.1.2.2.2.2
  have hl : lv_has ls 4 [(0, .ref a0), (1, .int a1)] := hl
  have fr : oFr τ fs_X1_hourOfReturn ts_X1_hourOfReturn σ σ := oFr_rf
  refine lv_aload_n hx hb dX1_hourOfReturn_0 rfl (lv_at hl 0 rfl) ?_
  refine o_cr hw (oRunV cx hA hw q_X1_begin k_m_X1_46 rfl ha0 (by decide) (As := []) (c_X1_begin a0 ha0) (by decide) rfl hl.1 rfl (Nat.le_of_ble_eq_true rfl) dX1_hourOfReturn_1 (by decide)) (fun v2 σ1 H locs hp hw => ?_)
  obtain ⟨p2_0, p2_1⟩ := hp
  have fr := oFr_tr fr p2_0 (by decide)
  refine lv_pop hx hb dX1_hourOfReturn_4 rfl ?_
  refine lv_aload_n hx hb dX1_hourOfReturn_5 rfl (lv_at hl 0 rfl) ?_
  refine g_4 cx hw ha0 k_f_X1_18 dX1_hourOfReturn_6 (fun v3 e3 h3 => ?_)
  refine lv_iconst (v := (-1)) hx hb dX1_hourOfReturn_9 (by decide) ?_
  refine o_cv hw (oRunS cx hA hw q_J7_fill_53178 k_m_X1_62 (As := [.ref v3, .int (-1)]) (c_J7_fill_53178 v3 h3 (-1)) (by decide) rfl hl.1 rfl (Nat.le_of_ble_eq_true rfl) dX1_hourOfReturn_10 (by decide)) (fun σ4 H locs hp hw => ?_)
  have p5_0 := hp
  have fr := oFr_tr fr p5_0 (by decide)
  refine lv_aload_n hx hb dX1_hourOfReturn_13 rfl (lv_at hl 0 rfl) ?_
  refine g_4 cx hw ha0 k_f_X1_18 dX1_hourOfReturn_14 (fun v6 e6 h6 => ?_)
  rw [show v6 = v3 from Option.some.inj (e6.symm.trans (((kr_c p5_0 (by decide)).trans e3)))]
  refine lv_aload_n hx hb dX1_hourOfReturn_17 rfl (lv_at hl 0 rfl) ?_
  refine g_3 cx hw ha0 k_f_X1_12 dX1_hourOfReturn_18 (fun v7 e7 h7 => ?_)
  refine g_325 cx hw h7 k_f_X1_68 dX1_hourOfReturn_21 (fun v8 e8 h8 => ?_)
  refine lv_iload_n hx hb dX1_hourOfReturn_24 rfl (lv_at hl 1 rfl) ?_
  refine o_iald cx hw h8 (by decide) rfl (iv_in ia1 (by decide)) dX1_hourOfReturn_25 (fun v9 e9 b9 => ?_)
  have i9 : Iv v9 0 63 := b9
  refine lv_iconst (v := 0) hx hb dX1_hourOfReturn_26 (by decide) ?_
  refine o_iast cx hw h3 (by decide) rfl (iv_in i9 (by decide)) trivial dX1_hourOfReturn_27 (fun σ10 H locs eσ10 hw => ?_)
  have fr := oFr_p fr eσ10 h3 (by decide)
  refine lv_iconst (v := 1) hx hb dX1_hourOfReturn_28 (by decide) ?_
  refine lv_istore_n (lv' := [(2, .int 1), (0, .ref a0), (1, .int a1)]) hx hb dX1_hourOfReturn_29 rfl hl (by decide) rfl (fun ls hl => ?_)
  have J_30 : ∀ n : Nat, ∀ (j30_2 : Int32) (ij30_2 : Iv j30_2 1 101), (101 - j30_2.toInt).toNat < n → ∀ (σ_30 : oSt) (H : Heap) (locs : List Loc), oI A L τ cy D s.heap σ_30 H locs → oFr τ fs_X1_hourOfReturn ts_X1_hourOfReturn σ σ_30 → ∀ (ls : Array Slot), lv_has ls 4 [(0, .ref a0), (1, .int a1), (2, .int j30_2)] → W p l e ({ frames := 4, cells := 0, slots := 0, locals := 106 } : Room) s m args below meth c H locs 0 0 Q (F0 m 30 ls []) := by
    intro n
    induction n with
    | zero => intro j30_2 ij30_2 hn_30  σ_30 H locs hw fr   ls hl; exact absurd hn_30 (Nat.not_lt_zero _)
    | succ n ih_30 =>
      intro j30_2 ij30_2 hn_30  σ_30 H locs hw fr   ls hl
      refine lv_iload_n hx hb dX1_hourOfReturn_30 rfl (lv_at hl 2 rfl) ?_
      refine lv_bipush (v := 100) hx hb dX1_hourOfReturn_31 (by decide) ?_
      refine lv_icmp_gt (tgt := 83) hx hb dX1_hourOfReturn_33 (by decide) (fun c11 => ?_) (fun c11 => ?_)
      · --
        have i12 : Iv j30_2 101 101 := iv_lt2 c11 (⟨by decide, by decide⟩ : Iv 100 100 100) ij30_2 (by decide)
        refine lv_iconst (v := (-1)) hx hb dX1_hourOfReturn_83 (by decide) ?_
        rw [← hQ]
        exact o_ri cx rx hw dX1_hourOfReturn_84 ⟨fr, (iv_w (⟨by decide, by decide⟩ : Iv (-1) (-1) (-1)) (by decide))⟩
      · --
        have i13 : Iv j30_2 1 100 := iv_le1 (iv_nlt c11) ij30_2 (⟨by decide, by decide⟩ : Iv 100 100 100) (by decide)
        refine lv_aload_n hx hb dX1_hourOfReturn_36 rfl (lv_at hl 0 rfl) ?_
        refine g_2 cx hw ha0 k_f_X1_33 dX1_hourOfReturn_37 (fun v14 e14 h14 => ?_)
        refine lv_aload_n hx hb dX1_hourOfReturn_40 rfl (lv_at hl 0 rfl) ?_
        refine g_3 cx hw ha0 k_f_X1_12 dX1_hourOfReturn_41 (fun v15 e15 h15 => ?_)
        refine o_ci hw (oRunV cx hA hw q_X9_pass k_m_X1_54 rfl h14 (by decide) (As := [.ref v15]) (c_X9_pass v14 h14 v15 h15) (by decide) rfl hl.1 rfl (Nat.le_of_ble_eq_true rfl) dX1_hourOfReturn_44 (by decide)) (fun v17 σ16 H locs hp hw => ?_)
        have p17_0 := hp
        have fr := oFr_tr fr p17_0 (by decide)
        refine lv_pop hx hb dX1_hourOfReturn_47 rfl ?_
        refine lv_aload_n hx hb dX1_hourOfReturn_48 rfl (lv_at hl 0 rfl) ?_
        refine g_3 cx hw ha0 k_f_X1_12 dX1_hourOfReturn_49 (fun v18 e18 h18 => ?_)
        rw [show v18 = v15 from Option.some.inj (e18.symm.trans (((kr_c p17_0 (by decide)).trans e15)))]
        refine g_325 cx hw h15 k_f_X1_68 dX1_hourOfReturn_52 (fun v19 e19 h19 => ?_)
        refine lv_iload_n hx hb dX1_hourOfReturn_55 rfl (lv_at hl 1 rfl) ?_
        refine o_iald cx hw h19 (by decide) rfl (iv_in ia1 (by decide)) dX1_hourOfReturn_56 (fun v20 e20 b20 => ?_)
        have i20 : Iv v20 0 63 := b20
        refine lv_istore_n (lv' := [(3, .int v20), (0, .ref a0), (1, .int a1), (2, .int j30_2)]) hx hb dX1_hourOfReturn_57 rfl hl (by decide) rfl (fun ls hl => ?_)
        refine lv_aload_n hx hb dX1_hourOfReturn_58 rfl (lv_at hl 1 rfl) ?_
        refine g_4 cx hw ha0 k_f_X1_18 dX1_hourOfReturn_59 (fun v21 e21 h21 => ?_)
        refine lv_iload_n hx hb dX1_hourOfReturn_62 rfl (lv_at hl 0 rfl) ?_
        refine o_iald cx hw h21 (by decide) rfl (iv_in i20 (by decide)) dX1_hourOfReturn_63 (fun v22 e22 b22 => ?_)
        refine lv_iconst (v := (-1)) hx hb dX1_hourOfReturn_64 (by decide) ?_
        refine lv_icmp_eq (tgt := 70) hx hb dX1_hourOfReturn_65 (by decide) (fun c23 => ?_) (fun c23 => ?_)
        · --
          have i24 : Iv v22 (-1) (-1) := iv_eq1 c23 (iv_top v22) (⟨by decide, by decide⟩ : Iv (-1) (-1) (-1)) (by decide)
          refine lv_aload_n hx hb dX1_hourOfReturn_70 rfl (lv_at hl 1 rfl) ?_
          refine g_4 cx hw ha0 k_f_X1_18 dX1_hourOfReturn_71 (fun v25 e25 h25 => ?_)
          rw [show v25 = v21 from Option.some.inj (e25.symm.trans (e21))]
          refine lv_iload_n hx hb dX1_hourOfReturn_74 rfl (lv_at hl 0 rfl) ?_
          refine lv_iload_n hx hb dX1_hourOfReturn_75 rfl (lv_at hl 3 rfl) ?_
          refine o_iast cx hw h21 (by decide) rfl (iv_in i20 (by decide)) trivial dX1_hourOfReturn_76 (fun σ26 H locs eσ26 hw => ?_)
          have fr := oFr_p fr eσ26 h21 (by decide)
          obtain ⟨v27, e27⟩ : ∃ y : Int32, y = j30_2 + 1 := ⟨_, rfl⟩
          have i27 : Iv v27 2 101 := iv_add e27 i13 (⟨by decide, by decide⟩ : Iv 1 1 1) (by decide)
          have x27 : v27.toInt = j30_2.toInt + 1 := ex_add e27 i13 (⟨by decide, by decide⟩ : Iv 1 1 1) (by decide)
          refine lv_iinc (v := v27) (lv' := [(2, .int v27), (3, .int v20), (0, .ref a0), (1, .int a1)]) hx hb dX1_hourOfReturn_77 hl (k := 3) rfl (by rw [e27]; rfl) (by decide) rfl (fun ls hl => ?_)
          refine lv_goto (tgt := 30) hx hb dX1_hourOfReturn_80 (by decide) ?_
          exact ih_30 v27 (iv_w i27 (by decide)) (ms_up x27 (by decide) (iv_w (a' := 1) (b' := 101) i27 (by decide)).2 hn_30) σ26 _ _ hw fr _ (lv_sub hl [2, 3, 0] rfl)
        · --
          refine lv_iload_n hx hb dX1_hourOfReturn_68 rfl (lv_at hl 3 rfl) ?_
          rw [← hQ]
          exact o_ri cx rx hw dX1_hourOfReturn_69 ⟨fr, (iv_w i13 (by decide))⟩
  exact J_30 _ 1 (iv_w (⟨by decide, by decide⟩ : Iv 1 1 1) (by decide)) (Nat.lt_succ_self _) σ10 _ _ hw fr _ (lv_sub hl [1, 2, 0] rfl)
abbrev fs_X10_round : List Nat := [193, 327, 328, 329, 330, 331, 517]
abbrev ts_X10_round : List Nat := [32, 33, 34, 36, 37, 38]
set_option maxHeartbeats 4000000 in
set_option maxRecDepth 100000 in
theorem c_X10_round (a0 : Nat) (ha0 : oA L τ a0 9) (a1 : Int32) : oMet l A L τ cy D K yX10_round cX10_round 4 (some .int) 5 129 [.ref a0, .int a1] σ (va_Qi (fun r σ1 => oFr τ fs_X10_round ts_X10_round σ σ1 ∧ Iv r (-1) 100) (oPo A L τ cy D) A) := by
  refine oMk (by decide) (Nat.le_of_ble_eq_true rfl) rfl ?_
  intro p e s m args below meth c ls cx rx hA hw hl
  generalize hQ : MQ below _ args s 0 0 A = Q
  have hx := cx.1.1
  have hb := cx.1.2.1
  have hml := cx.1.2.2.1
  have hown := cx.1.2.2.2.1
  have hts := cx.1.2.2.2.2
  have hl : lv_has ls 4 [(0, .ref a0), (1, .int a1)] := hl
  have fr : oFr τ fs_X10_round ts_X10_round σ σ := oFr_rf
  refine lv_aload_n hx hb dX10_round_0 rfl (lv_at hl 0 rfl) ?_
  refine g_581 cx hw ha0 k_f_X10_49 dX10_round_1 (fun v1 e1 h1 => ?_)
  refine lv_iload_n hx hb dX10_round_4 rfl (lv_at hl 1 rfl) ?_
  refine o_ci hw (oRunV cx hA hw q_X6_hasHerd k_m_X10_178 rfl h1 (by decide) (As := [.int a1]) (c_X6_hasHerd v1 h1 a1) (by decide) rfl hl.1 rfl (Nat.le_of_ble_eq_true rfl) dX10_round_5 (by decide)) (fun v3 σ2 H locs hp hw => ?_)
  obtain ⟨p3_0, p3_1, p3_2⟩ := hp
  rw [p3_0] at hw
  refine lv_if_ne (tgt := 13) hx hb dX10_round_8 (by decide) (fun c4 => ?_) (fun c4 => ?_)
  · --
    have i5 : Iv v3 1 1 := iv_ne1 c4 p3_1 (⟨by decide, by decide⟩ : Iv 0 0 0) (by decide)
    have i6 : Iv a1 0 5 := p3_2 c4
    refine lv_aload_n hx hb dX10_round_13 rfl (lv_at hl 0 rfl) ?_
    refine g_583 cx hw ha0 k_f_X10_61 dX10_round_14 (fun v7 e7 h7 => ?_)
    refine lv_iload_n hx hb dX10_round_17 rfl (lv_at hl 1 rfl) ?_
    refine o_ci hw (oRunV cx hA hw q_X1_hourOfReturn k_m_X10_386 rfl h7 (by decide) (As := [.int a1]) (c_X1_hourOfReturn v7 h7 a1 (iv_w i6 (by decide))) (by decide) rfl hl.1 rfl (Nat.le_of_ble_eq_true rfl) dX10_round_18 (by decide)) (fun v9 σ8 H locs hp hw => ?_)
    obtain ⟨p9_0, p9_1⟩ := hp
    have fr := oFr_tr fr p9_0 (by decide)
    refine lv_istore_n (lv' := [(2, .int v9), (0, .ref a0), (1, .int a1)]) hx hb dX10_round_21 rfl hl (by decide) rfl (fun ls hl => ?_)
    refine lv_iload_n hx hb dX10_round_22 rfl (lv_at hl 0 rfl) ?_
    refine lv_iconst (v := (-1)) hx hb dX10_round_23 (by decide) ?_
    refine lv_icmp_ne (tgt := 29) hx hb dX10_round_24 (by decide) (fun c10 => ?_) (fun c10 => ?_)
    · --
      have i11 : Iv v9 0 100 := iv_ne1 c10 p9_1 (⟨by decide, by decide⟩ : Iv (-1) (-1) (-1)) (by decide)
      refine lv_aload_n hx hb dX10_round_29 rfl (lv_at hl 1 rfl) ?_
      refine g_583 cx hw ha0 k_f_X10_61 dX10_round_30 (fun v12 e12 h12 => ?_)
      rw [show v12 = v7 from Option.some.inj (e12.symm.trans (((kr_c p9_0 (by decide)).trans e7)))]
      refine g_3 cx hw h7 k_f_X10_389 dX10_round_33 (fun v13 e13 h13 => ?_)
      refine g_325 cx hw h13 k_f_X10_183 dX10_round_36 (fun v14 e14 h14 => ?_)
      refine lv_iload_n hx hb dX10_round_39 rfl (lv_at hl 2 rfl) ?_
      refine o_iald cx hw h14 (by decide) rfl (iv_in i6 (by decide)) dX10_round_40 (fun v15 e15 b15 => ?_)
      have i15 : Iv v15 0 63 := b15
      refine lv_istore_n (lv' := [(3, .int v15), (2, .int v9), (0, .ref a0), (1, .int a1)]) hx hb dX10_round_41 rfl hl (by decide) rfl (fun ls hl => ?_)
      refine lv_aload_n hx hb dX10_round_42 rfl (lv_at hl 2 rfl) ?_
      refine g_577 cx hw ha0 k_f_X10_19 dX10_round_43 (fun v16 e16 h16 => ?_)
      refine o_cv hw (oRunV cx hA hw q_X4_start k_m_X10_292 rfl h16 (by decide) (As := []) (c_X4_start v16 h16) (by decide) rfl hl.1 rfl (Nat.le_of_ble_eq_true rfl) dX10_round_46 (by decide)) (fun σ17 H locs hp hw => ?_)
      have p18_0 := hp
      have fr := oFr_tr fr p18_0 (by decide)
      refine lv_aload_n hx hb dX10_round_49 rfl (lv_at hl 2 rfl) ?_
      refine g_577 cx hw ha0 k_f_X10_19 dX10_round_50 (fun v19 e19 h19 => ?_)
      rw [show v19 = v16 from Option.some.inj (e19.symm.trans (((kr_c p18_0 (by decide)).trans e16)))]
      refine lv_iload_n hx hb dX10_round_53 rfl (lv_at hl 0 rfl) ?_
      refine lv_i2l hx hb dX10_round_54 rfl ?_
      refine lv_topl (fun v20 e20 => ?_)
      refine o_cv hw (oRunV cx hA hw q_X4_put k_m_X10_295 rfl h16 (by decide) (As := [.long v20]) (c_X4_put v16 h16 v20) (by decide) rfl hl.1 rfl (Nat.le_of_ble_eq_true rfl) dX10_round_55 (by decide)) (fun σ21 H locs hp hw => ?_)
      have p22_0 := hp
      have fr := oFr_tr fr p22_0 (by decide)
      refine lv_aload_n hx hb dX10_round_58 rfl (lv_at hl 2 rfl) ?_
      refine g_577 cx hw ha0 k_f_X10_19 dX10_round_59 (fun v23 e23 h23 => ?_)
      rw [show v23 = v16 from Option.some.inj (e23.symm.trans (((kr_c p22_0 (by decide)).trans ((kr_c p18_0 (by decide)).trans e16))))]
      refine lv_iload_n hx hb dX10_round_62 rfl (lv_at hl 1 rfl) ?_
      refine lv_aload_n hx hb dX10_round_63 rfl (lv_at hl 2 rfl) ?_
      refine g_583 cx hw ha0 k_f_X10_61 dX10_round_64 (fun v24 e24 h24 => ?_)
      rw [show v24 = v7 from Option.some.inj (e24.symm.trans (((kr_c p22_0 (by decide)).trans ((kr_c p18_0 (by decide)).trans ((kr_c p9_0 (by decide)).trans e7)))))]
      refine g_4 cx hw h7 k_f_X10_392 dX10_round_67 (fun v25 e25 h25 => ?_)
      refine lv_iload_n hx hb dX10_round_70 rfl (lv_at hl 0 rfl) ?_
      refine o_iald cx hw h25 (by decide) rfl (iv_in i15 (by decide)) dX10_round_71 (fun v26 e26 b26 => ?_)
      refine lv_isub hx hb dX10_round_72 ?_
      refine lv_topi (fun v27 e27 => ?_)
      refine lv_i2l hx hb dX10_round_73 rfl ?_
      refine lv_topl (fun v28 e28 => ?_)
      refine o_cv hw (oRunV cx hA hw q_X4_put k_m_X10_295 rfl h16 (by decide) (As := [.long v28]) (c_X4_put v16 h16 v28) (by decide) rfl hl.1 rfl (Nat.le_of_ble_eq_true rfl) dX10_round_74 (by decide)) (fun σ29 H locs hp hw => ?_)
      have p30_0 := hp
      have fr := oFr_tr fr p30_0 (by decide)
      refine lv_iload_n hx hb dX10_round_77 rfl (lv_at hl 1 rfl) ?_
      rw [← hQ]
      exact o_ri cx rx hw dX10_round_78 ⟨fr, (iv_w i11 (by decide))⟩
    · --
      have i31 : Iv v9 (-1) (-1) := iv_eq1 c10 p9_1 (⟨by decide, by decide⟩ : Iv (-1) (-1) (-1)) (by decide)
      refine lv_iconst (v := (-1)) hx hb dX10_round_27 (by decide) ?_
      rw [← hQ]
      exact o_ri cx rx hw dX10_round_28 ⟨fr, (iv_w (⟨by decide, by decide⟩ : Iv (-1) (-1) (-1)) (by decide))⟩
  · --
    have i32 : Iv v3 0 0 := iv_eq1 c4 p3_1 (⟨by decide, by decide⟩ : Iv 0 0 0) (by decide)
    refine lv_iconst (v := (-1)) hx hb dX10_round_11 (by decide) ?_
    rw [← hQ]
    exact o_ri cx rx hw dX10_round_12 ⟨fr, (iv_w (⟨by decide, by decide⟩ : Iv (-1) (-1) (-1)) (by decide))⟩
set_option maxHeartbeats 4000000 in
set_option maxRecDepth 100000 in
theorem c_X5_asksFor (a0 : Nat) (ha0 : oA L τ a0 4) (a1 : Int32) (ia1 : Iv a1 0 65535) : oMet l A L τ cy D K yX5_asksFor cX5_asksFor 4 (some .boolean) 5 126 [.ref a0, .int a1] σ (va_Qi (fun r σ1 => σ1 = σ ∧ Iv r 0 1) (oPo A L τ cy D) A) := by
  refine oMk (by decide) (Nat.le_of_ble_eq_true rfl) rfl ?_
  intro p e s m args below meth c ls cx rx hA hw hl
  generalize hQ : MQ below _ args s 0 0 A = Q
  have hx := cx.1.1
  have hb := cx.1.2.1
  have hml := cx.1.2.2.1
  have hown := cx.1.2.2.2.1
  have hts := cx.1.2.2.2.2
  have hl : lv_has ls 4 [(0, .ref a0), (1, .int a1)] := hl
  refine lv_iload_n hx hb dX5_asksFor_0 rfl (lv_at hl 1 rfl) ?_
  refine o_ci hw (oRunS cx hA hw q_X5_numberOf k_m_X5_98 (As := [.int a1]) (c_X5_numberOf a1) (by decide) rfl hl.1 rfl (Nat.le_of_ble_eq_true rfl) dX5_asksFor_1 (by decide)) (fun v2 σ1 H locs hp hw => ?_)
  obtain ⟨p2_0, p2_1⟩ := hp
  rw [p2_0] at hw
  refine lv_istore_n (lv' := [(2, .int v2), (0, .ref a0), (1, .int a1)]) hx hb dX5_asksFor_4 rfl hl (by decide) rfl (fun ls hl => ?_)
  refine lv_iconst (v := 0) hx hb dX5_asksFor_5 (by decide) ?_
  refine lv_istore_n (lv' := [(3, .int 0), (2, .int v2), (0, .ref a0), (1, .int a1)]) hx hb dX5_asksFor_6 rfl hl (by decide) rfl (fun ls hl => ?_)
  have J_7 : ∀ n : Nat, ∀ (j7_3 : Int32) (ij7_3 : Iv j7_3 0 40), (40 - j7_3.toInt).toNat < n → ∀ (H : Heap) (locs : List Loc), oI A L τ cy D s.heap σ H locs → ∀ (ls : Array Slot), lv_has ls 4 [(0, .ref a0), (1, .int a1), (2, .int v2), (3, .int j7_3)] → W p l e ({ frames := 5, cells := 0, slots := 0, locals := 126 } : Room) s m args below meth c H locs 0 0 Q (F0 m 7 ls []) := by
    intro n
    induction n with
    | zero => intro j7_3 ij7_3 hn_7  H locs hw  ls hl; exact absurd hn_7 (Nat.not_lt_zero _)
    | succ n ih_7 =>
      intro j7_3 ij7_3 hn_7  H locs hw  ls hl
      refine lv_iload_n hx hb dX5_asksFor_7 rfl (lv_at hl 3 rfl) ?_
      refine lv_aload_n hx hb dX5_asksFor_8 rfl (lv_at hl 0 rfl) ?_
      refine g_257 cx hw ha0 k_f_X5_60 dX5_asksFor_9 (fun v3 e3 i3 => ?_)
      refine lv_icmp_ge (tgt := 33) hx hb dX5_asksFor_12 (by decide) (fun c4 => ?_) (fun c4 => ?_)
      · --
        refine lv_iconst (v := 0) hx hb dX5_asksFor_33 (by decide) ?_
        rw [← hQ]
        exact o_rz cx rx hw (iv_nz01 (iv_w (⟨by decide, by decide⟩ : Iv 0 0 0) (by decide))) dX5_asksFor_34 ⟨rfl, (iv_w (⟨by decide, by decide⟩ : Iv 0 0 0) (by decide))⟩
      · --
        have i5 : Iv j7_3 0 39 := iv_lt1 (iv_nle c4) ij7_3 i3 (by decide)
        have i6 : Iv v3 1 40 := iv_lt2 (iv_nle c4) ij7_3 i3 (by decide)
        refine lv_aload_n hx hb dX5_asksFor_15 rfl (lv_at hl 0 rfl) ?_
        refine g_256 cx hw ha0 k_f_X5_9 dX5_asksFor_16 (fun v7 e7 h7 => ?_)
        refine lv_iload_n hx hb dX5_asksFor_19 rfl (lv_at hl 3 rfl) ?_
        refine o_iald cx hw h7 (by decide) rfl (iv_in i5 (by decide)) dX5_asksFor_20 (fun v8 e8 b8 => ?_)
        refine lv_iload_n hx hb dX5_asksFor_21 rfl (lv_at hl 2 rfl) ?_
        refine lv_icmp_ne (tgt := 27) hx hb dX5_asksFor_22 (by decide) (fun c9 => ?_) (fun c9 => ?_)
        · --
          obtain ⟨v10, e10⟩ : ∃ y : Int32, y = j7_3 + 1 := ⟨_, rfl⟩
          have i10 : Iv v10 1 40 := iv_add e10 i5 (⟨by decide, by decide⟩ : Iv 1 1 1) (by decide)
          have x10 : v10.toInt = j7_3.toInt + 1 := ex_add e10 i5 (⟨by decide, by decide⟩ : Iv 1 1 1) (by decide)
          refine lv_iinc (v := v10) (lv' := [(3, .int v10), (0, .ref a0), (1, .int a1), (2, .int v2)]) hx hb dX5_asksFor_27 hl (k := 3) rfl (by rw [e10]; rfl) (by decide) rfl (fun ls hl => ?_)
          refine lv_goto (tgt := 7) hx hb dX5_asksFor_30 (by decide) ?_
          exact ih_7 v10 (iv_w i10 (by decide)) (ms_up x10 (by decide) (iv_w (a' := 0) (b' := 40) i10 (by decide)).2 hn_7) _ _ hw _ (lv_sub hl [1, 2, 3, 0] rfl)
        · --
          have i11 : Iv v8 0 9 := iv_eq1 c9 (iv_top v8) p2_1 (by decide)
          refine lv_iconst (v := 1) hx hb dX5_asksFor_25 (by decide) ?_
          rw [← hQ]
          exact o_rz cx rx hw (iv_nz01 (iv_w (⟨by decide, by decide⟩ : Iv 1 1 1) (by decide))) dX5_asksFor_26 ⟨rfl, (iv_w (⟨by decide, by decide⟩ : Iv 1 1 1) (by decide))⟩
  exact J_7 _ 0 (iv_w (⟨by decide, by decide⟩ : Iv 0 0 0) (by decide)) (Nat.lt_succ_self _) _ _ hw _ (lv_sub hl [2, 3, 1, 0] rfl)
set_option maxHeartbeats 4000000 in
set_option maxRecDepth 100000 in
theorem c_X9_tellingBy (a0 : Nat) (ha0 : oA L τ a0 8) (a1 : Int32) (ia1 : Iv a1 0 65535) : oMet l A L τ cy D K yX9_tellingBy cX9_tellingBy 2 (some .long) 6 149 [.ref a0, .int a1] σ (va_Ql (fun r σ1 => σ1 = σ) (oPo A L τ cy D) A) := by
  refine oMk (by decide) (Nat.le_of_ble_eq_true rfl) rfl ?_
  intro p e s m args below meth c ls cx rx hA hw hl
  generalize hQ : MQ below _ args s 0 0 A = Q
  have hx := cx.1.1
  have hb := cx.1.2.1
  have hml := cx.1.2.2.1
  have hown := cx.1.2.2.2.1
  have hts := cx.1.2.2.2.2
  have hl : lv_has ls 2 [(0, .ref a0), (1, .int a1)] := hl
  refine lv_aload_n hx hb dX9_tellingBy_0 rfl (lv_at hl 0 rfl) ?_
  refine g_513 cx hw ha0 k_f_X9_28 dX9_tellingBy_1 (fun v1 e1 h1 => ?_)
  refine lv_iload_n hx hb dX9_tellingBy_4 rfl (lv_at hl 1 rfl) ?_
  refine o_ci hw (oRunV cx hA hw q_X5_asksFor k_m_X9_36 rfl h1 (by decide) (As := [.int a1]) (c_X5_asksFor v1 h1 a1 (iv_w ia1 (by decide))) (by decide) rfl hl.1 rfl (Nat.le_of_ble_eq_true rfl) dX9_tellingBy_5 (by decide)) (fun v3 σ2 H locs hp hw => ?_)
  obtain ⟨p3_0, p3_1⟩ := hp
  rw [p3_0] at hw
  refine lv_if_eq (tgt := 18) hx hb dX9_tellingBy_8 (by decide) (fun c4 => ?_) (fun c4 => ?_)
  · --
    have i5 : Iv v3 0 0 := iv_eq1 c4 p3_1 (⟨by decide, by decide⟩ : Iv 0 0 0) (by decide)
    refine lv_lconst (v := 0) hx hb dX9_tellingBy_18 (by decide) ?_
    rw [← hQ]
    exact o_rl cx rx hw dX9_tellingBy_19 rfl
  · --
    have i6 : Iv v3 1 1 := iv_ne1 c4 p3_1 (⟨by decide, by decide⟩ : Iv 0 0 0) (by decide)
    refine lv_aload_n hx hb dX9_tellingBy_11 rfl (lv_at hl 0 rfl) ?_
    refine g_517 cx hw ha0 k_f_X9_32 dX9_tellingBy_12 (fun v7 e7 => ?_)
    refine lv_goto (tgt := 19) hx hb dX9_tellingBy_15 (by decide) ?_
    rw [← hQ]
    exact o_rl cx rx hw dX9_tellingBy_19 rfl
abbrev fs_X1_saltThatLures : List Nat := [6, 327, 328, 329, 330, 331, 517]
abbrev ts_X1_saltThatLures : List Nat := [32, 33, 34, 37, 38]
set_option maxHeartbeats 4000000 in
set_option maxRecDepth 100000 in
theorem c_X1_saltThatLures (a0 : Nat) (ha0 : oA L τ a0 0) (a1 : Int32) (a2 : Int32) (ia2 : Iv a2 1 100) : oMet l A L τ cy D K yX1_saltThatLures cX1_saltThatLures 7 (some .int) 7 170 [.ref a0, .int a1, .int a2] σ (va_Qi (fun r σ1 => oFr τ fs_X1_saltThatLures ts_X1_saltThatLures σ σ1 ∧ Iv r (-2) 9) (oPo A L τ cy D) A) := by
  refine oMk (by decide) (Nat.le_of_ble_eq_true rfl) rfl ?_
  intro p e s m args below meth c ls cx rx hA hw hl
  generalize hQ : MQ below _ args s 0 0 A = Q
  have hx := cx.1.1
  have hb := cx.1.2.1
  have hml := cx.1.2.2.1
  have hown := cx.1.2.2.2.1
  have hts := cx.1.2.2.2.2
  have hl : lv_has ls 7 [(0, .ref a0), (1, .int a1), (2, .int a2)] := hl
  have fr : oFr τ fs_X1_saltThatLures ts_X1_saltThatLures σ σ := oFr_rf
  refine lv_aload_n hx hb dX1_saltThatLures_0 rfl (lv_at hl 0 rfl) ?_
  refine g_2 cx hw ha0 k_f_X1_33 dX1_saltThatLures_1 (fun v1 e1 h1 => ?_)
  refine lv_bipush (v := 115) hx hb dX1_saltThatLures_4 (by decide) ?_
  refine o_cl hw (oRunV cx hA hw q_X9_tellingBy k_m_X1_75 rfl h1 (by decide) (As := [.int 115]) (c_X9_tellingBy v1 h1 115 (iv_w (⟨by decide, by decide⟩ : Iv 115 115 115) (by decide))) (by decide) rfl hl.1 rfl (Nat.le_of_ble_eq_true rfl) dX1_saltThatLures_6 (by decide)) (fun v3 σ2 H locs hp hw => ?_)
  have p3_0 := hp
  rw [p3_0] at hw
  refine lv_lstore_n (lv' := [(3, .long v3), (0, .ref a0), (1, .int a1), (2, .int a2)]) hx hb dX1_saltThatLures_9 rfl hl (by decide) rfl (fun ls hl => ?_)
  refine lv_iconst (v := 1) hx hb dX1_saltThatLures_10 (by decide) ?_
  refine lv_istore (lv' := [(5, .int 1), (3, .long v3), (0, .ref a0), (1, .int a1), (2, .int a2)]) hx hb dX1_saltThatLures_11 hl (by decide) rfl (fun ls hl => ?_)
  have J_13 : ∀ n : Nat, ∀ (j13_5 : Int32) (ij13_5 : Iv j13_5 1 10), (10 - j13_5.toInt).toNat < n → ∀ (σ_13 : oSt) (H : Heap) (locs : List Loc), oI A L τ cy D s.heap σ_13 H locs → oFr τ fs_X1_saltThatLures ts_X1_saltThatLures σ σ_13 → ∀ (ls : Array Slot), lv_has ls 7 [(0, .ref a0), (1, .int a1), (2, .int a2), (3, .long v3), (5, .int j13_5)] → W p l e ({ frames := 7, cells := 0, slots := 0, locals := 170 } : Room) s m args below meth c H locs 0 0 Q (F0 m 13 ls []) := by
    intro n
    induction n with
    | zero => intro j13_5 ij13_5 hn_13  σ_13 H locs hw fr   ls hl; exact absurd hn_13 (Nat.not_lt_zero _)
    | succ n ih_13 =>
      intro j13_5 ij13_5 hn_13  σ_13 H locs hw fr   ls hl
      refine lv_iload hx hb dX1_saltThatLures_13 (lv_at hl 4 rfl) ?_
      refine lv_bipush (v := 9) hx hb dX1_saltThatLures_15 (by decide) ?_
      refine lv_icmp_gt (tgt := 120) hx hb dX1_saltThatLures_17 (by decide) (fun c4 => ?_) (fun c4 => ?_)
      · --
        have i5 : Iv j13_5 10 10 := iv_lt2 c4 (⟨by decide, by decide⟩ : Iv 9 9 9) ij13_5 (by decide)
        refine lv_bipush (v := (-2)) hx hb dX1_saltThatLures_120 (by decide) ?_
        rw [← hQ]
        exact o_ri cx rx hw dX1_saltThatLures_122 ⟨fr, (iv_w (⟨by decide, by decide⟩ : Iv (-2) (-2) (-2)) (by decide))⟩
      · --
        have i6 : Iv j13_5 1 9 := iv_le1 (iv_nlt c4) ij13_5 (⟨by decide, by decide⟩ : Iv 9 9 9) (by decide)
        refine lv_iconst (v := 0) hx hb dX1_saltThatLures_20 (by decide) ?_
        refine lv_istore (lv' := [(6, .int 0), (0, .ref a0), (1, .int a1), (2, .int a2), (3, .long v3), (5, .int j13_5)]) hx hb dX1_saltThatLures_21 hl (by decide) rfl (fun ls hl => ?_)
        have J_23 : ∀ n : Nat, ∀ (j23_6 : Int32) (ij23_6 : Iv j23_6 0 64), (64 - j23_6.toInt).toNat < n → ∀ (σ_23 : oSt) (H : Heap) (locs : List Loc), oI A L τ cy D s.heap σ_23 H locs → oFr τ fs_X1_saltThatLures ts_X1_saltThatLures σ σ_23 → ∀ (ls : Array Slot), lv_has ls 7 [(0, .ref a0), (1, .int a1), (2, .int a2), (3, .long v3), (5, .int j13_5), (6, .int j23_6)] → W p l e ({ frames := 7, cells := 0, slots := 0, locals := 170 } : Room) s m args below meth c H locs 0 0 Q (F0 m 23 ls []) := by
          intro n
          induction n with
          | zero => intro j23_6 ij23_6 hn_23  σ_23 H locs hw fr   ls hl; exact absurd hn_23 (Nat.not_lt_zero _)
          | succ n ih_23 =>
            intro j23_6 ij23_6 hn_23  σ_23 H locs hw fr   ls hl
            refine lv_iload hx hb dX1_saltThatLures_23 (lv_at hl 5 rfl) ?_
            refine lv_bipush (v := 64) hx hb dX1_saltThatLures_25 (by decide) ?_
            refine lv_icmp_ge (tgt := 114) hx hb dX1_saltThatLures_27 (by decide) (fun c7 => ?_) (fun c7 => ?_)
            · --
              have i8 : Iv j23_6 64 64 := iv_le2 c7 (⟨by decide, by decide⟩ : Iv 64 64 64) ij23_6 (by decide)
              obtain ⟨v9, e9⟩ : ∃ y : Int32, y = j13_5 + 1 := ⟨_, rfl⟩
              have i9 : Iv v9 2 10 := iv_add e9 i6 (⟨by decide, by decide⟩ : Iv 1 1 1) (by decide)
              have x9 : v9.toInt = j13_5.toInt + 1 := ex_add e9 i6 (⟨by decide, by decide⟩ : Iv 1 1 1) (by decide)
              refine lv_iinc (v := v9) (lv' := [(5, .int v9), (0, .ref a0), (1, .int a1), (2, .int a2), (3, .long v3), (6, .int j23_6)]) hx hb dX1_saltThatLures_114 hl (k := 4) rfl (by rw [e9]; rfl) (by decide) rfl (fun ls hl => ?_)
              refine lv_goto (tgt := 13) hx hb dX1_saltThatLures_117 (by decide) ?_
              exact ih_13 v9 (iv_w i9 (by decide)) (ms_up x9 (by decide) (iv_w (a' := 1) (b' := 10) i9 (by decide)).2 hn_13) σ_23 _ _ hw fr _ (lv_sub hl [1, 2, 3, 4, 0] rfl)
            · --
              have i10 : Iv j23_6 0 63 := iv_lt1 (iv_nle c7) ij23_6 (⟨by decide, by decide⟩ : Iv 64 64 64) (by decide)
              refine lv_lload_n hx hb dX1_saltThatLures_30 rfl (lv_at hl 3 rfl) ?_
              refine lv_iload hx hb dX1_saltThatLures_31 (lv_at hl 5 rfl) ?_
              refine o_ci hw (oRunS cx hA hw q_X0_has k_m_X1_79 (As := [.long v3, .int j23_6]) (c_X0_has v3 j23_6) (by decide) rfl hl.1 rfl (Nat.le_of_ble_eq_true rfl) dX1_saltThatLures_33 (by decide)) (fun v12 σ11 H locs hp hw => ?_)
              obtain ⟨p12_0, p12_1, p12_2⟩ := hp
              rw [p12_0] at hw
              have J_108 : ∀ (σ_108 : oSt) (H : Heap) (locs : List Loc), oI A L τ cy D s.heap σ_108 H locs → oFr τ fs_X1_saltThatLures ts_X1_saltThatLures σ σ_108 → ∀ (ls : Array Slot), lv_has ls 7 [(0, .ref a0), (1, .int a1), (2, .int a2), (3, .long v3), (5, .int j13_5), (6, .int j23_6)] → W p l e ({ frames := 7, cells := 0, slots := 0, locals := 170 } : Room) s m args below meth c H locs 0 0 Q (F0 m 108 ls []) := by
                intro    σ_108 H locs hw fr   ls hl
                obtain ⟨v13, e13⟩ : ∃ y : Int32, y = j23_6 + 1 := ⟨_, rfl⟩
                have i13 : Iv v13 1 64 := iv_add e13 i10 (⟨by decide, by decide⟩ : Iv 1 1 1) (by decide)
                have x13 : v13.toInt = j23_6.toInt + 1 := ex_add e13 i10 (⟨by decide, by decide⟩ : Iv 1 1 1) (by decide)
                refine lv_iinc (v := v13) (lv' := [(6, .int v13), (0, .ref a0), (1, .int a1), (2, .int a2), (3, .long v3), (5, .int j13_5)]) hx hb dX1_saltThatLures_108 hl (k := 5) rfl (by rw [e13]; rfl) (by decide) rfl (fun ls hl => ?_)
                refine lv_goto (tgt := 23) hx hb dX1_saltThatLures_111 (by decide) ?_
                exact ih_23 v13 (iv_w i13 (by decide)) (ms_up x13 (by decide) (iv_w (a' := 0) (b' := 64) i13 (by decide)).2 hn_23) σ_108 _ _ hw fr _ (lv_sub hl [1, 2, 3, 4, 5, 0] rfl)
              refine lv_if_eq (tgt := 108) hx hb dX1_saltThatLures_36 (by decide) (fun c14 => ?_) (fun c14 => ?_)
              · --
                have i15 : Iv v12 0 0 := iv_eq1 c14 p12_1 (⟨by decide, by decide⟩ : Iv 0 0 0) (by decide)
                exact J_108 σ_23 _ _ hw fr _ (lv_sub hl [0, 1, 2, 3, 4, 5] rfl)
              · --
                have i16 : Iv v12 1 1 := iv_ne1 c14 p12_1 (⟨by decide, by decide⟩ : Iv 0 0 0) (by decide)
                have i17 : Iv j23_6 0 63 := p12_2 c14
                refine lv_aload_n hx hb dX1_saltThatLures_39 rfl (lv_at hl 0 rfl) ?_
                refine g_1 cx hw ha0 k_f_X1_29 dX1_saltThatLures_40 (fun v18 e18 h18 => ?_)
                refine lv_iload hx hb dX1_saltThatLures_43 (lv_at hl 5 rfl) ?_
                refine o_ci hw (oRunV cx hA hw q_X2_isPlain k_m_X1_85 rfl h18 (by decide) (As := [.int j23_6]) (c_X2_isPlain v18 h18 j23_6) (by decide) rfl hl.1 rfl (Nat.le_of_ble_eq_true rfl) dX1_saltThatLures_45 (by decide)) (fun v20 σ19 H locs hp hw => ?_)
                obtain ⟨p20_0, p20_1, p20_2⟩ := hp
                rw [p20_0] at hw
                refine lv_if_eq (tgt := 108) hx hb dX1_saltThatLures_48 (by decide) (fun c21 => ?_) (fun c21 => ?_)
                · --
                  have i22 : Iv v20 0 0 := iv_eq1 c21 p20_1 (⟨by decide, by decide⟩ : Iv 0 0 0) (by decide)
                  exact J_108 σ_23 _ _ hw fr _ (lv_sub hl [0, 1, 2, 3, 4, 5] rfl)
                · --
                  have i23 : Iv v20 1 1 := iv_ne1 c21 p20_1 (⟨by decide, by decide⟩ : Iv 0 0 0) (by decide)
                  have i24 : Iv j23_6 0 63 := p20_2 c21
                  refine lv_aload_n hx hb dX1_saltThatLures_51 rfl (lv_at hl 0 rfl) ?_
                  refine g_0 cx hw ha0 k_f_X1_26 dX1_saltThatLures_52 (fun v25 e25 h25 => ?_)
                  refine g_321 cx hw h25 k_f_X1_91 dX1_saltThatLures_55 (fun v26 e26 h26 => ?_)
                  refine lv_iload hx hb dX1_saltThatLures_58 (lv_at hl 5 rfl) ?_
                  refine o_iald cx hw h26 (by decide) rfl (iv_in i24 (by decide)) dX1_saltThatLures_60 (fun v27 e27 b27 => ?_)
                  refine lv_iload hx hb dX1_saltThatLures_61 (lv_at hl 4 rfl) ?_
                  refine lv_iadd hx hb dX1_saltThatLures_63 ?_
                  refine lv_topi (fun v28 e28 => ?_)
                  refine lv_bipush (v := 9) hx hb dX1_saltThatLures_64 (by decide) ?_
                  refine lv_icmp_gt (tgt := 108) hx hb dX1_saltThatLures_66 (by decide) (fun c29 => ?_) (fun c29 => ?_)
                  · --
                    have i30 : Iv v28 10 2147483647 := iv_lt2 c29 (⟨by decide, by decide⟩ : Iv 9 9 9) (iv_top v28) (by decide)
                    exact J_108 σ_23 _ _ hw fr _ (lv_sub hl [0, 1, 2, 3, 4, 5] rfl)
                  · --
                    have i31 : Iv v28 (-2147483648) 9 := iv_le1 (iv_nlt c29) (iv_top v28) (⟨by decide, by decide⟩ : Iv 9 9 9) (by decide)
                    refine lv_aload_n hx hb dX1_saltThatLures_69 rfl (lv_at hl 0 rfl) ?_
                    refine o_cr hw (oRunV cx hA hw q_X1_begin k_m_X1_46 rfl ha0 (by decide) (As := []) (c_X1_begin a0 ha0) (by decide) rfl hl.1 rfl (Nat.le_of_ble_eq_true rfl) dX1_saltThatLures_70 (by decide)) (fun v33 σ32 H locs hp hw => ?_)
                    obtain ⟨p33_0, p33_1⟩ := hp
                    have fr := oFr_tr fr p33_0 (by decide)
                    refine lv_pop hx hb dX1_saltThatLures_73 rfl ?_
                    refine lv_aload_n hx hb dX1_saltThatLures_74 rfl (lv_at hl 0 rfl) ?_
                    refine g_3 cx hw ha0 k_f_X1_12 dX1_saltThatLures_75 (fun v34 e34 h34 => ?_)
                    refine g_321 cx hw h34 k_f_X1_91 dX1_saltThatLures_78 (fun v35 e35 h35 => ?_)
                    refine lv_iload hx hb dX1_saltThatLures_81 (lv_at hl 5 rfl) ?_
                    refine lv_dup2_11 hx hb dX1_saltThatLures_83 rfl rfl ?_
                    refine o_iald cx hw h35 (by decide) rfl (iv_in i24 (by decide)) dX1_saltThatLures_84 (fun v36 e36 b36 => ?_)
                    refine lv_iload hx hb dX1_saltThatLures_85 (lv_at hl 4 rfl) ?_
                    refine lv_iadd hx hb dX1_saltThatLures_87 ?_
                    refine lv_topi (fun v37 e37 => ?_)
                    refine o_iast cx hw h35 (by decide) rfl (iv_in i24 (by decide)) trivial dX1_saltThatLures_88 (fun σ38 H locs eσ38 hw => ?_)
                    have fr := oFr_p fr eσ38 h35 (by decide)
                    refine lv_aload_n hx hb dX1_saltThatLures_89 rfl (lv_at hl 0 rfl) ?_
                    refine lv_iload_n hx hb dX1_saltThatLures_90 rfl (lv_at hl 1 rfl) ?_
                    refine lv_iload_n hx hb dX1_saltThatLures_91 rfl (lv_at hl 2 rfl) ?_
                    refine o_ci hw (oRunV cx hA hw q_X1_hourOfComing k_m_X1_94 rfl ha0 (by decide) (As := [.int a1, .int a2]) (c_X1_hourOfComing a0 ha0 a1 a2 (iv_w ia2 (by decide))) (by decide) rfl hl.1 rfl (Nat.le_of_ble_eq_true rfl) dX1_saltThatLures_92 (by decide)) (fun v40 σ39 H locs hp hw => ?_)
                    obtain ⟨p40_0, p40_1⟩ := hp
                    have fr := oFr_tr fr p40_0 (by decide)
                    refine lv_iconst (v := (-1)) hx hb dX1_saltThatLures_95 (by decide) ?_
                    refine lv_icmp_eq (tgt := 108) hx hb dX1_saltThatLures_96 (by decide) (fun c41 => ?_) (fun c41 => ?_)
                    · --
                      have i42 : Iv v40 (-1) (-1) := iv_eq1 c41 p40_1 (⟨by decide, by decide⟩ : Iv (-1) (-1) (-1)) (by decide)
                      exact J_108 σ39 _ _ hw fr _ (lv_sub hl [0, 1, 2, 3, 4, 5] rfl)
                    · --
                      have i43 : Iv v40 0 100 := iv_ne1 c41 p40_1 (⟨by decide, by decide⟩ : Iv (-1) (-1) (-1)) (by decide)
                      refine lv_aload_n hx hb dX1_saltThatLures_99 rfl (lv_at hl 0 rfl) ?_
                      refine lv_iload hx hb dX1_saltThatLures_100 (lv_at hl 5 rfl) ?_
                      refine p_6 cx hw ha0 k_f_X1_98 dX1_saltThatLures_102 (fun σ44 H locs eσ44 hw => ?_)
                      have fr := oFr_i fr eσ44 (by decide)
                      refine lv_iload hx hb dX1_saltThatLures_105 (lv_at hl 4 rfl) ?_
                      rw [← hQ]
                      exact o_ri cx rx hw dX1_saltThatLures_107 ⟨fr, (iv_w i6 (by decide))⟩
        exact J_23 _ 0 (iv_w (⟨by decide, by decide⟩ : Iv 0 0 0) (by decide)) (Nat.lt_succ_self _) σ_13 _ _ hw fr _ (lv_sub hl [1, 2, 3, 4, 5, 0] rfl)
  exact J_13 _ 1 (iv_w (⟨by decide, by decide⟩ : Iv 1 1 1) (by decide)) (Nat.lt_succ_self _) σ _ _ hw fr _ (lv_sub hl [2, 3, 4, 1, 0] rfl)
abbrev fs_X10_lure : List Nat := [6, 193, 327, 328, 329, 330, 331, 517]
abbrev ts_X10_lure : List Nat := [32, 33, 34, 36, 37, 38]
set_option maxHeartbeats 4000000 in
set_option maxRecDepth 100000 in
theorem c_X10_lure (a0 : Nat) (ha0 : oA L τ a0 9) (a1 : Int32) (a2 : Int32) : oMet l A L τ cy D K yX10_lure cX10_lure 5 (some .int) 8 196 [.ref a0, .int a1, .int a2] σ (va_Qi (fun r σ1 => oFr τ fs_X10_lure ts_X10_lure σ σ1 ∧ Iv r (-2) 9) (oPo A L τ cy D) A) := by
  refine oMk (by decide) (Nat.le_of_ble_eq_true rfl) rfl ?_
  intro p e s m args below meth c ls cx rx hA hw hl
  generalize hQ : MQ below _ args s 0 0 A = Q
  have hx := cx.1.1
  have hb := cx.1.2.1
  have hml := cx.1.2.2.1
  have hown := cx.1.2.2.2.1
  have hts := cx.1.2.2.2.2
  have hl : lv_has ls 5 [(0, .ref a0), (1, .int a1), (2, .int a2)] := hl
  have fr : oFr τ fs_X10_lure ts_X10_lure σ σ := oFr_rf
  refine lv_aload_n hx hb dX10_lure_0 rfl (lv_at hl 0 rfl) ?_
  refine g_578 cx hw ha0 k_f_X10_26 dX10_lure_1 (fun v1 e1 h1 => ?_)
  refine lv_iload_n hx hb dX10_lure_4 rfl (lv_at hl 1 rfl) ?_
  refine o_ci hw (oRunV cx hA hw q_X2_isThere k_m_X10_135 rfl h1 (by decide) (As := [.int a1]) (c_X2_isThere v1 h1 a1) (by decide) rfl hl.1 rfl (Nat.le_of_ble_eq_true rfl) dX10_lure_5 (by decide)) (fun v3 σ2 H locs hp hw => ?_)
  obtain ⟨p3_0, p3_1, p3_2⟩ := hp
  rw [p3_0] at hw
  refine lv_if_eq (tgt := 22) hx hb dX10_lure_8 (by decide) (fun c4 => ?_) (fun c4 => ?_)
  · --
    have i5 : Iv v3 0 0 := iv_eq1 c4 p3_1 (⟨by decide, by decide⟩ : Iv 0 0 0) (by decide)
    refine lv_iconst (v := (-1)) hx hb dX10_lure_22 (by decide) ?_
    rw [← hQ]
    exact o_ri cx rx hw dX10_lure_23 ⟨fr, (iv_w (⟨by decide, by decide⟩ : Iv (-1) (-1) (-1)) (by decide))⟩
  · --
    have i6 : Iv v3 1 1 := iv_ne1 c4 p3_1 (⟨by decide, by decide⟩ : Iv 0 0 0) (by decide)
    have i7 : Iv a1 0 63 := p3_2 c4
    refine lv_iload_n hx hb dX10_lure_11 rfl (lv_at hl 2 rfl) ?_
    refine lv_iconst (v := 1) hx hb dX10_lure_12 (by decide) ?_
    refine lv_icmp_lt (tgt := 22) hx hb dX10_lure_13 (by decide) (fun c8 => ?_) (fun c8 => ?_)
    · --
      have i9 : Iv a2 (-2147483648) 0 := iv_lt1 c8 (iv_top a2) (⟨by decide, by decide⟩ : Iv 1 1 1) (by decide)
      refine lv_iconst (v := (-1)) hx hb dX10_lure_22 (by decide) ?_
      rw [← hQ]
      exact o_ri cx rx hw dX10_lure_23 ⟨fr, (iv_w (⟨by decide, by decide⟩ : Iv (-1) (-1) (-1)) (by decide))⟩
    · --
      have i10 : Iv a2 1 2147483647 := iv_le2 (iv_nlt c8) (⟨by decide, by decide⟩ : Iv 1 1 1) (iv_top a2) (by decide)
      refine lv_iload_n hx hb dX10_lure_16 rfl (lv_at hl 2 rfl) ?_
      refine lv_bipush (v := 100) hx hb dX10_lure_17 (by decide) ?_
      refine lv_icmp_le (tgt := 24) hx hb dX10_lure_19 (by decide) (fun c11 => ?_) (fun c11 => ?_)
      · --
        have i12 : Iv a2 1 100 := iv_le1 c11 i10 (⟨by decide, by decide⟩ : Iv 100 100 100) (by decide)
        refine lv_aload_n hx hb dX10_lure_24 rfl (lv_at hl 0 rfl) ?_
        refine g_583 cx hw ha0 k_f_X10_61 dX10_lure_25 (fun v13 e13 h13 => ?_)
        refine o_cr hw (oRunV cx hA hw q_X1_begin k_m_X10_377 rfl h13 (by decide) (As := []) (c_X1_begin v13 h13) (by decide) rfl hl.1 rfl (Nat.le_of_ble_eq_true rfl) dX10_lure_28 (by decide)) (fun v15 σ14 H locs hp hw => ?_)
        obtain ⟨p15_0, p15_1⟩ := hp
        have fr := oFr_tr fr p15_0 (by decide)
        refine lv_pop hx hb dX10_lure_31 rfl ?_
        refine lv_aload_n hx hb dX10_lure_32 rfl (lv_at hl 0 rfl) ?_
        refine g_581 cx hw ha0 k_f_X10_49 dX10_lure_33 (fun v16 e16 h16 => ?_)
        refine lv_iload_n hx hb dX10_lure_36 rfl (lv_at hl 1 rfl) ?_
        refine o_ci hw (oRunV cx hA hw q_X6_herdsAt k_m_X10_174 rfl h16 (by decide) (As := [.int a1]) (c_X6_herdsAt v16 h16 a1) (by decide) rfl hl.1 rfl (Nat.le_of_ble_eq_true rfl) dX10_lure_37 (by decide)) (fun v18 σ17 H locs hp hw => ?_)
        obtain ⟨p18_0, p18_1⟩ := hp
        rw [p18_0] at hw
        have J_61 : ∀ (k61_0 : Int32) (ik61_0 : Iv k61_0 0 1), ∀ (σ_61 : oSt) (H : Heap) (locs : List Loc), oI A L τ cy D s.heap σ_61 H locs → oFr τ fs_X10_lure ts_X10_lure σ σ_61 → ∀ (ls : Array Slot), lv_has ls 5 [(0, .ref a0), (1, .int a1), (2, .int a2)] → W p l e ({ frames := 8, cells := 0, slots := 0, locals := 196 } : Room) s m args below meth c H locs 0 0 Q (F0 m 61 ls [.int k61_0]) := by
          intro k61_0 ik61_0   σ_61 H locs hw fr   ls hl
          refine lv_istore_n (lv' := [(3, .int k61_0), (0, .ref a0), (1, .int a1), (2, .int a2)]) hx hb dX10_lure_61 rfl hl (by decide) rfl (fun ls hl => ?_)
          refine lv_iload_n hx hb dX10_lure_62 rfl (lv_at hl 0 rfl) ?_
          have J_79 : ∀ (k79_0 : Int32) (ik79_0 : Iv k79_0 (-2) 9), ∀ (σ_79 : oSt) (H : Heap) (locs : List Loc), oI A L τ cy D s.heap σ_79 H locs → oFr τ fs_X10_lure ts_X10_lure σ σ_79 → ∀ (ls : Array Slot), lv_has ls 5 [(0, .ref a0), (1, .int a1), (2, .int a2), (3, .int k61_0)] → W p l e ({ frames := 8, cells := 0, slots := 0, locals := 196 } : Room) s m args below meth c H locs 0 0 Q (F0 m 79 ls [.int k79_0]) := by
            intro k79_0 ik79_0   σ_79 H locs hw fr   ls hl
            refine lv_istore (lv' := [(4, .int k79_0), (0, .ref a0), (1, .int a1), (2, .int a2), (3, .int k61_0)]) hx hb dX10_lure_79 hl (by decide) rfl (fun ls hl => ?_)
            refine lv_iload hx hb dX10_lure_81 (lv_at hl 0 rfl) ?_
            refine lv_bipush (v := (-2)) hx hb dX10_lure_83 (by decide) ?_
            refine lv_icmp_eq (tgt := 120) hx hb dX10_lure_85 (by decide) (fun c19 => ?_) (fun c19 => ?_)
            · --
              have i20 : Iv k79_0 (-2) (-2) := iv_eq1 c19 ik79_0 (⟨by decide, by decide⟩ : Iv (-2) (-2) (-2)) (by decide)
              refine lv_iload hx hb dX10_lure_120 (lv_at hl 0 rfl) ?_
              rw [← hQ]
              exact o_ri cx rx hw dX10_lure_122 ⟨fr, (iv_w i20 (by decide))⟩
            · --
              have i21 : Iv k79_0 (-1) 9 := iv_ne1 c19 ik79_0 (⟨by decide, by decide⟩ : Iv (-2) (-2) (-2)) (by decide)
              refine lv_aload_n hx hb dX10_lure_88 rfl (lv_at hl 1 rfl) ?_
              refine g_577 cx hw ha0 k_f_X10_19 dX10_lure_89 (fun v22 e22 h22 => ?_)
              refine o_cv hw (oRunV cx hA hw q_X4_start k_m_X10_292 rfl h22 (by decide) (As := []) (c_X4_start v22 h22) (by decide) rfl hl.1 rfl (Nat.le_of_ble_eq_true rfl) dX10_lure_92 (by decide)) (fun σ23 H locs hp hw => ?_)
              have p24_0 := hp
              have fr := oFr_tr fr p24_0 (by decide)
              refine lv_aload_n hx hb dX10_lure_95 rfl (lv_at hl 1 rfl) ?_
              refine g_577 cx hw ha0 k_f_X10_19 dX10_lure_96 (fun v25 e25 h25 => ?_)
              rw [show v25 = v22 from Option.some.inj (e25.symm.trans (((kr_c p24_0 (by decide)).trans e22)))]
              refine lv_iload_n hx hb dX10_lure_99 rfl (lv_at hl 4 rfl) ?_
              have J_117 : ∀ (k117_1 : Int64), ∀ (σ_117 : oSt) (H : Heap) (locs : List Loc), oI A L τ cy D s.heap σ_117 H locs → oFr τ fs_X10_lure ts_X10_lure σ σ_117 → ∀ (ls : Array Slot), lv_has ls 5 [(0, .ref a0), (1, .int a1), (2, .int a2), (3, .int k61_0), (4, .int k79_0)] → W p l e ({ frames := 8, cells := 0, slots := 0, locals := 196 } : Room) s m args below meth c H locs 0 0 Q (F0 m 117 ls [.long k117_1, .ref v22]) := by
                intro k117_1   σ_117 H locs hw fr   ls hl
                refine o_cv hw (oRunV cx hA hw q_X4_put k_m_X10_295 rfl h22 (by decide) (As := [.long k117_1]) (c_X4_put v22 h22 k117_1) (by decide) rfl hl.1 rfl (Nat.le_of_ble_eq_true rfl) dX10_lure_117 (by decide)) (fun σ26 H locs hp hw => ?_)
                have p27_0 := hp
                have fr := oFr_tr fr p27_0 (by decide)
                refine lv_iload hx hb dX10_lure_120 (lv_at hl 4 rfl) ?_
                rw [← hQ]
                exact o_ri cx rx hw dX10_lure_122 ⟨fr, (iv_w i21 (by decide))⟩
              refine lv_if_eq (tgt := 109) hx hb dX10_lure_100 (by decide) (fun c28 => ?_) (fun c28 => ?_)
              · --
                have i29 : Iv k61_0 0 0 := iv_eq1 c28 ik61_0 (⟨by decide, by decide⟩ : Iv 0 0 0) (by decide)
                refine lv_aload_n hx hb dX10_lure_109 rfl (lv_at hl 1 rfl) ?_
                refine g_583 cx hw ha0 k_f_X10_61 dX10_lure_110 (fun v30 e30 h30 => ?_)
                refine g_6 cx hw h30 k_f_X10_398 dX10_lure_113 (fun v31 e31 => ?_)
                refine lv_i2l hx hb dX10_lure_116 rfl ?_
                refine lv_topl (fun v32 e32 => ?_)
                exact J_117 v32 σ23 _ _ hw fr _ (lv_sub hl [1, 2, 3, 4, 0] rfl)
              · --
                have i33 : Iv k61_0 1 1 := iv_ne1 c28 ik61_0 (⟨by decide, by decide⟩ : Iv 0 0 0) (by decide)
                refine lv_ldc2 (v := (-1)) hx hb hown (hts _ k_k_X10_347) dX10_lure_103 ?_
                refine lv_goto (tgt := 117) hx hb dX10_lure_106 (by decide) ?_
                exact J_117 (-1) σ23 _ _ hw fr _ (lv_sub hl [1, 2, 3, 4, 0] rfl)
          refine lv_if_eq (tgt := 70) hx hb dX10_lure_63 (by decide) (fun c34 => ?_) (fun c34 => ?_)
          · --
            have i35 : Iv k61_0 0 0 := iv_eq1 c34 ik61_0 (⟨by decide, by decide⟩ : Iv 0 0 0) (by decide)
            refine lv_aload_n hx hb dX10_lure_70 rfl (lv_at hl 1 rfl) ?_
            refine g_583 cx hw ha0 k_f_X10_61 dX10_lure_71 (fun v36 e36 h36 => ?_)
            refine lv_iload_n hx hb dX10_lure_74 rfl (lv_at hl 2 rfl) ?_
            refine lv_iload_n hx hb dX10_lure_75 rfl (lv_at hl 3 rfl) ?_
            refine o_ci hw (oRunV cx hA hw q_X1_saltThatLures k_m_X10_395 rfl h36 (by decide) (As := [.int a1, .int a2]) (c_X1_saltThatLures v36 h36 a1 a2 (iv_w i12 (by decide))) (by decide) rfl hl.1 rfl (Nat.le_of_ble_eq_true rfl) dX10_lure_76 (by decide)) (fun v38 σ37 H locs hp hw => ?_)
            obtain ⟨p38_0, p38_1⟩ := hp
            have fr := oFr_tr fr p38_0 (by decide)
            exact J_79 v38 p38_1 σ37 _ _ hw fr _ (lv_sub hl [1, 2, 3, 0] rfl)
          · --
            have i39 : Iv k61_0 1 1 := iv_ne1 c34 ik61_0 (⟨by decide, by decide⟩ : Iv 0 0 0) (by decide)
            refine lv_iconst (v := 0) hx hb dX10_lure_66 (by decide) ?_
            refine lv_goto (tgt := 79) hx hb dX10_lure_67 (by decide) ?_
            exact J_79 0 (iv_w (⟨by decide, by decide⟩ : Iv 0 0 0) (by decide)) σ_61 _ _ hw fr _ (lv_sub hl [1, 2, 3, 0] rfl)
        have J_56 : ∀ (σ_56 : oSt) (H : Heap) (locs : List Loc), oI A L τ cy D s.heap σ_56 H locs → oFr τ fs_X10_lure ts_X10_lure σ σ_56 → ∀ (ls : Array Slot), lv_has ls 5 [(0, .ref a0), (1, .int a1), (2, .int a2)] → W p l e ({ frames := 8, cells := 0, slots := 0, locals := 196 } : Room) s m args below meth c H locs 0 0 Q (F0 m 56 ls []) := by
          intro    σ_56 H locs hw fr   ls hl
          refine lv_iconst (v := 1) hx hb dX10_lure_56 (by decide) ?_
          refine lv_goto (tgt := 61) hx hb dX10_lure_57 (by decide) ?_
          exact J_61 1 (iv_w (⟨by decide, by decide⟩ : Iv 1 1 1) (by decide)) σ_56 _ _ hw fr _ (lv_sub hl [0, 1, 2] rfl)
        refine lv_if_ne (tgt := 56) hx hb dX10_lure_40 (by decide) (fun c40 => ?_) (fun c40 => ?_)
        · --
          have i41 : Iv v18 1 63 := iv_ne1 c40 p18_1 (⟨by decide, by decide⟩ : Iv 0 0 0) (by decide)
          exact J_56 σ14 _ _ hw fr _ (lv_sub hl [0, 1, 2] rfl)
        · --
          have i42 : Iv v18 0 0 := iv_eq1 c40 p18_1 (⟨by decide, by decide⟩ : Iv 0 0 0) (by decide)
          refine lv_aload_n hx hb dX10_lure_43 rfl (lv_at hl 0 rfl) ?_
          refine g_583 cx hw ha0 k_f_X10_61 dX10_lure_44 (fun v43 e43 h43 => ?_)
          rw [show v43 = v13 from Option.some.inj (e43.symm.trans (((kr_c p15_0 (by decide)).trans e13)))]
          refine lv_iload_n hx hb dX10_lure_47 rfl (lv_at hl 1 rfl) ?_
          refine lv_iload_n hx hb dX10_lure_48 rfl (lv_at hl 2 rfl) ?_
          refine o_ci hw (oRunV cx hA hw q_X1_hourOfComing k_m_X10_380 rfl h13 (by decide) (As := [.int a1, .int a2]) (c_X1_hourOfComing v13 h13 a1 a2 (iv_w i12 (by decide))) (by decide) rfl hl.1 rfl (Nat.le_of_ble_eq_true rfl) dX10_lure_49 (by decide)) (fun v45 σ44 H locs hp hw => ?_)
          obtain ⟨p45_0, p45_1⟩ := hp
          have fr := oFr_tr fr p45_0 (by decide)
          refine lv_iconst (v := (-1)) hx hb dX10_lure_52 (by decide) ?_
          refine lv_icmp_eq (tgt := 60) hx hb dX10_lure_53 (by decide) (fun c46 => ?_) (fun c46 => ?_)
          · --
            have i47 : Iv v45 (-1) (-1) := iv_eq1 c46 p45_1 (⟨by decide, by decide⟩ : Iv (-1) (-1) (-1)) (by decide)
            refine lv_iconst (v := 0) hx hb dX10_lure_60 (by decide) ?_
            exact J_61 0 (iv_w (⟨by decide, by decide⟩ : Iv 0 0 0) (by decide)) σ44 _ _ hw fr _ (lv_sub hl [0, 1, 2] rfl)
          · --
            have i48 : Iv v45 0 100 := iv_ne1 c46 p45_1 (⟨by decide, by decide⟩ : Iv (-1) (-1) (-1)) (by decide)
            exact J_56 σ44 _ _ hw fr _ (lv_sub hl [0, 1, 2] rfl)
      · --
        have i49 : Iv a2 101 2147483647 := iv_lt2 (iv_nle c11) (⟨by decide, by decide⟩ : Iv 100 100 100) i10 (by decide)
        refine lv_iconst (v := (-1)) hx hb dX10_lure_22 (by decide) ?_
        rw [← hQ]
        exact o_ri cx rx hw dX10_lure_23 ⟨fr, (iv_w (⟨by decide, by decide⟩ : Iv (-1) (-1) (-1)) (by decide))⟩
abbrev fs_X1_beginWithThistles : List Nat := [327, 328, 329, 330, 331, 517]
abbrev ts_X1_beginWithThistles : List Nat := [32, 33, 34]
set_option maxHeartbeats 4000000 in
set_option maxRecDepth 100000 in
theorem c_X1_beginWithThistles (a0 : Nat) (ha0 : oA L τ a0 0) (a1 : Int32) (ia1 : Iv a1 0 63) (a2 : Int32) (ia2 : Iv a2 0 63) : oMet l A L τ cy D K yX1_beginWithThistles cX1_beginWithThistles 3 none 3 101 [.ref a0, .int a1, .int a2] σ (va_Qv (fun σ1 => oFr τ fs_X1_beginWithThistles ts_X1_beginWithThistles σ σ1) (oPo A L τ cy D) A) := by
  refine oMk (by decide) (Nat.le_of_ble_eq_true rfl) rfl ?_
  intro p e s m args below meth c ls cx rx hA hw hl
  generalize hQ : MQ below _ args s 0 0 A = Q
  have hx := cx.1.1
  have hb := cx.1.2.1
  have hml := cx.1.2.2.1
  have hown := cx.1.2.2.2.1
  have hts := cx.1.2.2.2.2
  have hl : lv_has ls 3 [(0, .ref a0), (1, .int a1), (2, .int a2)] := hl
  have fr : oFr τ fs_X1_beginWithThistles ts_X1_beginWithThistles σ σ := oFr_rf
  refine lv_aload_n hx hb dX1_beginWithThistles_0 rfl (lv_at hl 0 rfl) ?_
  refine o_cr hw (oRunV cx hA hw q_X1_begin k_m_X1_46 rfl ha0 (by decide) (As := []) (c_X1_begin a0 ha0) (by decide) rfl hl.1 rfl (Nat.le_of_ble_eq_true rfl) dX1_beginWithThistles_1 (by decide)) (fun v2 σ1 H locs hp hw => ?_)
  obtain ⟨p2_0, p2_1⟩ := hp
  have fr := oFr_tr fr p2_0 (by decide)
  refine lv_pop hx hb dX1_beginWithThistles_4 rfl ?_
  refine lv_aload_n hx hb dX1_beginWithThistles_5 rfl (lv_at hl 0 rfl) ?_
  refine g_3 cx hw ha0 k_f_X1_12 dX1_beginWithThistles_6 (fun v3 e3 h3 => ?_)
  refine g_322 cx hw h3 k_f_X1_108 dX1_beginWithThistles_9 (fun v4 e4 h4 => ?_)
  refine lv_iload_n hx hb dX1_beginWithThistles_12 rfl (lv_at hl 1 rfl) ?_
  refine lv_bipush (v := 9) hx hb dX1_beginWithThistles_13 (by decide) ?_
  refine o_iast cx hw h4 (by decide) rfl (iv_in ia1 (by decide)) trivial dX1_beginWithThistles_15 (fun σ5 H locs eσ5 hw => ?_)
  have fr := oFr_p fr eσ5 h4 (by decide)
  refine lv_aload_n hx hb dX1_beginWithThistles_16 rfl (lv_at hl 0 rfl) ?_
  refine g_3 cx hw ha0 k_f_X1_12 dX1_beginWithThistles_17 (fun v6 e6 h6 => ?_)
  rw [show v6 = v3 from Option.some.inj (e6.symm.trans (((kr_p eσ5).trans e3)))]
  refine g_322 cx hw h3 k_f_X1_108 dX1_beginWithThistles_20 (fun v7 e7 h7 => ?_)
  rw [show v7 = v4 from Option.some.inj (e7.symm.trans (((kr_p eσ5).trans e4)))]
  refine lv_iload_n hx hb dX1_beginWithThistles_23 rfl (lv_at hl 2 rfl) ?_
  refine lv_bipush (v := 9) hx hb dX1_beginWithThistles_24 (by decide) ?_
  refine o_iast cx hw h4 (by decide) rfl (iv_in ia2 (by decide)) trivial dX1_beginWithThistles_26 (fun σ8 H locs eσ8 hw => ?_)
  have fr := oFr_p fr eσ8 h4 (by decide)
  rw [← hQ]
  exact o_rv cx rx hw dX1_beginWithThistles_27 fr
abbrev fs_X1_isHedgedByOne : List Nat := [6, 327, 328, 329, 330, 331, 517]
abbrev ts_X1_isHedgedByOne : List Nat := [32, 33, 34, 37, 38, 39]
set_option maxHeartbeats 4000000 in
set_option maxRecDepth 100000 in
theorem c_X1_isHedgedByOne (a0 : Nat) (ha0 : oA L τ a0 0) (a1 : Int32) (a2 : Int32) (ia2 : Iv a2 1 100) : oMet l A L τ cy D K yX1_isHedgedByOne cX1_isHedgedByOne 6 (some .boolean) 7 170 [.ref a0, .int a1, .int a2] σ (va_Qi (fun r σ1 => oFr τ fs_X1_isHedgedByOne ts_X1_isHedgedByOne σ σ1 ∧ Iv r 0 1) (oPo A L τ cy D) A) := by
  refine oMk (by decide) (Nat.le_of_ble_eq_true rfl) rfl ?_
  intro p e s m args below meth c ls cx rx hA hw hl
  generalize hQ : MQ below _ args s 0 0 A = Q
  have hx := cx.1.1
  have hb := cx.1.2.1
  have hml := cx.1.2.2.1
  have hown := cx.1.2.2.2.1
  have hts := cx.1.2.2.2.2
  have hl : lv_has ls 6 [(0, .ref a0), (1, .int a1), (2, .int a2)] := hl
  have fr : oFr τ fs_X1_isHedgedByOne ts_X1_isHedgedByOne σ σ := oFr_rf
  refine lv_aload_n hx hb dX1_isHedgedByOne_0 rfl (lv_at hl 0 rfl) ?_
  refine g_2 cx hw ha0 k_f_X1_33 dX1_isHedgedByOne_1 (fun v1 e1 h1 => ?_)
  refine lv_bipush (v := 116) hx hb dX1_isHedgedByOne_4 (by decide) ?_
  refine o_cl hw (oRunV cx hA hw q_X9_tellingBy k_m_X1_75 rfl h1 (by decide) (As := [.int 116]) (c_X9_tellingBy v1 h1 116 (iv_w (⟨by decide, by decide⟩ : Iv 116 116 116) (by decide))) (by decide) rfl hl.1 rfl (Nat.le_of_ble_eq_true rfl) dX1_isHedgedByOne_6 (by decide)) (fun v3 σ2 H locs hp hw => ?_)
  have p3_0 := hp
  rw [p3_0] at hw
  refine lv_lstore_n (lv' := [(3, .long v3), (0, .ref a0), (1, .int a1), (2, .int a2)]) hx hb dX1_isHedgedByOne_9 rfl hl (by decide) rfl (fun ls hl => ?_)
  refine lv_iconst (v := 0) hx hb dX1_isHedgedByOne_10 (by decide) ?_
  refine lv_istore (lv' := [(5, .int 0), (3, .long v3), (0, .ref a0), (1, .int a1), (2, .int a2)]) hx hb dX1_isHedgedByOne_11 hl (by decide) rfl (fun ls hl => ?_)
  have J_13 : ∀ n : Nat, ∀ (j13_5 : Int32) (ij13_5 : Iv j13_5 0 64), (64 - j13_5.toInt).toNat < n → ∀ (σ_13 : oSt) (H : Heap) (locs : List Loc), oI A L τ cy D s.heap σ_13 H locs → oFr τ fs_X1_isHedgedByOne ts_X1_isHedgedByOne σ σ_13 → ∀ (ls : Array Slot), lv_has ls 6 [(0, .ref a0), (1, .int a1), (2, .int a2), (3, .long v3), (5, .int j13_5)] → W p l e ({ frames := 7, cells := 0, slots := 0, locals := 170 } : Room) s m args below meth c H locs 0 0 Q (F0 m 13 ls []) := by
    intro n
    induction n with
    | zero => intro j13_5 ij13_5 hn_13  σ_13 H locs hw fr   ls hl; exact absurd hn_13 (Nat.not_lt_zero _)
    | succ n ih_13 =>
      intro j13_5 ij13_5 hn_13  σ_13 H locs hw fr   ls hl
      refine lv_iload hx hb dX1_isHedgedByOne_13 (lv_at hl 4 rfl) ?_
      refine lv_bipush (v := 64) hx hb dX1_isHedgedByOne_15 (by decide) ?_
      refine lv_icmp_ge (tgt := 97) hx hb dX1_isHedgedByOne_17 (by decide) (fun c4 => ?_) (fun c4 => ?_)
      · --
        have i5 : Iv j13_5 64 64 := iv_le2 c4 (⟨by decide, by decide⟩ : Iv 64 64 64) ij13_5 (by decide)
        refine lv_iconst (v := 0) hx hb dX1_isHedgedByOne_97 (by decide) ?_
        rw [← hQ]
        exact o_rz cx rx hw (iv_nz01 (iv_w (⟨by decide, by decide⟩ : Iv 0 0 0) (by decide))) dX1_isHedgedByOne_98 ⟨fr, (iv_w (⟨by decide, by decide⟩ : Iv 0 0 0) (by decide))⟩
      · --
        have i6 : Iv j13_5 0 63 := iv_lt1 (iv_nle c4) ij13_5 (⟨by decide, by decide⟩ : Iv 64 64 64) (by decide)
        refine lv_aload_n hx hb dX1_isHedgedByOne_20 rfl (lv_at hl 0 rfl) ?_
        refine g_5 cx hw ha0 k_f_X1_22 dX1_isHedgedByOne_21 (fun v7 e7 h7 => ?_)
        refine lv_iload hx hb dX1_isHedgedByOne_24 (lv_at hl 4 rfl) ?_
        refine lv_lload_n hx hb dX1_isHedgedByOne_26 rfl (lv_at hl 3 rfl) ?_
        refine o_last cx hw h7 (by decide) rfl (iv_in i6 (by decide)) dX1_isHedgedByOne_27 (fun σ8 H locs eσ8 hw => ?_)
        have fr := oFr_q fr eσ8 h7 (by decide)
        refine lv_lload_n hx hb dX1_isHedgedByOne_28 rfl (lv_at hl 3 rfl) ?_
        refine lv_iload hx hb dX1_isHedgedByOne_29 (lv_at hl 4 rfl) ?_
        refine o_ci hw (oRunS cx hA hw q_X0_has k_m_X1_79 (As := [.long v3, .int j13_5]) (c_X0_has v3 j13_5) (by decide) rfl hl.1 rfl (Nat.le_of_ble_eq_true rfl) dX1_isHedgedByOne_31 (by decide)) (fun v10 σ9 H locs hp hw => ?_)
        obtain ⟨p10_0, p10_1, p10_2⟩ := hp
        rw [p10_0] at hw
        have J_91 : ∀ (σ_91 : oSt) (H : Heap) (locs : List Loc), oI A L τ cy D s.heap σ_91 H locs → oFr τ fs_X1_isHedgedByOne ts_X1_isHedgedByOne σ σ_91 → ∀ (ls : Array Slot), lv_has ls 6 [(0, .ref a0), (1, .int a1), (2, .int a2), (3, .long v3), (5, .int j13_5)] → W p l e ({ frames := 7, cells := 0, slots := 0, locals := 170 } : Room) s m args below meth c H locs 0 0 Q (F0 m 91 ls []) := by
          intro    σ_91 H locs hw fr   ls hl
          obtain ⟨v11, e11⟩ : ∃ y : Int32, y = j13_5 + 1 := ⟨_, rfl⟩
          have i11 : Iv v11 1 64 := iv_add e11 i6 (⟨by decide, by decide⟩ : Iv 1 1 1) (by decide)
          have x11 : v11.toInt = j13_5.toInt + 1 := ex_add e11 i6 (⟨by decide, by decide⟩ : Iv 1 1 1) (by decide)
          refine lv_iinc (v := v11) (lv' := [(5, .int v11), (0, .ref a0), (1, .int a1), (2, .int a2), (3, .long v3)]) hx hb dX1_isHedgedByOne_91 hl (k := 4) rfl (by rw [e11]; rfl) (by decide) rfl (fun ls hl => ?_)
          refine lv_goto (tgt := 13) hx hb dX1_isHedgedByOne_94 (by decide) ?_
          exact ih_13 v11 (iv_w i11 (by decide)) (ms_up x11 (by decide) (iv_w (a' := 0) (b' := 64) i11 (by decide)).2 hn_13) σ_91 _ _ hw fr _ (lv_sub hl [1, 2, 3, 4, 0] rfl)
        refine lv_if_eq (tgt := 91) hx hb dX1_isHedgedByOne_34 (by decide) (fun c12 => ?_) (fun c12 => ?_)
        · --
          have i13 : Iv v10 0 0 := iv_eq1 c12 p10_1 (⟨by decide, by decide⟩ : Iv 0 0 0) (by decide)
          exact J_91 σ8 _ _ hw fr _ (lv_sub hl [0, 1, 2, 3, 4] rfl)
        · --
          have i14 : Iv v10 1 1 := iv_ne1 c12 p10_1 (⟨by decide, by decide⟩ : Iv 0 0 0) (by decide)
          have i15 : Iv j13_5 0 63 := p10_2 c12
          refine lv_aload_n hx hb dX1_isHedgedByOne_37 rfl (lv_at hl 0 rfl) ?_
          refine g_1 cx hw ha0 k_f_X1_29 dX1_isHedgedByOne_38 (fun v16 e16 h16 => ?_)
          refine lv_iload hx hb dX1_isHedgedByOne_41 (lv_at hl 4 rfl) ?_
          refine o_ci hw (oRunV cx hA hw q_X2_isPlain k_m_X1_85 rfl h16 (by decide) (As := [.int j13_5]) (c_X2_isPlain v16 h16 j13_5) (by decide) rfl hl.1 rfl (Nat.le_of_ble_eq_true rfl) dX1_isHedgedByOne_43 (by decide)) (fun v18 σ17 H locs hp hw => ?_)
          obtain ⟨p18_0, p18_1, p18_2⟩ := hp
          rw [p18_0] at hw
          refine lv_if_eq (tgt := 91) hx hb dX1_isHedgedByOne_46 (by decide) (fun c19 => ?_) (fun c19 => ?_)
          · --
            have i20 : Iv v18 0 0 := iv_eq1 c19 p18_1 (⟨by decide, by decide⟩ : Iv 0 0 0) (by decide)
            exact J_91 σ8 _ _ hw fr _ (lv_sub hl [0, 1, 2, 3, 4] rfl)
          · --
            have i21 : Iv v18 1 1 := iv_ne1 c19 p18_1 (⟨by decide, by decide⟩ : Iv 0 0 0) (by decide)
            have i22 : Iv j13_5 0 63 := p18_2 c19
            refine lv_aload_n hx hb dX1_isHedgedByOne_49 rfl (lv_at hl 0 rfl) ?_
            refine lv_iload hx hb dX1_isHedgedByOne_50 (lv_at hl 4 rfl) ?_
            refine lv_iload hx hb dX1_isHedgedByOne_52 (lv_at hl 4 rfl) ?_
            refine o_cv hw (oRunV cx hA hw q_X1_beginWithThistles k_m_X1_101 rfl ha0 (by decide) (As := [.int j13_5, .int j13_5]) (c_X1_beginWithThistles a0 ha0 j13_5 (iv_w i22 (by decide)) j13_5 (iv_w i22 (by decide))) (by decide) rfl hl.1 rfl (Nat.le_of_ble_eq_true rfl) dX1_isHedgedByOne_54 (by decide)) (fun σ23 H locs hp hw => ?_)
            have p24_0 := hp
            have fr := oFr_tr fr p24_0 (by decide)
            refine lv_aload_n hx hb dX1_isHedgedByOne_57 rfl (lv_at hl 0 rfl) ?_
            refine lv_iload_n hx hb dX1_isHedgedByOne_58 rfl (lv_at hl 1 rfl) ?_
            refine lv_iload_n hx hb dX1_isHedgedByOne_59 rfl (lv_at hl 2 rfl) ?_
            refine o_ci hw (oRunV cx hA hw q_X1_hourOfComing k_m_X1_94 rfl ha0 (by decide) (As := [.int a1, .int a2]) (c_X1_hourOfComing a0 ha0 a1 a2 (iv_w ia2 (by decide))) (by decide) rfl hl.1 rfl (Nat.le_of_ble_eq_true rfl) dX1_isHedgedByOne_60 (by decide)) (fun v26 σ25 H locs hp hw => ?_)
            obtain ⟨p26_0, p26_1⟩ := hp
            have fr := oFr_tr fr p26_0 (by decide)
            refine lv_iconst (v := (-1)) hx hb dX1_isHedgedByOne_63 (by decide) ?_
            refine lv_icmp_ne (tgt := 75) hx hb dX1_isHedgedByOne_64 (by decide) (fun c27 => ?_) (fun c27 => ?_)
            · --
              have i28 : Iv v26 0 100 := iv_ne1 c27 p26_1 (⟨by decide, by decide⟩ : Iv (-1) (-1) (-1)) (by decide)
              refine lv_aload_n hx hb dX1_isHedgedByOne_75 rfl (lv_at hl 0 rfl) ?_
              refine g_5 cx hw ha0 k_f_X1_22 dX1_isHedgedByOne_76 (fun v29 e29 h29 => ?_)
              rw [show v29 = v7 from Option.some.inj (e29.symm.trans (((kr_c p26_0 (by decide)).trans ((kr_c p24_0 (by decide)).trans ((kr_q eσ8).trans e7)))))]
              refine lv_iload hx hb dX1_isHedgedByOne_79 (lv_at hl 4 rfl) ?_
              refine lv_aload_n hx hb dX1_isHedgedByOne_81 rfl (lv_at hl 0 rfl) ?_
              refine g_2 cx hw ha0 k_f_X1_33 dX1_isHedgedByOne_82 (fun v30 e30 h30 => ?_)
              refine lv_bipush (v := 116) hx hb dX1_isHedgedByOne_85 (by decide) ?_
              refine o_cl hw (oRunV cx hA hw q_X9_tellingBy k_m_X1_75 rfl h30 (by decide) (As := [.int 116]) (c_X9_tellingBy v30 h30 116 (iv_w (⟨by decide, by decide⟩ : Iv 116 116 116) (by decide))) (by decide) rfl hl.1 rfl (Nat.le_of_ble_eq_true rfl) dX1_isHedgedByOne_87 (by decide)) (fun v32 σ31 H locs hp hw => ?_)
              have p32_0 := hp
              rw [p32_0] at hw
              refine o_last cx hw h7 (by decide) rfl (iv_in i22 (by decide)) dX1_isHedgedByOne_90 (fun σ33 H locs eσ33 hw => ?_)
              have fr := oFr_q fr eσ33 h7 (by decide)
              exact J_91 σ33 _ _ hw fr _ (lv_sub hl [0, 1, 2, 3, 4] rfl)
            · --
              have i34 : Iv v26 (-1) (-1) := iv_eq1 c27 p26_1 (⟨by decide, by decide⟩ : Iv (-1) (-1) (-1)) (by decide)
              refine lv_aload_n hx hb dX1_isHedgedByOne_67 rfl (lv_at hl 0 rfl) ?_
              refine lv_iload hx hb dX1_isHedgedByOne_68 (lv_at hl 4 rfl) ?_
              refine p_6 cx hw ha0 k_f_X1_98 dX1_isHedgedByOne_70 (fun σ35 H locs eσ35 hw => ?_)
              have fr := oFr_i fr eσ35 (by decide)
              refine lv_iconst (v := 1) hx hb dX1_isHedgedByOne_73 (by decide) ?_
              rw [← hQ]
              exact o_rz cx rx hw (iv_nz01 (iv_w (⟨by decide, by decide⟩ : Iv 1 1 1) (by decide))) dX1_isHedgedByOne_74 ⟨fr, (iv_w (⟨by decide, by decide⟩ : Iv 1 1 1) (by decide))⟩
  exact J_13 _ 0 (iv_w (⟨by decide, by decide⟩ : Iv 0 0 0) (by decide)) (Nat.lt_succ_self _) σ _ _ hw fr _ (lv_sub hl [2, 3, 4, 1, 0] rfl)
abbrev fs_X1_isHedgedByTwo : List Nat := [6, 7, 327, 328, 329, 330, 331, 517]
abbrev ts_X1_isHedgedByTwo : List Nat := [32, 33, 34, 37, 38]
set_option maxHeartbeats 4000000 in
set_option maxRecDepth 100000 in
theorem c_X1_isHedgedByTwo (a0 : Nat) (ha0 : oA L τ a0 0) (a1 : Int32) (a2 : Int32) (ia2 : Iv a2 1 100) : oMet l A L τ cy D K yX1_isHedgedByTwo cX1_isHedgedByTwo 5 (some .boolean) 5 129 [.ref a0, .int a1, .int a2] σ (va_Qi (fun r σ1 => oFr τ fs_X1_isHedgedByTwo ts_X1_isHedgedByTwo σ σ1 ∧ Iv r 0 1) (oPo A L τ cy D) A) := by
  refine oMk (by decide) (Nat.le_of_ble_eq_true rfl) rfl ?_
  intro p e s m args below meth c ls cx rx hA hw hl
  generalize hQ : MQ below _ args s 0 0 A = Q
  have hx := cx.1.1
  have hb := cx.1.2.1
  have hml := cx.1.2.2.1
  have hown := cx.1.2.2.2.1
  have hts := cx.1.2.2.2.2
  have hl : lv_has ls 5 [(0, .ref a0), (1, .int a1), (2, .int a2)] := hl
  have fr : oFr τ fs_X1_isHedgedByTwo ts_X1_isHedgedByTwo σ σ := oFr_rf
  refine lv_iconst (v := 0) hx hb dX1_isHedgedByTwo_0 (by decide) ?_
  refine lv_istore_n (lv' := [(3, .int 0), (0, .ref a0), (1, .int a1), (2, .int a2)]) hx hb dX1_isHedgedByTwo_1 rfl hl (by decide) rfl (fun ls hl => ?_)
  have J_2 : ∀ n : Nat, ∀ (j2_3 : Int32) (ij2_3 : Iv j2_3 0 64), (64 - j2_3.toInt).toNat < n → ∀ (σ_2 : oSt) (H : Heap) (locs : List Loc), oI A L τ cy D s.heap σ_2 H locs → oFr τ fs_X1_isHedgedByTwo ts_X1_isHedgedByTwo σ σ_2 → ∀ (ls : Array Slot), lv_has ls 5 [(0, .ref a0), (1, .int a1), (2, .int a2), (3, .int j2_3)] → W p l e ({ frames := 5, cells := 0, slots := 0, locals := 129 } : Room) s m args below meth c H locs 0 0 Q (F0 m 2 ls []) := by
    intro n
    induction n with
    | zero => intro j2_3 ij2_3 hn_2  σ_2 H locs hw fr   ls hl; exact absurd hn_2 (Nat.not_lt_zero _)
    | succ n ih_2 =>
      intro j2_3 ij2_3 hn_2  σ_2 H locs hw fr   ls hl
      refine lv_iload_n hx hb dX1_isHedgedByTwo_2 rfl (lv_at hl 3 rfl) ?_
      refine lv_bipush (v := 64) hx hb dX1_isHedgedByTwo_3 (by decide) ?_
      refine lv_icmp_ge (tgt := 113) hx hb dX1_isHedgedByTwo_5 (by decide) (fun c1 => ?_) (fun c1 => ?_)
      · --
        have i2 : Iv j2_3 64 64 := iv_le2 c1 (⟨by decide, by decide⟩ : Iv 64 64 64) ij2_3 (by decide)
        refine lv_iconst (v := 0) hx hb dX1_isHedgedByTwo_113 (by decide) ?_
        rw [← hQ]
        exact o_rz cx rx hw (iv_nz01 (iv_w (⟨by decide, by decide⟩ : Iv 0 0 0) (by decide))) dX1_isHedgedByTwo_114 ⟨fr, (iv_w (⟨by decide, by decide⟩ : Iv 0 0 0) (by decide))⟩
      · --
        have i3 : Iv j2_3 0 63 := iv_lt1 (iv_nle c1) ij2_3 (⟨by decide, by decide⟩ : Iv 64 64 64) (by decide)
        refine lv_iload_n hx hb dX1_isHedgedByTwo_8 rfl (lv_at hl 3 rfl) ?_
        refine lv_iconst (v := 1) hx hb dX1_isHedgedByTwo_9 (by decide) ?_
        refine lv_iadd hx hb dX1_isHedgedByTwo_10 ?_
        refine lv_topi (fun v4 e4 => ?_)
        have i4 : Iv v4 1 64 := iv_add e4 i3 (⟨by decide, by decide⟩ : Iv 1 1 1) (by decide)
        have x4 : v4.toInt = j2_3.toInt + 1 := ex_add e4 i3 (⟨by decide, by decide⟩ : Iv 1 1 1) (by decide)
        refine lv_istore (lv' := [(4, .int v4), (0, .ref a0), (1, .int a1), (2, .int a2), (3, .int j2_3)]) hx hb dX1_isHedgedByTwo_11 hl (by decide) rfl (fun ls hl => ?_)
        have J_13 : ∀ n : Nat, ∀ (j13_4 : Int32) (ij13_4 : Iv j13_4 1 64), (64 - j13_4.toInt).toNat < n → ∀ (σ_13 : oSt) (H : Heap) (locs : List Loc), oI A L τ cy D s.heap σ_13 H locs → oFr τ fs_X1_isHedgedByTwo ts_X1_isHedgedByTwo σ σ_13 → ∀ (ls : Array Slot), lv_has ls 5 [(0, .ref a0), (1, .int a1), (2, .int a2), (3, .int j2_3), (4, .int j13_4)] → W p l e ({ frames := 5, cells := 0, slots := 0, locals := 129 } : Room) s m args below meth c H locs 0 0 Q (F0 m 13 ls []) := by
          intro n
          induction n with
          | zero => intro j13_4 ij13_4 hn_13  σ_13 H locs hw fr   ls hl; exact absurd hn_13 (Nat.not_lt_zero _)
          | succ n ih_13 =>
            intro j13_4 ij13_4 hn_13  σ_13 H locs hw fr   ls hl
            refine lv_iload hx hb dX1_isHedgedByTwo_13 (lv_at hl 4 rfl) ?_
            refine lv_bipush (v := 64) hx hb dX1_isHedgedByTwo_15 (by decide) ?_
            refine lv_icmp_ge (tgt := 107) hx hb dX1_isHedgedByTwo_17 (by decide) (fun c5 => ?_) (fun c5 => ?_)
            · --
              have i6 : Iv j13_4 64 64 := iv_le2 c5 (⟨by decide, by decide⟩ : Iv 64 64 64) ij13_4 (by decide)
              obtain ⟨v7, e7⟩ : ∃ y : Int32, y = j2_3 + 1 := ⟨_, rfl⟩
              have i7 : Iv v7 1 64 := iv_add e7 i3 (⟨by decide, by decide⟩ : Iv 1 1 1) (by decide)
              have x7 : v7.toInt = j2_3.toInt + 1 := ex_add e7 i3 (⟨by decide, by decide⟩ : Iv 1 1 1) (by decide)
              refine lv_iinc (v := v7) (lv' := [(3, .int v7), (0, .ref a0), (1, .int a1), (2, .int a2), (4, .int j13_4)]) hx hb dX1_isHedgedByTwo_107 hl (k := 3) rfl (by rw [e7]; rfl) (by decide) rfl (fun ls hl => ?_)
              refine lv_goto (tgt := 2) hx hb dX1_isHedgedByTwo_110 (by decide) ?_
              exact ih_2 v7 (iv_w i7 (by decide)) (ms_up x7 (by decide) (iv_w (a' := 0) (b' := 64) i7 (by decide)).2 hn_2) σ_13 _ _ hw fr _ (lv_sub hl [1, 2, 3, 0] rfl)
            · --
              have i8 : Iv j13_4 1 63 := iv_lt1 (iv_nle c5) ij13_4 (⟨by decide, by decide⟩ : Iv 64 64 64) (by decide)
              refine lv_aload_n hx hb dX1_isHedgedByTwo_20 rfl (lv_at hl 0 rfl) ?_
              refine g_5 cx hw ha0 k_f_X1_22 dX1_isHedgedByTwo_21 (fun v9 e9 h9 => ?_)
              refine lv_iload_n hx hb dX1_isHedgedByTwo_24 rfl (lv_at hl 3 rfl) ?_
              refine o_lald cx hw h9 (by decide) rfl (iv_in i3 (by decide)) dX1_isHedgedByTwo_25 (fun v10 e10 => ?_)
              refine lv_iload hx hb dX1_isHedgedByTwo_26 (lv_at hl 4 rfl) ?_
              refine o_ci hw (oRunS cx hA hw q_X0_has k_m_X1_79 (As := [.long v10, .int j13_4]) (c_X0_has v10 j13_4) (by decide) rfl hl.1 rfl (Nat.le_of_ble_eq_true rfl) dX1_isHedgedByTwo_28 (by decide)) (fun v12 σ11 H locs hp hw => ?_)
              obtain ⟨p12_0, p12_1, p12_2⟩ := hp
              rw [p12_0] at hw
              have J_101 : ∀ (σ_101 : oSt) (H : Heap) (locs : List Loc), oI A L τ cy D s.heap σ_101 H locs → oFr τ fs_X1_isHedgedByTwo ts_X1_isHedgedByTwo σ σ_101 → ∀ (ls : Array Slot), lv_has ls 5 [(0, .ref a0), (1, .int a1), (2, .int a2), (3, .int j2_3), (4, .int j13_4)] → W p l e ({ frames := 5, cells := 0, slots := 0, locals := 129 } : Room) s m args below meth c H locs 0 0 Q (F0 m 101 ls []) := by
                intro    σ_101 H locs hw fr   ls hl
                obtain ⟨v13, e13⟩ : ∃ y : Int32, y = j13_4 + 1 := ⟨_, rfl⟩
                have i13 : Iv v13 2 64 := iv_add e13 i8 (⟨by decide, by decide⟩ : Iv 1 1 1) (by decide)
                have x13 : v13.toInt = j13_4.toInt + 1 := ex_add e13 i8 (⟨by decide, by decide⟩ : Iv 1 1 1) (by decide)
                refine lv_iinc (v := v13) (lv' := [(4, .int v13), (0, .ref a0), (1, .int a1), (2, .int a2), (3, .int j2_3)]) hx hb dX1_isHedgedByTwo_101 hl (k := 4) rfl (by rw [e13]; rfl) (by decide) rfl (fun ls hl => ?_)
                refine lv_goto (tgt := 13) hx hb dX1_isHedgedByTwo_104 (by decide) ?_
                exact ih_13 v13 (iv_w i13 (by decide)) (ms_up x13 (by decide) (iv_w (a' := 1) (b' := 64) i13 (by decide)).2 hn_13) σ_101 _ _ hw fr _ (lv_sub hl [1, 2, 3, 4, 0] rfl)
              refine lv_if_eq (tgt := 101) hx hb dX1_isHedgedByTwo_31 (by decide) (fun c14 => ?_) (fun c14 => ?_)
              · --
                have i15 : Iv v12 0 0 := iv_eq1 c14 p12_1 (⟨by decide, by decide⟩ : Iv 0 0 0) (by decide)
                exact J_101 σ_13 _ _ hw fr _ (lv_sub hl [0, 1, 2, 3, 4] rfl)
              · --
                have i16 : Iv v12 1 1 := iv_ne1 c14 p12_1 (⟨by decide, by decide⟩ : Iv 0 0 0) (by decide)
                have i17 : Iv j13_4 0 63 := p12_2 c14
                refine lv_aload_n hx hb dX1_isHedgedByTwo_34 rfl (lv_at hl 0 rfl) ?_
                refine g_5 cx hw ha0 k_f_X1_22 dX1_isHedgedByTwo_35 (fun v18 e18 h18 => ?_)
                rw [show v18 = v9 from Option.some.inj (e18.symm.trans (e9))]
                refine lv_iload hx hb dX1_isHedgedByTwo_38 (lv_at hl 4 rfl) ?_
                refine o_lald cx hw h9 (by decide) rfl (iv_in i8 (by decide)) dX1_isHedgedByTwo_40 (fun v19 e19 => ?_)
                refine lv_iload_n hx hb dX1_isHedgedByTwo_41 rfl (lv_at hl 3 rfl) ?_
                refine o_ci hw (oRunS cx hA hw q_X0_has k_m_X1_79 (As := [.long v19, .int j2_3]) (c_X0_has v19 j2_3) (by decide) rfl hl.1 rfl (Nat.le_of_ble_eq_true rfl) dX1_isHedgedByTwo_42 (by decide)) (fun v21 σ20 H locs hp hw => ?_)
                obtain ⟨p21_0, p21_1, p21_2⟩ := hp
                rw [p21_0] at hw
                refine lv_if_eq (tgt := 101) hx hb dX1_isHedgedByTwo_45 (by decide) (fun c22 => ?_) (fun c22 => ?_)
                · --
                  have i23 : Iv v21 0 0 := iv_eq1 c22 p21_1 (⟨by decide, by decide⟩ : Iv 0 0 0) (by decide)
                  exact J_101 σ_13 _ _ hw fr _ (lv_sub hl [0, 1, 2, 3, 4] rfl)
                · --
                  have i24 : Iv v21 1 1 := iv_ne1 c22 p21_1 (⟨by decide, by decide⟩ : Iv 0 0 0) (by decide)
                  have i25 : Iv j2_3 0 63 := p21_2 c22
                  refine lv_aload_n hx hb dX1_isHedgedByTwo_48 rfl (lv_at hl 0 rfl) ?_
                  refine g_1 cx hw ha0 k_f_X1_29 dX1_isHedgedByTwo_49 (fun v26 e26 h26 => ?_)
                  refine lv_iload_n hx hb dX1_isHedgedByTwo_52 rfl (lv_at hl 3 rfl) ?_
                  refine o_ci hw (oRunV cx hA hw q_X2_isPlain k_m_X1_85 rfl h26 (by decide) (As := [.int j2_3]) (c_X2_isPlain v26 h26 j2_3) (by decide) rfl hl.1 rfl (Nat.le_of_ble_eq_true rfl) dX1_isHedgedByTwo_53 (by decide)) (fun v28 σ27 H locs hp hw => ?_)
                  obtain ⟨p28_0, p28_1, p28_2⟩ := hp
                  rw [p28_0] at hw
                  refine lv_if_eq (tgt := 101) hx hb dX1_isHedgedByTwo_56 (by decide) (fun c29 => ?_) (fun c29 => ?_)
                  · --
                    have i30 : Iv v28 0 0 := iv_eq1 c29 p28_1 (⟨by decide, by decide⟩ : Iv 0 0 0) (by decide)
                    exact J_101 σ_13 _ _ hw fr _ (lv_sub hl [0, 1, 2, 3, 4] rfl)
                  · --
                    have i31 : Iv v28 1 1 := iv_ne1 c29 p28_1 (⟨by decide, by decide⟩ : Iv 0 0 0) (by decide)
                    have i32 : Iv j2_3 0 63 := p28_2 c29
                    refine lv_aload_n hx hb dX1_isHedgedByTwo_59 rfl (lv_at hl 0 rfl) ?_
                    refine g_1 cx hw ha0 k_f_X1_29 dX1_isHedgedByTwo_60 (fun v33 e33 h33 => ?_)
                    rw [show v33 = v26 from Option.some.inj (e33.symm.trans (e26))]
                    refine lv_iload hx hb dX1_isHedgedByTwo_63 (lv_at hl 4 rfl) ?_
                    refine o_ci hw (oRunV cx hA hw q_X2_isPlain k_m_X1_85 rfl h26 (by decide) (As := [.int j13_4]) (c_X2_isPlain v26 h26 j13_4) (by decide) rfl hl.1 rfl (Nat.le_of_ble_eq_true rfl) dX1_isHedgedByTwo_65 (by decide)) (fun v35 σ34 H locs hp hw => ?_)
                    obtain ⟨p35_0, p35_1, p35_2⟩ := hp
                    rw [p35_0] at hw
                    refine lv_if_eq (tgt := 101) hx hb dX1_isHedgedByTwo_68 (by decide) (fun c36 => ?_) (fun c36 => ?_)
                    · --
                      have i37 : Iv v35 0 0 := iv_eq1 c36 p35_1 (⟨by decide, by decide⟩ : Iv 0 0 0) (by decide)
                      exact J_101 σ_13 _ _ hw fr _ (lv_sub hl [0, 1, 2, 3, 4] rfl)
                    · --
                      have i38 : Iv v35 1 1 := iv_ne1 c36 p35_1 (⟨by decide, by decide⟩ : Iv 0 0 0) (by decide)
                      have i39 : Iv j13_4 0 63 := p35_2 c36
                      refine lv_aload_n hx hb dX1_isHedgedByTwo_71 rfl (lv_at hl 0 rfl) ?_
                      refine lv_iload_n hx hb dX1_isHedgedByTwo_72 rfl (lv_at hl 3 rfl) ?_
                      refine lv_iload hx hb dX1_isHedgedByTwo_73 (lv_at hl 4 rfl) ?_
                      refine o_cv hw (oRunV cx hA hw q_X1_beginWithThistles k_m_X1_101 rfl ha0 (by decide) (As := [.int j2_3, .int j13_4]) (c_X1_beginWithThistles a0 ha0 j2_3 (iv_w i32 (by decide)) j13_4 (iv_w i8 (by decide))) (by decide) rfl hl.1 rfl (Nat.le_of_ble_eq_true rfl) dX1_isHedgedByTwo_75 (by decide)) (fun σ40 H locs hp hw => ?_)
                      have p41_0 := hp
                      have fr := oFr_tr fr p41_0 (by decide)
                      refine lv_aload_n hx hb dX1_isHedgedByTwo_78 rfl (lv_at hl 0 rfl) ?_
                      refine lv_iload_n hx hb dX1_isHedgedByTwo_79 rfl (lv_at hl 1 rfl) ?_
                      refine lv_iload_n hx hb dX1_isHedgedByTwo_80 rfl (lv_at hl 2 rfl) ?_
                      refine o_ci hw (oRunV cx hA hw q_X1_hourOfComing k_m_X1_94 rfl ha0 (by decide) (As := [.int a1, .int a2]) (c_X1_hourOfComing a0 ha0 a1 a2 (iv_w ia2 (by decide))) (by decide) rfl hl.1 rfl (Nat.le_of_ble_eq_true rfl) dX1_isHedgedByTwo_81 (by decide)) (fun v43 σ42 H locs hp hw => ?_)
                      obtain ⟨p43_0, p43_1⟩ := hp
                      have fr := oFr_tr fr p43_0 (by decide)
                      refine lv_iconst (v := (-1)) hx hb dX1_isHedgedByTwo_84 (by decide) ?_
                      refine lv_icmp_ne (tgt := 101) hx hb dX1_isHedgedByTwo_85 (by decide) (fun c44 => ?_) (fun c44 => ?_)
                      · --
                        have i45 : Iv v43 0 100 := iv_ne1 c44 p43_1 (⟨by decide, by decide⟩ : Iv (-1) (-1) (-1)) (by decide)
                        exact J_101 σ42 _ _ hw fr _ (lv_sub hl [0, 1, 2, 3, 4] rfl)
                      · --
                        have i46 : Iv v43 (-1) (-1) := iv_eq1 c44 p43_1 (⟨by decide, by decide⟩ : Iv (-1) (-1) (-1)) (by decide)
                        refine lv_aload_n hx hb dX1_isHedgedByTwo_88 rfl (lv_at hl 0 rfl) ?_
                        refine lv_iload_n hx hb dX1_isHedgedByTwo_89 rfl (lv_at hl 3 rfl) ?_
                        refine p_6 cx hw ha0 k_f_X1_98 dX1_isHedgedByTwo_90 (fun σ47 H locs eσ47 hw => ?_)
                        have fr := oFr_i fr eσ47 (by decide)
                        refine lv_aload_n hx hb dX1_isHedgedByTwo_93 rfl (lv_at hl 0 rfl) ?_
                        refine lv_iload hx hb dX1_isHedgedByTwo_94 (lv_at hl 4 rfl) ?_
                        refine p_7 cx hw ha0 k_f_X1_105 dX1_isHedgedByTwo_96 (fun σ48 H locs eσ48 hw => ?_)
                        have fr := oFr_i fr eσ48 (by decide)
                        refine lv_iconst (v := 1) hx hb dX1_isHedgedByTwo_99 (by decide) ?_
                        rw [← hQ]
                        exact o_rz cx rx hw (iv_nz01 (iv_w (⟨by decide, by decide⟩ : Iv 1 1 1) (by decide))) dX1_isHedgedByTwo_100 ⟨fr, (iv_w (⟨by decide, by decide⟩ : Iv 1 1 1) (by decide))⟩
        exact J_13 _ v4 i4 (Nat.lt_succ_self _) σ_2 _ _ hw fr _ (lv_sub hl [1, 2, 3, 4, 0] rfl)
  exact J_2 _ 0 (iv_w (⟨by decide, by decide⟩ : Iv 0 0 0) (by decide)) (Nat.lt_succ_self _) σ _ _ hw fr _ (lv_sub hl [1, 2, 3, 0] rfl)
abbrev fs_X10_hedge : List Nat := [6, 7, 193, 327, 328, 329, 330, 331, 517]
abbrev ts_X10_hedge : List Nat := [32, 33, 34, 36, 37, 38, 39]
set_option maxHeartbeats 4000000 in
set_option maxRecDepth 100000 in
theorem c_X10_hedge (a0 : Nat) (ha0 : oA L τ a0 9) (a1 : Int32) (a2 : Int32) : oMet l A L τ cy D K yX10_hedge cX10_hedge 3 (some .int) 8 195 [.ref a0, .int a1, .int a2] σ (va_Qi (fun r σ1 => oFr τ fs_X10_hedge ts_X10_hedge σ σ1 ∧ Iv r (-2) 2) (oPo A L τ cy D) A) := by
  refine oMk (by decide) (Nat.le_of_ble_eq_true rfl) rfl ?_
  intro p e s m args below meth c ls cx rx hA hw hl
  generalize hQ : MQ below _ args s 0 0 A = Q
  have hx := cx.1.1
  have hb := cx.1.2.1
  have hml := cx.1.2.2.1
  have hown := cx.1.2.2.2.1
  have hts := cx.1.2.2.2.2
  have hl : lv_has ls 3 [(0, .ref a0), (1, .int a1), (2, .int a2)] := hl
  have fr : oFr τ fs_X10_hedge ts_X10_hedge σ σ := oFr_rf
  refine lv_aload_n hx hb dX10_hedge_0 rfl (lv_at hl 0 rfl) ?_
  refine g_578 cx hw ha0 k_f_X10_26 dX10_hedge_1 (fun v1 e1 h1 => ?_)
  refine lv_iload_n hx hb dX10_hedge_4 rfl (lv_at hl 1 rfl) ?_
  refine o_ci hw (oRunV cx hA hw q_X2_isThere k_m_X10_135 rfl h1 (by decide) (As := [.int a1]) (c_X2_isThere v1 h1 a1) (by decide) rfl hl.1 rfl (Nat.le_of_ble_eq_true rfl) dX10_hedge_5 (by decide)) (fun v3 σ2 H locs hp hw => ?_)
  obtain ⟨p3_0, p3_1, p3_2⟩ := hp
  rw [p3_0] at hw
  refine lv_if_eq (tgt := 22) hx hb dX10_hedge_8 (by decide) (fun c4 => ?_) (fun c4 => ?_)
  · --
    have i5 : Iv v3 0 0 := iv_eq1 c4 p3_1 (⟨by decide, by decide⟩ : Iv 0 0 0) (by decide)
    refine lv_iconst (v := (-1)) hx hb dX10_hedge_22 (by decide) ?_
    rw [← hQ]
    exact o_ri cx rx hw dX10_hedge_23 ⟨fr, (iv_w (⟨by decide, by decide⟩ : Iv (-1) (-1) (-1)) (by decide))⟩
  · --
    have i6 : Iv v3 1 1 := iv_ne1 c4 p3_1 (⟨by decide, by decide⟩ : Iv 0 0 0) (by decide)
    have i7 : Iv a1 0 63 := p3_2 c4
    refine lv_iload_n hx hb dX10_hedge_11 rfl (lv_at hl 2 rfl) ?_
    refine lv_iconst (v := 1) hx hb dX10_hedge_12 (by decide) ?_
    refine lv_icmp_lt (tgt := 22) hx hb dX10_hedge_13 (by decide) (fun c8 => ?_) (fun c8 => ?_)
    · --
      have i9 : Iv a2 (-2147483648) 0 := iv_lt1 c8 (iv_top a2) (⟨by decide, by decide⟩ : Iv 1 1 1) (by decide)
      refine lv_iconst (v := (-1)) hx hb dX10_hedge_22 (by decide) ?_
      rw [← hQ]
      exact o_ri cx rx hw dX10_hedge_23 ⟨fr, (iv_w (⟨by decide, by decide⟩ : Iv (-1) (-1) (-1)) (by decide))⟩
    · --
      have i10 : Iv a2 1 2147483647 := iv_le2 (iv_nlt c8) (⟨by decide, by decide⟩ : Iv 1 1 1) (iv_top a2) (by decide)
      refine lv_iload_n hx hb dX10_hedge_16 rfl (lv_at hl 2 rfl) ?_
      refine lv_bipush (v := 100) hx hb dX10_hedge_17 (by decide) ?_
      refine lv_icmp_le (tgt := 24) hx hb dX10_hedge_19 (by decide) (fun c11 => ?_) (fun c11 => ?_)
      · --
        have i12 : Iv a2 1 100 := iv_le1 c11 i10 (⟨by decide, by decide⟩ : Iv 100 100 100) (by decide)
        refine lv_aload_n hx hb dX10_hedge_24 rfl (lv_at hl 0 rfl) ?_
        refine g_583 cx hw ha0 k_f_X10_61 dX10_hedge_25 (fun v13 e13 h13 => ?_)
        refine o_cr hw (oRunV cx hA hw q_X1_begin k_m_X10_377 rfl h13 (by decide) (As := []) (c_X1_begin v13 h13) (by decide) rfl hl.1 rfl (Nat.le_of_ble_eq_true rfl) dX10_hedge_28 (by decide)) (fun v15 σ14 H locs hp hw => ?_)
        obtain ⟨p15_0, p15_1⟩ := hp
        have fr := oFr_tr fr p15_0 (by decide)
        refine lv_pop hx hb dX10_hedge_31 rfl ?_
        refine lv_aload_n hx hb dX10_hedge_32 rfl (lv_at hl 0 rfl) ?_
        refine g_583 cx hw ha0 k_f_X10_61 dX10_hedge_33 (fun v16 e16 h16 => ?_)
        rw [show v16 = v13 from Option.some.inj (e16.symm.trans (((kr_c p15_0 (by decide)).trans e13)))]
        refine lv_iload_n hx hb dX10_hedge_36 rfl (lv_at hl 1 rfl) ?_
        refine lv_iload_n hx hb dX10_hedge_37 rfl (lv_at hl 2 rfl) ?_
        refine o_ci hw (oRunV cx hA hw q_X1_hourOfComing k_m_X10_380 rfl h13 (by decide) (As := [.int a1, .int a2]) (c_X1_hourOfComing v13 h13 a1 a2 (iv_w i12 (by decide))) (by decide) rfl hl.1 rfl (Nat.le_of_ble_eq_true rfl) dX10_hedge_38 (by decide)) (fun v18 σ17 H locs hp hw => ?_)
        obtain ⟨p18_0, p18_1⟩ := hp
        have fr := oFr_tr fr p18_0 (by decide)
        refine lv_iconst (v := (-1)) hx hb dX10_hedge_41 (by decide) ?_
        refine lv_icmp_ne (tgt := 54) hx hb dX10_hedge_42 (by decide) (fun c19 => ?_) (fun c19 => ?_)
        · --
          have i20 : Iv v18 0 100 := iv_ne1 c19 p18_1 (⟨by decide, by decide⟩ : Iv (-1) (-1) (-1)) (by decide)
          refine lv_aload_n hx hb dX10_hedge_54 rfl (lv_at hl 0 rfl) ?_
          refine g_583 cx hw ha0 k_f_X10_61 dX10_hedge_55 (fun v21 e21 h21 => ?_)
          rw [show v21 = v13 from Option.some.inj (e21.symm.trans (((kr_c p18_0 (by decide)).trans ((kr_c p15_0 (by decide)).trans e13))))]
          refine lv_iload_n hx hb dX10_hedge_58 rfl (lv_at hl 1 rfl) ?_
          refine lv_iload_n hx hb dX10_hedge_59 rfl (lv_at hl 2 rfl) ?_
          refine o_ci hw (oRunV cx hA hw q_X1_isHedgedByOne k_m_X10_401 rfl h13 (by decide) (As := [.int a1, .int a2]) (c_X1_isHedgedByOne v13 h13 a1 a2 (iv_w i12 (by decide))) (by decide) rfl hl.1 rfl (Nat.le_of_ble_eq_true rfl) dX10_hedge_60 (by decide)) (fun v23 σ22 H locs hp hw => ?_)
          obtain ⟨p23_0, p23_1⟩ := hp
          have fr := oFr_tr fr p23_0 (by decide)
          refine lv_if_eq (tgt := 90) hx hb dX10_hedge_63 (by decide) (fun c24 => ?_) (fun c24 => ?_)
          · --
            have i25 : Iv v23 0 0 := iv_eq1 c24 p23_1 (⟨by decide, by decide⟩ : Iv 0 0 0) (by decide)
            refine lv_aload_n hx hb dX10_hedge_90 rfl (lv_at hl 0 rfl) ?_
            refine g_583 cx hw ha0 k_f_X10_61 dX10_hedge_91 (fun v26 e26 h26 => ?_)
            rw [show v26 = v13 from Option.some.inj (e26.symm.trans (((kr_c p23_0 (by decide)).trans ((kr_c p18_0 (by decide)).trans ((kr_c p15_0 (by decide)).trans e13)))))]
            refine lv_iload_n hx hb dX10_hedge_94 rfl (lv_at hl 1 rfl) ?_
            refine lv_iload_n hx hb dX10_hedge_95 rfl (lv_at hl 2 rfl) ?_
            refine o_ci hw (oRunV cx hA hw q_X1_isHedgedByTwo k_m_X10_404 rfl h13 (by decide) (As := [.int a1, .int a2]) (c_X1_isHedgedByTwo v13 h13 a1 a2 (iv_w i12 (by decide))) (by decide) rfl hl.1 rfl (Nat.le_of_ble_eq_true rfl) dX10_hedge_96 (by decide)) (fun v28 σ27 H locs hp hw => ?_)
            obtain ⟨p28_0, p28_1⟩ := hp
            have fr := oFr_tr fr p28_0 (by decide)
            refine lv_if_eq (tgt := 141) hx hb dX10_hedge_99 (by decide) (fun c29 => ?_) (fun c29 => ?_)
            · --
              have i30 : Iv v28 0 0 := iv_eq1 c29 p28_1 (⟨by decide, by decide⟩ : Iv 0 0 0) (by decide)
              refine lv_bipush (v := (-2)) hx hb dX10_hedge_141 (by decide) ?_
              rw [← hQ]
              exact o_ri cx rx hw dX10_hedge_143 ⟨fr, (iv_w (⟨by decide, by decide⟩ : Iv (-2) (-2) (-2)) (by decide))⟩
            · --
              have i31 : Iv v28 1 1 := iv_ne1 c29 p28_1 (⟨by decide, by decide⟩ : Iv 0 0 0) (by decide)
              refine lv_aload_n hx hb dX10_hedge_102 rfl (lv_at hl 0 rfl) ?_
              refine g_577 cx hw ha0 k_f_X10_19 dX10_hedge_103 (fun v32 e32 h32 => ?_)
              refine o_cv hw (oRunV cx hA hw q_X4_start k_m_X10_292 rfl h32 (by decide) (As := []) (c_X4_start v32 h32) (by decide) rfl hl.1 rfl (Nat.le_of_ble_eq_true rfl) dX10_hedge_106 (by decide)) (fun σ33 H locs hp hw => ?_)
              have p34_0 := hp
              have fr := oFr_tr fr p34_0 (by decide)
              refine lv_aload_n hx hb dX10_hedge_109 rfl (lv_at hl 0 rfl) ?_
              refine g_577 cx hw ha0 k_f_X10_19 dX10_hedge_110 (fun v35 e35 h35 => ?_)
              rw [show v35 = v32 from Option.some.inj (e35.symm.trans (((kr_c p34_0 (by decide)).trans e32)))]
              refine lv_aload_n hx hb dX10_hedge_113 rfl (lv_at hl 0 rfl) ?_
              refine g_583 cx hw ha0 k_f_X10_61 dX10_hedge_114 (fun v36 e36 h36 => ?_)
              rw [show v36 = v13 from Option.some.inj (e36.symm.trans (((kr_c p34_0 (by decide)).trans ((kr_c p28_0 (by decide)).trans ((kr_c p23_0 (by decide)).trans ((kr_c p18_0 (by decide)).trans ((kr_c p15_0 (by decide)).trans e13)))))))]
              refine g_6 cx hw h13 k_f_X10_398 dX10_hedge_117 (fun v37 e37 => ?_)
              refine lv_i2l hx hb dX10_hedge_120 rfl ?_
              refine lv_topl (fun v38 e38 => ?_)
              refine o_cv hw (oRunV cx hA hw q_X4_put k_m_X10_295 rfl h32 (by decide) (As := [.long v38]) (c_X4_put v32 h32 v38) (by decide) rfl hl.1 rfl (Nat.le_of_ble_eq_true rfl) dX10_hedge_121 (by decide)) (fun σ39 H locs hp hw => ?_)
              have p40_0 := hp
              have fr := oFr_tr fr p40_0 (by decide)
              refine lv_aload_n hx hb dX10_hedge_124 rfl (lv_at hl 0 rfl) ?_
              refine g_577 cx hw ha0 k_f_X10_19 dX10_hedge_125 (fun v41 e41 h41 => ?_)
              rw [show v41 = v32 from Option.some.inj (e41.symm.trans (((kr_c p40_0 (by decide)).trans ((kr_c p34_0 (by decide)).trans e32))))]
              refine lv_aload_n hx hb dX10_hedge_128 rfl (lv_at hl 0 rfl) ?_
              refine g_583 cx hw ha0 k_f_X10_61 dX10_hedge_129 (fun v42 e42 h42 => ?_)
              rw [show v42 = v13 from Option.some.inj (e42.symm.trans (((kr_c p40_0 (by decide)).trans ((kr_c p34_0 (by decide)).trans ((kr_c p28_0 (by decide)).trans ((kr_c p23_0 (by decide)).trans ((kr_c p18_0 (by decide)).trans ((kr_c p15_0 (by decide)).trans e13))))))))]
              refine g_7 cx hw h13 k_f_X10_407 dX10_hedge_132 (fun v43 e43 => ?_)
              refine lv_i2l hx hb dX10_hedge_135 rfl ?_
              refine lv_topl (fun v44 e44 => ?_)
              refine o_cv hw (oRunV cx hA hw q_X4_put k_m_X10_295 rfl h32 (by decide) (As := [.long v44]) (c_X4_put v32 h32 v44) (by decide) rfl hl.1 rfl (Nat.le_of_ble_eq_true rfl) dX10_hedge_136 (by decide)) (fun σ45 H locs hp hw => ?_)
              have p46_0 := hp
              have fr := oFr_tr fr p46_0 (by decide)
              refine lv_iconst (v := 2) hx hb dX10_hedge_139 (by decide) ?_
              rw [← hQ]
              exact o_ri cx rx hw dX10_hedge_140 ⟨fr, (iv_w (⟨by decide, by decide⟩ : Iv 2 2 2) (by decide))⟩
          · --
            have i47 : Iv v23 1 1 := iv_ne1 c24 p23_1 (⟨by decide, by decide⟩ : Iv 0 0 0) (by decide)
            refine lv_aload_n hx hb dX10_hedge_66 rfl (lv_at hl 0 rfl) ?_
            refine g_577 cx hw ha0 k_f_X10_19 dX10_hedge_67 (fun v48 e48 h48 => ?_)
            refine o_cv hw (oRunV cx hA hw q_X4_start k_m_X10_292 rfl h48 (by decide) (As := []) (c_X4_start v48 h48) (by decide) rfl hl.1 rfl (Nat.le_of_ble_eq_true rfl) dX10_hedge_70 (by decide)) (fun σ49 H locs hp hw => ?_)
            have p50_0 := hp
            have fr := oFr_tr fr p50_0 (by decide)
            refine lv_aload_n hx hb dX10_hedge_73 rfl (lv_at hl 0 rfl) ?_
            refine g_577 cx hw ha0 k_f_X10_19 dX10_hedge_74 (fun v51 e51 h51 => ?_)
            rw [show v51 = v48 from Option.some.inj (e51.symm.trans (((kr_c p50_0 (by decide)).trans e48)))]
            refine lv_aload_n hx hb dX10_hedge_77 rfl (lv_at hl 0 rfl) ?_
            refine g_583 cx hw ha0 k_f_X10_61 dX10_hedge_78 (fun v52 e52 h52 => ?_)
            rw [show v52 = v13 from Option.some.inj (e52.symm.trans (((kr_c p50_0 (by decide)).trans ((kr_c p23_0 (by decide)).trans ((kr_c p18_0 (by decide)).trans ((kr_c p15_0 (by decide)).trans e13))))))]
            refine g_6 cx hw h13 k_f_X10_398 dX10_hedge_81 (fun v53 e53 => ?_)
            refine lv_i2l hx hb dX10_hedge_84 rfl ?_
            refine lv_topl (fun v54 e54 => ?_)
            refine o_cv hw (oRunV cx hA hw q_X4_put k_m_X10_295 rfl h48 (by decide) (As := [.long v54]) (c_X4_put v48 h48 v54) (by decide) rfl hl.1 rfl (Nat.le_of_ble_eq_true rfl) dX10_hedge_85 (by decide)) (fun σ55 H locs hp hw => ?_)
            have p56_0 := hp
            have fr := oFr_tr fr p56_0 (by decide)
            refine lv_iconst (v := 1) hx hb dX10_hedge_88 (by decide) ?_
            rw [← hQ]
            exact o_ri cx rx hw dX10_hedge_89 ⟨fr, (iv_w (⟨by decide, by decide⟩ : Iv 1 1 1) (by decide))⟩
        · --
          have i57 : Iv v18 (-1) (-1) := iv_eq1 c19 p18_1 (⟨by decide, by decide⟩ : Iv (-1) (-1) (-1)) (by decide)
          refine lv_aload_n hx hb dX10_hedge_45 rfl (lv_at hl 0 rfl) ?_
          refine g_577 cx hw ha0 k_f_X10_19 dX10_hedge_46 (fun v58 e58 h58 => ?_)
          refine o_cv hw (oRunV cx hA hw q_X4_start k_m_X10_292 rfl h58 (by decide) (As := []) (c_X4_start v58 h58) (by decide) rfl hl.1 rfl (Nat.le_of_ble_eq_true rfl) dX10_hedge_49 (by decide)) (fun σ59 H locs hp hw => ?_)
          have p60_0 := hp
          have fr := oFr_tr fr p60_0 (by decide)
          refine lv_iconst (v := 0) hx hb dX10_hedge_52 (by decide) ?_
          rw [← hQ]
          exact o_ri cx rx hw dX10_hedge_53 ⟨fr, (iv_w (⟨by decide, by decide⟩ : Iv 0 0 0) (by decide))⟩
      · --
        have i61 : Iv a2 101 2147483647 := iv_lt2 (iv_nle c11) (⟨by decide, by decide⟩ : Iv 100 100 100) i10 (by decide)
        refine lv_iconst (v := (-1)) hx hb dX10_hedge_22 (by decide) ?_
        rw [← hQ]
        exact o_ri cx rx hw dX10_hedge_23 ⟨fr, (iv_w (⟨by decide, by decide⟩ : Iv (-1) (-1) (-1)) (by decide))⟩
set_option maxHeartbeats 4000000 in
set_option maxRecDepth 100000 in
theorem c_X2_gatesIn (a0 : Nat) (ha0 : oA L τ a0 1) (a1 : Int64) : oMet l A L τ cy D K yX2_gatesIn cX2_gatesIn 5 (some .int) 1 22 [.ref a0, .long a1] σ (va_Qi (fun r σ1 => σ1 = σ ∧ Iv r 0 63) (oPo A L τ cy D) A) := by
  refine oMk (by decide) (Nat.le_of_ble_eq_true rfl) rfl ?_
  intro p e s m args below meth c ls cx rx hA hw hl
  generalize hQ : MQ below _ args s 0 0 A = Q
  have hx := cx.1.1
  have hb := cx.1.2.1
  have hml := cx.1.2.2.1
  have hown := cx.1.2.2.2.1
  have hts := cx.1.2.2.2.2
  have hl : lv_has ls 5 [(0, .ref a0), (1, .long a1)] := hl
  refine lv_iconst (v := 0) hx hb dX2_gatesIn_0 (by decide) ?_
  refine lv_istore_n (lv' := [(3, .int 0), (0, .ref a0), (1, .long a1)]) hx hb dX2_gatesIn_1 rfl hl (by decide) rfl (fun ls hl => ?_)
  refine lv_iconst (v := 0) hx hb dX2_gatesIn_2 (by decide) ?_
  refine lv_istore (lv' := [(4, .int 0), (3, .int 0), (0, .ref a0), (1, .long a1)]) hx hb dX2_gatesIn_3 hl (by decide) rfl (fun ls hl => ?_)
  have J_5 : ∀ n : Nat, ∀ (j5_3 : Int32) (ij5_3 : Iv j5_3 0 63) (j5_4 : Int32) (ij5_4 : Iv j5_4 0 6), (6 - j5_4.toInt).toNat < n → ∀ (H : Heap) (locs : List Loc), oI A L τ cy D s.heap σ H locs → ∀ (ls : Array Slot), lv_has ls 5 [(0, .ref a0), (1, .long a1), (3, .int j5_3), (4, .int j5_4)] → W p l e ({ frames := 1, cells := 0, slots := 0, locals := 22 } : Room) s m args below meth c H locs 0 0 Q (F0 m 5 ls []) := by
    intro n
    induction n with
    | zero => intro j5_3 ij5_3 j5_4 ij5_4 hn_5  H locs hw  ls hl; exact absurd hn_5 (Nat.not_lt_zero _)
    | succ n ih_5 =>
      intro j5_3 ij5_3 j5_4 ij5_4 hn_5  H locs hw  ls hl
      refine lv_iload hx hb dX2_gatesIn_5 (lv_at hl 3 rfl) ?_
      refine lv_aload_n hx hb dX2_gatesIn_7 rfl (lv_at hl 0 rfl) ?_
      refine g_66 cx hw ha0 k_f_X2_54 dX2_gatesIn_8 (fun v1 e1 i1 => ?_)
      refine lv_icmp_ge (tgt := 41) hx hb dX2_gatesIn_11 (by decide) (fun c2 => ?_) (fun c2 => ?_)
      · --
        refine lv_iload_n hx hb dX2_gatesIn_41 rfl (lv_at hl 2 rfl) ?_
        rw [← hQ]
        exact o_ri cx rx hw dX2_gatesIn_42 ⟨rfl, (iv_w ij5_3 (by decide))⟩
      · --
        have i3 : Iv j5_4 0 5 := iv_lt1 (iv_nle c2) ij5_4 i1 (by decide)
        have i4 : Iv v1 1 6 := iv_lt2 (iv_nle c2) ij5_4 i1 (by decide)
        refine lv_lload_n hx hb dX2_gatesIn_14 rfl (lv_at hl 1 rfl) ?_
        refine lv_aload_n hx hb dX2_gatesIn_15 rfl (lv_at hl 0 rfl) ?_
        refine g_67 cx hw ha0 k_f_X2_9 dX2_gatesIn_16 (fun v5 e5 h5 => ?_)
        refine lv_iload hx hb dX2_gatesIn_19 (lv_at hl 3 rfl) ?_
        refine o_iald cx hw h5 (by decide) rfl (iv_in i3 (by decide)) dX2_gatesIn_21 (fun v6 e6 b6 => ?_)
        refine o_ci hw (oRunS cx hA hw q_X0_has k_m_X2_86 (As := [.long a1, .int v6]) (c_X0_has a1 v6) (by decide) rfl hl.1 rfl (Nat.le_of_ble_eq_true rfl) dX2_gatesIn_22 (by decide)) (fun v8 σ7 H locs hp hw => ?_)
        obtain ⟨p8_0, p8_1, p8_2⟩ := hp
        rw [p8_0] at hw
        have J_35 : ∀ (j35_3 : Int32) (ij35_3 : Iv j35_3 0 63), ∀ (H : Heap) (locs : List Loc), oI A L τ cy D s.heap σ H locs → ∀ (ls : Array Slot), lv_has ls 5 [(0, .ref a0), (1, .long a1), (3, .int j35_3), (4, .int j5_4)] → W p l e ({ frames := 1, cells := 0, slots := 0, locals := 22 } : Room) s m args below meth c H locs 0 0 Q (F0 m 35 ls []) := by
          intro j35_3 ij35_3   H locs hw  ls hl
          obtain ⟨v9, e9⟩ : ∃ y : Int32, y = j5_4 + 1 := ⟨_, rfl⟩
          have i9 : Iv v9 1 6 := iv_add e9 i3 (⟨by decide, by decide⟩ : Iv 1 1 1) (by decide)
          have x9 : v9.toInt = j5_4.toInt + 1 := ex_add e9 i3 (⟨by decide, by decide⟩ : Iv 1 1 1) (by decide)
          refine lv_iinc (v := v9) (lv' := [(4, .int v9), (0, .ref a0), (1, .long a1), (3, .int j35_3)]) hx hb dX2_gatesIn_35 hl (k := 3) rfl (by rw [e9]; rfl) (by decide) rfl (fun ls hl => ?_)
          refine lv_goto (tgt := 5) hx hb dX2_gatesIn_38 (by decide) ?_
          exact ih_5 j35_3 ij35_3 v9 (iv_w i9 (by decide)) (ms_up x9 (by decide) (iv_w (a' := 0) (b' := 6) i9 (by decide)).2 hn_5) _ _ hw _ (lv_sub hl [1, 2, 3, 0] rfl)
        refine lv_if_eq (tgt := 35) hx hb dX2_gatesIn_25 (by decide) (fun c10 => ?_) (fun c10 => ?_)
        · --
          have i11 : Iv v8 0 0 := iv_eq1 c10 p8_1 (⟨by decide, by decide⟩ : Iv 0 0 0) (by decide)
          exact J_35 j5_3 ij5_3 _ _ hw _ (lv_sub hl [0, 1, 2, 3] rfl)
        · --
          have i12 : Iv v8 1 1 := iv_ne1 c10 p8_1 (⟨by decide, by decide⟩ : Iv 0 0 0) (by decide)
          have i13 : Iv v6 0 63 := p8_2 c10
          refine lv_iload_n hx hb dX2_gatesIn_28 rfl (lv_at hl 2 rfl) ?_
          refine lv_iconst (v := 1) hx hb dX2_gatesIn_29 (by decide) ?_
          refine lv_iload hx hb dX2_gatesIn_30 (lv_at hl 3 rfl) ?_
          refine lv_ishl hx hb dX2_gatesIn_32 ?_
          refine lv_topi (fun v14 e14 => ?_)
          have i14 : Iv v14 1 32 := iv_shl1 e14 i3 (by decide)
          refine lv_ior hx hb dX2_gatesIn_33 ?_
          refine lv_topi (fun v15 e15 => ?_)
          have i15 : Iv v15 0 63 := iv_or e15 ij5_3 i14 6 (by decide)
          refine lv_istore_n (lv' := [(3, .int v15), (0, .ref a0), (1, .long a1), (4, .int j5_4)]) hx hb dX2_gatesIn_34 rfl hl (by decide) rfl (fun ls hl => ?_)
          exact J_35 v15 i15 _ _ hw _ (lv_sub hl [1, 2, 0, 3] rfl)
  exact J_5 _ 0 (iv_w (⟨by decide, by decide⟩ : Iv 0 0 0) (by decide)) 0 (iv_w (⟨by decide, by decide⟩ : Iv 0 0 0) (by decide)) (Nat.lt_succ_self _) _ _ hw _ (lv_sub hl [2, 3, 1, 0] rfl)
abbrev fs_X1_isAtWith : List Nat := [327, 328, 329, 330, 331, 517]
abbrev ts_X1_isAtWith : List Nat := [32, 33, 34, 37, 38]
set_option maxHeartbeats 4000000 in
set_option maxRecDepth 100000 in
theorem c_X1_isAtWith (a0 : Nat) (ha0 : oA L τ a0 0) (a1 : Int32) (a2 : Int32) (ia2 : Iv a2 0 5) (a3 : Int32) (a4 : Int32) : oMet l A L τ cy D K yX1_isAtWith cX1_isAtWith 5 (some .boolean) 5 130 [.ref a0, .int a1, .int a2, .int a3, .int a4] σ (va_Qi (fun r σ1 => oFr τ fs_X1_isAtWith ts_X1_isAtWith σ σ1 ∧ Iv r 0 1) (oPo A L τ cy D) A) := by
  refine oMk (by decide) (Nat.le_of_ble_eq_true rfl) rfl ?_
  intro p e s m args below meth c ls cx rx hA hw hl
  generalize hQ : MQ below _ args s 0 0 A = Q
  have hx := cx.1.1
  have hb := cx.1.2.1
  have hml := cx.1.2.2.1
  have hown := cx.1.2.2.2.1
  have hts := cx.1.2.2.2.2
  have hl : lv_has ls 5 [(0, .ref a0), (1, .int a1), (2, .int a2), (3, .int a3), (4, .int a4)] := hl
  have fr : oFr τ fs_X1_isAtWith ts_X1_isAtWith σ σ := oFr_rf
  refine lv_aload_n hx hb dX1_isAtWith_0 rfl (lv_at hl 0 rfl) ?_
  refine o_cr hw (oRunV cx hA hw q_X1_begin k_m_X1_46 rfl ha0 (by decide) (As := []) (c_X1_begin a0 ha0) (by decide) rfl hl.1 rfl (Nat.le_of_ble_eq_true rfl) dX1_isAtWith_1 (by decide)) (fun v2 σ1 H locs hp hw => ?_)
  obtain ⟨p2_0, p2_1⟩ := hp
  have fr := oFr_tr fr p2_0 (by decide)
  refine lv_pop hx hb dX1_isAtWith_4 rfl ?_
  refine lv_aload_n hx hb dX1_isAtWith_5 rfl (lv_at hl 0 rfl) ?_
  refine g_3 cx hw ha0 k_f_X1_12 dX1_isAtWith_6 (fun v3 e3 h3 => ?_)
  refine lv_iload_n hx hb dX1_isAtWith_9 rfl (lv_at hl 1 rfl) ?_
  refine p_330 cx hw h3 k_f_X1_71 dX1_isAtWith_10 (fun σ4 H locs eσ4 hw => ?_)
  have fr := oFr_i fr eσ4 (by decide)
  refine lv_aload_n hx hb dX1_isAtWith_13 rfl (lv_at hl 0 rfl) ?_
  refine g_2 cx hw ha0 k_f_X1_33 dX1_isAtWith_14 (fun v5 e5 h5 => ?_)
  refine lv_aload_n hx hb dX1_isAtWith_17 rfl (lv_at hl 0 rfl) ?_
  refine g_3 cx hw ha0 k_f_X1_12 dX1_isAtWith_18 (fun v6 e6 h6 => ?_)
  rw [show v6 = v3 from Option.some.inj (e6.symm.trans (((kr_i eσ4).trans e3)))]
  refine lv_iload hx hb dX1_isAtWith_21 (lv_at hl 4 rfl) ?_
  refine o_ci hw (oRunV cx hA hw q_X9_passMany k_m_X1_50 rfl h5 (by decide) (As := [.ref v3, .int a4]) (c_X9_passMany v5 h5 v3 h3 a4) (by decide) rfl hl.1 rfl (Nat.le_of_ble_eq_true rfl) dX1_isAtWith_23 (by decide)) (fun v8 σ7 H locs hp hw => ?_)
  have p8_0 := hp
  have fr := oFr_tr fr p8_0 (by decide)
  refine lv_pop hx hb dX1_isAtWith_26 rfl ?_
  refine lv_aload_n hx hb dX1_isAtWith_27 rfl (lv_at hl 0 rfl) ?_
  refine g_3 cx hw ha0 k_f_X1_12 dX1_isAtWith_28 (fun v9 e9 h9 => ?_)
  rw [show v9 = v3 from Option.some.inj (e9.symm.trans (((kr_c p8_0 (by decide)).trans ((kr_i eσ4).trans e3))))]
  refine g_325 cx hw h3 k_f_X1_68 dX1_isAtWith_31 (fun v10 e10 h10 => ?_)
  refine lv_iload_n hx hb dX1_isAtWith_34 rfl (lv_at hl 2 rfl) ?_
  refine o_iald cx hw h10 (by decide) rfl (iv_in ia2 (by decide)) dX1_isAtWith_35 (fun v11 e11 b11 => ?_)
  have i11 : Iv v11 0 63 := b11
  refine lv_iload_n hx hb dX1_isAtWith_36 rfl (lv_at hl 3 rfl) ?_
  refine lv_icmp_ne (tgt := 44) hx hb dX1_isAtWith_37 (by decide) (fun c12 => ?_) (fun c12 => ?_)
  · --
    refine lv_iconst (v := 0) hx hb dX1_isAtWith_44 (by decide) ?_
    rw [← hQ]
    exact o_rz cx rx hw (iv_nz01 (iv_w (⟨by decide, by decide⟩ : Iv 0 0 0) (by decide))) dX1_isAtWith_45 ⟨fr, (iv_w (⟨by decide, by decide⟩ : Iv 0 0 0) (by decide))⟩
  · --
    have i13 : Iv a3 0 63 := iv_eq1 (Eq.symm c12) (iv_top a3) i11 (by decide)
    refine lv_iconst (v := 1) hx hb dX1_isAtWith_40 (by decide) ?_
    refine lv_goto (tgt := 45) hx hb dX1_isAtWith_41 (by decide) ?_
    rw [← hQ]
    exact o_rz cx rx hw (iv_nz01 (iv_w (⟨by decide, by decide⟩ : Iv 1 1 1) (by decide))) dX1_isAtWith_45 ⟨fr, (iv_w (⟨by decide, by decide⟩ : Iv 1 1 1) (by decide))⟩
abbrev fs_X10_gates : List Nat := [193, 327, 328, 329, 330, 331, 517]
abbrev ts_X10_gates : List Nat := [32, 33, 34, 36, 37, 38]
set_option maxHeartbeats 4000000 in
set_option maxRecDepth 100000 in
theorem c_X10_gates (a0 : Nat) (ha0 : oA L τ a0 9) (a1 : Int32) (a2 : Int32) (a3 : Int32) : oMet l A L τ cy D K yX10_gates cX10_gates 10 (some .int) 6 154 [.ref a0, .int a1, .int a2, .int a3] σ (va_Qi (fun r σ1 => oFr τ fs_X10_gates ts_X10_gates σ σ1) (oPo A L τ cy D) A) := by
  refine oMk (by decide) (Nat.le_of_ble_eq_true rfl) rfl ?_
  intro p e s m args below meth c ls cx rx hA hw hl
  generalize hQ : MQ below _ args s 0 0 A = Q
  have hx := cx.1.1
  have hb := cx.1.2.1
  have hml := cx.1.2.2.1
  have hown := cx.1.2.2.2.1
  have hts := cx.1.2.2.2.2
  have hl : lv_has ls 10 [(0, .ref a0), (1, .int a1), (2, .int a2), (3, .int a3)] := hl
  have fr : oFr τ fs_X10_gates ts_X10_gates σ σ := oFr_rf
  refine lv_aload_n hx hb dX10_gates_0 rfl (lv_at hl 0 rfl) ?_
  refine g_581 cx hw ha0 k_f_X10_49 dX10_gates_1 (fun v1 e1 h1 => ?_)
  refine lv_iload_n hx hb dX10_gates_4 rfl (lv_at hl 1 rfl) ?_
  refine o_ci hw (oRunV cx hA hw q_X6_hasHerd k_m_X10_178 rfl h1 (by decide) (As := [.int a1]) (c_X6_hasHerd v1 h1 a1) (by decide) rfl hl.1 rfl (Nat.le_of_ble_eq_true rfl) dX10_gates_5 (by decide)) (fun v3 σ2 H locs hp hw => ?_)
  obtain ⟨p3_0, p3_1, p3_2⟩ := hp
  rw [p3_0] at hw
  refine lv_if_eq (tgt := 33) hx hb dX10_gates_8 (by decide) (fun c4 => ?_) (fun c4 => ?_)
  · --
    have i5 : Iv v3 0 0 := iv_eq1 c4 p3_1 (⟨by decide, by decide⟩ : Iv 0 0 0) (by decide)
    refine lv_iconst (v := (-1)) hx hb dX10_gates_33 (by decide) ?_
    rw [← hQ]
    exact o_ri cx rx hw dX10_gates_34 fr
  · --
    have i6 : Iv v3 1 1 := iv_ne1 c4 p3_1 (⟨by decide, by decide⟩ : Iv 0 0 0) (by decide)
    have i7 : Iv a1 0 5 := p3_2 c4
    refine lv_aload_n hx hb dX10_gates_11 rfl (lv_at hl 0 rfl) ?_
    refine g_578 cx hw ha0 k_f_X10_26 dX10_gates_12 (fun v8 e8 h8 => ?_)
    refine lv_iload_n hx hb dX10_gates_15 rfl (lv_at hl 2 rfl) ?_
    refine o_ci hw (oRunV cx hA hw q_X2_isThere k_m_X10_135 rfl h8 (by decide) (As := [.int a2]) (c_X2_isThere v8 h8 a2) (by decide) rfl hl.1 rfl (Nat.le_of_ble_eq_true rfl) dX10_gates_16 (by decide)) (fun v10 σ9 H locs hp hw => ?_)
    obtain ⟨p10_0, p10_1, p10_2⟩ := hp
    rw [p10_0] at hw
    refine lv_if_eq (tgt := 33) hx hb dX10_gates_19 (by decide) (fun c11 => ?_) (fun c11 => ?_)
    · --
      have i12 : Iv v10 0 0 := iv_eq1 c11 p10_1 (⟨by decide, by decide⟩ : Iv 0 0 0) (by decide)
      refine lv_iconst (v := (-1)) hx hb dX10_gates_33 (by decide) ?_
      rw [← hQ]
      exact o_ri cx rx hw dX10_gates_34 fr
    · --
      have i13 : Iv v10 1 1 := iv_ne1 c11 p10_1 (⟨by decide, by decide⟩ : Iv 0 0 0) (by decide)
      have i14 : Iv a2 0 63 := p10_2 c11
      refine lv_iload_n hx hb dX10_gates_22 rfl (lv_at hl 3 rfl) ?_
      refine lv_iconst (v := 1) hx hb dX10_gates_23 (by decide) ?_
      refine lv_icmp_lt (tgt := 33) hx hb dX10_gates_24 (by decide) (fun c15 => ?_) (fun c15 => ?_)
      · --
        have i16 : Iv a3 (-2147483648) 0 := iv_lt1 c15 (iv_top a3) (⟨by decide, by decide⟩ : Iv 1 1 1) (by decide)
        refine lv_iconst (v := (-1)) hx hb dX10_gates_33 (by decide) ?_
        rw [← hQ]
        exact o_ri cx rx hw dX10_gates_34 fr
      · --
        have i17 : Iv a3 1 2147483647 := iv_le2 (iv_nlt c15) (⟨by decide, by decide⟩ : Iv 1 1 1) (iv_top a3) (by decide)
        refine lv_iload_n hx hb dX10_gates_27 rfl (lv_at hl 3 rfl) ?_
        refine lv_bipush (v := 100) hx hb dX10_gates_28 (by decide) ?_
        refine lv_icmp_le (tgt := 35) hx hb dX10_gates_30 (by decide) (fun c18 => ?_) (fun c18 => ?_)
        · --
          have i19 : Iv a3 1 100 := iv_le1 c18 i17 (⟨by decide, by decide⟩ : Iv 100 100 100) (by decide)
          refine lv_aload_n hx hb dX10_gates_35 rfl (lv_at hl 0 rfl) ?_
          refine g_578 cx hw ha0 k_f_X10_26 dX10_gates_36 (fun v20 e20 h20 => ?_)
          rw [show v20 = v8 from Option.some.inj (e20.symm.trans (e8))]
          refine lv_aload_n hx hb dX10_gates_39 rfl (lv_at hl 0 rfl) ?_
          refine g_581 cx hw ha0 k_f_X10_49 dX10_gates_40 (fun v21 e21 h21 => ?_)
          rw [show v21 = v1 from Option.some.inj (e21.symm.trans (e1))]
          refine o_cl hw (oRunV cx hA hw q_X6_herdCells k_m_X10_410 rfl h1 (by decide) (As := []) (c_X6_herdCells v1 h1) (by decide) rfl hl.1 rfl (Nat.le_of_ble_eq_true rfl) dX10_gates_43 (by decide)) (fun v23 σ22 H locs hp hw => ?_)
          have p23_0 := hp
          rw [p23_0] at hw
          refine o_ci hw (oRunV cx hA hw q_X2_gatesIn k_m_X10_413 rfl h8 (by decide) (As := [.long v23]) (c_X2_gatesIn v8 h8 v23) (by decide) rfl hl.1 rfl (Nat.le_of_ble_eq_true rfl) dX10_gates_46 (by decide)) (fun v25 σ24 H locs hp hw => ?_)
          obtain ⟨p25_0, p25_1⟩ := hp
          rw [p25_0] at hw
          refine lv_istore (lv' := [(4, .int v25), (0, .ref a0), (1, .int a1), (2, .int a2), (3, .int a3)]) hx hb dX10_gates_49 hl (by decide) rfl (fun ls hl => ?_)
          refine lv_iconst (v := 0) hx hb dX10_gates_51 (by decide) ?_
          refine lv_istore (lv' := [(5, .int 0), (4, .int v25), (0, .ref a0), (1, .int a1), (2, .int a2), (3, .int a3)]) hx hb dX10_gates_52 hl (by decide) rfl (fun ls hl => ?_)
          refine lv_iconst (v := (-1)) hx hb dX10_gates_54 (by decide) ?_
          refine lv_istore (lv' := [(6, .int (-1)), (5, .int 0), (4, .int v25), (0, .ref a0), (1, .int a1), (2, .int a2), (3, .int a3)]) hx hb dX10_gates_55 hl (by decide) rfl (fun ls hl => ?_)
          refine lv_iconst (v := (-1)) hx hb dX10_gates_57 (by decide) ?_
          refine lv_istore (lv' := [(7, .int (-1)), (6, .int (-1)), (5, .int 0), (4, .int v25), (0, .ref a0), (1, .int a1), (2, .int a2), (3, .int a3)]) hx hb dX10_gates_58 hl (by decide) rfl (fun ls hl => ?_)
          refine lv_iconst (v := 0) hx hb dX10_gates_60 (by decide) ?_
          refine lv_istore (lv' := [(8, .int 0), (7, .int (-1)), (6, .int (-1)), (5, .int 0), (4, .int v25), (0, .ref a0), (1, .int a1), (2, .int a2), (3, .int a3)]) hx hb dX10_gates_61 hl (by decide) rfl (fun ls hl => ?_)
          have J_63 : ∀ n : Nat, ∀ (j63_5 : Int32) (j63_6 : Int32) (ij63_6 : Iv j63_6 (-1) 2147483647) (j63_7 : Int32) (ij63_7 : Iv j63_7 (-1) 2147483647) (j63_8 : Int32) (ij63_8 : Iv j63_8 0 2147483647), (2147483647 - j63_8.toInt).toNat < n → ∀ (σ_63 : oSt) (H : Heap) (locs : List Loc), oI A L τ cy D s.heap σ_63 H locs → oFr τ fs_X10_gates ts_X10_gates σ σ_63 → ∀ (ls : Array Slot), lv_has ls 10 [(0, .ref a0), (1, .int a1), (2, .int a2), (3, .int a3), (4, .int v25), (5, .int j63_5), (6, .int j63_6), (7, .int j63_7), (8, .int j63_8)] → W p l e ({ frames := 6, cells := 0, slots := 0, locals := 154 } : Room) s m args below meth c H locs 0 0 Q (F0 m 63 ls []) := by
            intro n
            induction n with
            | zero => intro j63_5 j63_6 ij63_6 j63_7 ij63_7 j63_8 ij63_8 hn_63  σ_63 H locs hw fr   ls hl; exact absurd hn_63 (Nat.not_lt_zero _)
            | succ n ih_63 =>
              intro j63_5 j63_6 ij63_6 j63_7 ij63_7 j63_8 ij63_8 hn_63  σ_63 H locs hw fr   ls hl
              refine lv_iload hx hb dX10_gates_63 (lv_at hl 8 rfl) ?_
              refine lv_iconst (v := 1) hx hb dX10_gates_65 (by decide) ?_
              refine lv_aload_n hx hb dX10_gates_66 rfl (lv_at hl 0 rfl) ?_
              refine g_578 cx hw ha0 k_f_X10_26 dX10_gates_67 (fun v26 e26 h26 => ?_)
              refine g_66 cx hw h26 k_f_X10_306 dX10_gates_70 (fun v27 e27 i27 => ?_)
              refine lv_ishl hx hb dX10_gates_73 ?_
              refine lv_topi (fun v28 e28 => ?_)
              refine lv_icmp_ge (tgt := 158) hx hb dX10_gates_74 (by decide) (fun c29 => ?_) (fun c29 => ?_)
              · --
                refine lv_aload_n hx hb dX10_gates_158 rfl (lv_at hl 0 rfl) ?_
                refine g_577 cx hw ha0 k_f_X10_19 dX10_gates_159 (fun v30 e30 h30 => ?_)
                refine o_cv hw (oRunV cx hA hw q_X4_start k_m_X10_292 rfl h30 (by decide) (As := []) (c_X4_start v30 h30) (by decide) rfl hl.1 rfl (Nat.le_of_ble_eq_true rfl) dX10_gates_162 (by decide)) (fun σ31 H locs hp hw => ?_)
                have p32_0 := hp
                have fr := oFr_tr fr p32_0 (by decide)
                refine lv_aload_n hx hb dX10_gates_165 rfl (lv_at hl 0 rfl) ?_
                refine g_577 cx hw ha0 k_f_X10_19 dX10_gates_166 (fun v33 e33 h33 => ?_)
                rw [show v33 = v30 from Option.some.inj (e33.symm.trans (((kr_c p32_0 (by decide)).trans e30)))]
                refine lv_iload hx hb dX10_gates_169 (lv_at hl 6 rfl) ?_
                refine lv_i2l hx hb dX10_gates_171 rfl ?_
                refine lv_topl (fun v34 e34 => ?_)
                refine o_cv hw (oRunV cx hA hw q_X4_put k_m_X10_295 rfl h30 (by decide) (As := [.long v34]) (c_X4_put v30 h30 v34) (by decide) rfl hl.1 rfl (Nat.le_of_ble_eq_true rfl) dX10_gates_172 (by decide)) (fun σ35 H locs hp hw => ?_)
                have p36_0 := hp
                have fr := oFr_tr fr p36_0 (by decide)
                refine lv_aload_n hx hb dX10_gates_175 rfl (lv_at hl 0 rfl) ?_
                refine g_577 cx hw ha0 k_f_X10_19 dX10_gates_176 (fun v37 e37 h37 => ?_)
                rw [show v37 = v30 from Option.some.inj (e37.symm.trans (((kr_c p36_0 (by decide)).trans ((kr_c p32_0 (by decide)).trans e30))))]
                refine lv_iload hx hb dX10_gates_179 (lv_at hl 5 rfl) ?_
                have J_191 : ∀ (k191_1 : Int64), ∀ (σ_191 : oSt) (H : Heap) (locs : List Loc), oI A L τ cy D s.heap σ_191 H locs → oFr τ fs_X10_gates ts_X10_gates σ σ_191 → ∀ (ls : Array Slot), lv_has ls 10 [(0, .ref a0), (1, .int a1), (2, .int a2), (3, .int a3), (4, .int v25), (5, .int j63_5), (6, .int j63_6), (7, .int j63_7), (8, .int j63_8)] → W p l e ({ frames := 6, cells := 0, slots := 0, locals := 154 } : Room) s m args below meth c H locs 0 0 Q (F0 m 191 ls [.long k191_1, .ref v30]) := by
                  intro k191_1   σ_191 H locs hw fr   ls hl
                  refine o_cv hw (oRunV cx hA hw q_X4_put k_m_X10_295 rfl h30 (by decide) (As := [.long k191_1]) (c_X4_put v30 h30 k191_1) (by decide) rfl hl.1 rfl (Nat.le_of_ble_eq_true rfl) dX10_gates_191 (by decide)) (fun σ38 H locs hp hw => ?_)
                  have p39_0 := hp
                  have fr := oFr_tr fr p39_0 (by decide)
                  refine lv_iload hx hb dX10_gates_194 (lv_at hl 5 rfl) ?_
                  rw [← hQ]
                  exact o_ri cx rx hw dX10_gates_196 fr
                refine lv_if_ne (tgt := 188) hx hb dX10_gates_181 (by decide) (fun c40 => ?_) (fun c40 => ?_)
                · --
                  refine lv_iload hx hb dX10_gates_188 (lv_at hl 7 rfl) ?_
                  refine lv_i2l hx hb dX10_gates_190 rfl ?_
                  refine lv_topl (fun v41 e41 => ?_)
                  exact J_191 v41 σ35 _ _ hw fr _ (lv_sub hl [0, 1, 2, 3, 4, 5, 6, 7, 8] rfl)
                · --
                  have i42 : Iv j63_5 0 0 := iv_eq1 c40 (iv_top j63_5) (⟨by decide, by decide⟩ : Iv 0 0 0) (by decide)
                  refine lv_lconst (v := 0) hx hb dX10_gates_184 (by decide) ?_
                  refine lv_goto (tgt := 191) hx hb dX10_gates_185 (by decide) ?_
                  exact J_191 0 σ35 _ _ hw fr _ (lv_sub hl [0, 1, 2, 3, 4, 5, 6, 7, 8] rfl)
              · --
                have i43 : Iv j63_8 0 2147483646 := iv_lt1 (iv_nle c29) ij63_8 (iv_top v28) (by decide)
                have i44 : Iv v28 1 2147483647 := iv_lt2 (iv_nle c29) ij63_8 (iv_top v28) (by decide)
                refine lv_iload hx hb dX10_gates_77 (lv_at hl 8 rfl) ?_
                refine lv_iload hx hb dX10_gates_79 (lv_at hl 4 rfl) ?_
                refine lv_iand hx hb dX10_gates_81 ?_
                refine lv_topi (fun v45 e45 => ?_)
                have i45 : Iv v45 0 63 := iv_and e45 p25_1 (by decide)
                refine lv_iload hx hb dX10_gates_82 (lv_at hl 4 rfl) ?_
                have J_152 : ∀ (j152_5 : Int32) (j152_6 : Int32) (ij152_6 : Iv j152_6 (-1) 2147483647) (j152_7 : Int32) (ij152_7 : Iv j152_7 (-1) 2147483647), ∀ (σ_152 : oSt) (H : Heap) (locs : List Loc), oI A L τ cy D s.heap σ_152 H locs → oFr τ fs_X10_gates ts_X10_gates σ σ_152 → ∀ (ls : Array Slot), lv_has ls 10 [(0, .ref a0), (1, .int a1), (2, .int a2), (3, .int a3), (4, .int v25), (5, .int j152_5), (6, .int j152_6), (7, .int j152_7), (8, .int j63_8)] → W p l e ({ frames := 6, cells := 0, slots := 0, locals := 154 } : Room) s m args below meth c H locs 0 0 Q (F0 m 152 ls []) := by
                  intro j152_5 j152_6 ij152_6 j152_7 ij152_7   σ_152 H locs hw fr   ls hl
                  obtain ⟨v46, e46⟩ : ∃ y : Int32, y = j63_8 + 1 := ⟨_, rfl⟩
                  have i46 : Iv v46 1 2147483647 := iv_add e46 i43 (⟨by decide, by decide⟩ : Iv 1 1 1) (by decide)
                  have x46 : v46.toInt = j63_8.toInt + 1 := ex_add e46 i43 (⟨by decide, by decide⟩ : Iv 1 1 1) (by decide)
                  refine lv_iinc (v := v46) (lv' := [(8, .int v46), (0, .ref a0), (1, .int a1), (2, .int a2), (3, .int a3), (4, .int v25), (5, .int j152_5), (6, .int j152_6), (7, .int j152_7)]) hx hb dX10_gates_152 hl (k := 8) rfl (by rw [e46]; rfl) (by decide) rfl (fun ls hl => ?_)
                  refine lv_goto (tgt := 63) hx hb dX10_gates_155 (by decide) ?_
                  exact ih_63 j152_5 j152_6 ij152_6 j152_7 ij152_7 v46 (iv_w i46 (by decide)) (ms_up x46 (by decide) (iv_w (a' := 0) (b' := 2147483647) i46 (by decide)).2 hn_63) σ_152 _ _ hw fr _ (lv_sub hl [1, 2, 3, 4, 5, 6, 7, 8, 0] rfl)
                refine lv_icmp_ne (tgt := 152) hx hb dX10_gates_84 (by decide) (fun c47 => ?_) (fun c47 => ?_)
                · --
                  exact J_152 j63_5 j63_6 ij63_6 j63_7 ij63_7 σ_63 _ _ hw fr _ (lv_sub hl [0, 1, 2, 3, 4, 5, 6, 7, 8] rfl)
                · --
                  refine lv_aload_n hx hb dX10_gates_87 rfl (lv_at hl 0 rfl) ?_
                  refine g_583 cx hw ha0 k_f_X10_61 dX10_gates_88 (fun v48 e48 h48 => ?_)
                  refine lv_iload hx hb dX10_gates_91 (lv_at hl 8 rfl) ?_
                  refine lv_iload_n hx hb dX10_gates_93 rfl (lv_at hl 1 rfl) ?_
                  refine lv_iload_n hx hb dX10_gates_94 rfl (lv_at hl 2 rfl) ?_
                  refine lv_iload_n hx hb dX10_gates_95 rfl (lv_at hl 3 rfl) ?_
                  refine o_ci hw (oRunV cx hA hw q_X1_isAtWith k_m_X10_416 rfl h48 (by decide) (As := [.int j63_8, .int a1, .int a2, .int a3]) (c_X1_isAtWith v48 h48 j63_8 a1 (iv_w i7 (by decide)) a2 a3) (by decide) rfl hl.1 rfl (Nat.le_of_ble_eq_true rfl) dX10_gates_96 (by decide)) (fun v50 σ49 H locs hp hw => ?_)
                  obtain ⟨p50_0, p50_1⟩ := hp
                  have fr := oFr_tr fr p50_0 (by decide)
                  refine lv_if_eq (tgt := 152) hx hb dX10_gates_99 (by decide) (fun c51 => ?_) (fun c51 => ?_)
                  · --
                    have i52 : Iv v50 0 0 := iv_eq1 c51 p50_1 (⟨by decide, by decide⟩ : Iv 0 0 0) (by decide)
                    exact J_152 j63_5 j63_6 ij63_6 j63_7 ij63_7 σ49 _ _ hw fr _ (lv_sub hl [0, 1, 2, 3, 4, 5, 6, 7, 8] rfl)
                  · --
                    have i53 : Iv v50 1 1 := iv_ne1 c51 p50_1 (⟨by decide, by decide⟩ : Iv 0 0 0) (by decide)
                    obtain ⟨v54, e54⟩ : ∃ y : Int32, y = j63_5 + 1 := ⟨_, rfl⟩
                    refine lv_iinc (v := v54) (lv' := [(5, .int v54), (0, .ref a0), (1, .int a1), (2, .int a2), (3, .int a3), (4, .int v25), (6, .int j63_6), (7, .int j63_7), (8, .int j63_8)]) hx hb dX10_gates_102 hl (k := 5) rfl (by rw [e54]; rfl) (by decide) rfl (fun ls hl => ?_)
                    refine lv_iload hx hb dX10_gates_105 (lv_at hl 7 rfl) ?_
                    refine lv_iload hx hb dX10_gates_107 (lv_at hl 8 rfl) ?_
                    refine lv_iand hx hb dX10_gates_109 ?_
                    refine lv_topi (fun v55 e55 => ?_)
                    have i55 : Iv v55 0 2147483646 := iv_and e55 i43 (by decide)
                    refine lv_istore (lv' := [(7, .int v55), (5, .int v54), (0, .ref a0), (1, .int a1), (2, .int a2), (3, .int a3), (4, .int v25), (6, .int j63_6), (8, .int j63_8)]) hx hb dX10_gates_110 hl (by decide) rfl (fun ls hl => ?_)
                    refine lv_iload hx hb dX10_gates_112 (lv_at hl 1 rfl) ?_
                    refine lv_iconst (v := 1) hx hb dX10_gates_114 (by decide) ?_
                    have J_136 : ∀ (k136_0 : Int32) (ik136_0 : Iv k136_0 0 1), ∀ (σ_136 : oSt) (H : Heap) (locs : List Loc), oI A L τ cy D s.heap σ_136 H locs → oFr τ fs_X10_gates ts_X10_gates σ σ_136 → ∀ (ls : Array Slot), lv_has ls 10 [(0, .ref a0), (1, .int a1), (2, .int a2), (3, .int a3), (4, .int v25), (5, .int v54), (6, .int j63_6), (7, .int v55), (8, .int j63_8)] → W p l e ({ frames := 6, cells := 0, slots := 0, locals := 154 } : Room) s m args below meth c H locs 0 0 Q (F0 m 136 ls [.int k136_0]) := by
                      intro k136_0 ik136_0   σ_136 H locs hw fr   ls hl
                      refine lv_istore (lv' := [(9, .int k136_0), (0, .ref a0), (1, .int a1), (2, .int a2), (3, .int a3), (4, .int v25), (5, .int v54), (6, .int j63_6), (7, .int v55), (8, .int j63_8)]) hx hb dX10_gates_136 hl (by decide) rfl (fun ls hl => ?_)
                      refine lv_iload hx hb dX10_gates_138 (lv_at hl 0 rfl) ?_
                      have J_150 : ∀ (k150_0 : Int32) (ik150_0 : Iv k150_0 (-1) 2147483647), ∀ (σ_150 : oSt) (H : Heap) (locs : List Loc), oI A L τ cy D s.heap σ_150 H locs → oFr τ fs_X10_gates ts_X10_gates σ σ_150 → ∀ (ls : Array Slot), lv_has ls 10 [(0, .ref a0), (1, .int a1), (2, .int a2), (3, .int a3), (4, .int v25), (5, .int v54), (6, .int j63_6), (7, .int v55), (8, .int j63_8), (9, .int k136_0)] → W p l e ({ frames := 6, cells := 0, slots := 0, locals := 154 } : Room) s m args below meth c H locs 0 0 Q (F0 m 150 ls [.int k150_0]) := by
                        intro k150_0 ik150_0   σ_150 H locs hw fr   ls hl
                        refine lv_istore (lv' := [(6, .int k150_0), (0, .ref a0), (1, .int a1), (2, .int a2), (3, .int a3), (4, .int v25), (5, .int v54), (7, .int v55), (8, .int j63_8), (9, .int k136_0)]) hx hb dX10_gates_150 hl (by decide) rfl (fun ls hl => ?_)
                        exact J_152 v54 k150_0 ik150_0 v55 (iv_w i55 (by decide)) σ_150 _ _ hw fr _ (lv_sub hl [1, 2, 3, 4, 5, 6, 0, 7, 8] rfl)
                      refine lv_if_eq (tgt := 148) hx hb dX10_gates_140 (by decide) (fun c56 => ?_) (fun c56 => ?_)
                      · --
                        have i57 : Iv k136_0 0 0 := iv_eq1 c56 ik136_0 (⟨by decide, by decide⟩ : Iv 0 0 0) (by decide)
                        refine lv_iload hx hb dX10_gates_148 (lv_at hl 7 rfl) ?_
                        exact J_150 j63_6 ij63_6 σ_136 _ _ hw fr _ (lv_sub hl [1, 2, 3, 4, 5, 6, 7, 8, 9, 0] rfl)
                      · --
                        have i58 : Iv k136_0 1 1 := iv_ne1 c56 ik136_0 (⟨by decide, by decide⟩ : Iv 0 0 0) (by decide)
                        refine lv_iload hx hb dX10_gates_143 (lv_at hl 9 rfl) ?_
                        refine lv_goto (tgt := 150) hx hb dX10_gates_145 (by decide) ?_
                        exact J_150 j63_8 (iv_w i43 (by decide)) σ_136 _ _ hw fr _ (lv_sub hl [1, 2, 3, 4, 5, 6, 7, 8, 9, 0] rfl)
                    have J_131 : ∀ (σ_131 : oSt) (H : Heap) (locs : List Loc), oI A L τ cy D s.heap σ_131 H locs → oFr τ fs_X10_gates ts_X10_gates σ σ_131 → ∀ (ls : Array Slot), lv_has ls 10 [(0, .ref a0), (1, .int a1), (2, .int a2), (3, .int a3), (4, .int v25), (5, .int v54), (6, .int j63_6), (7, .int v55), (8, .int j63_8)] → W p l e ({ frames := 6, cells := 0, slots := 0, locals := 154 } : Room) s m args below meth c H locs 0 0 Q (F0 m 131 ls []) := by
                      intro    σ_131 H locs hw fr   ls hl
                      refine lv_iconst (v := 1) hx hb dX10_gates_131 (by decide) ?_
                      refine lv_goto (tgt := 136) hx hb dX10_gates_132 (by decide) ?_
                      exact J_136 1 (iv_w (⟨by decide, by decide⟩ : Iv 1 1 1) (by decide)) σ_131 _ _ hw fr _ (lv_sub hl [0, 1, 2, 3, 4, 5, 6, 7, 8] rfl)
                    refine lv_icmp_eq (tgt := 131) hx hb dX10_gates_115 (by decide) (fun c59 => ?_) (fun c59 => ?_)
                    · --
                      have i60 : Iv v54 1 1 := iv_eq1 c59 (iv_top v54) (⟨by decide, by decide⟩ : Iv 1 1 1) (by decide)
                      exact J_131 σ49 _ _ hw fr _ (lv_sub hl [2, 3, 4, 5, 6, 1, 7, 0, 8] rfl)
                    · --
                      refine lv_iload hx hb dX10_gates_118 (lv_at hl 8 rfl) ?_
                      refine o_ci hw (oRunS cx hA hw q_J6_bitCount_0f7a4 k_m_X10_420 (As := [.int j63_8]) (c_J6_bitCount_0f7a4 j63_8) (by decide) rfl hl.1 rfl (Nat.le_of_ble_eq_true rfl) dX10_gates_120 (by decide)) (fun v62 σ61 H locs hp hw => ?_)
                      obtain ⟨p62_0, p62_1⟩ := hp
                      rw [p62_0] at hw
                      refine lv_iload hx hb dX10_gates_123 (lv_at hl 7 rfl) ?_
                      refine o_ci hw (oRunS cx hA hw q_J6_bitCount_0f7a4 k_m_X10_420 (As := [.int j63_6]) (c_J6_bitCount_0f7a4 j63_6) (by decide) rfl hl.1 rfl (Nat.le_of_ble_eq_true rfl) dX10_gates_125 (by decide)) (fun v64 σ63 H locs hp hw => ?_)
                      obtain ⟨p64_0, p64_1⟩ := hp
                      rw [p64_0] at hw
                      refine lv_icmp_ge (tgt := 135) hx hb dX10_gates_128 (by decide) (fun c65 => ?_) (fun c65 => ?_)
                      · --
                        refine lv_iconst (v := 0) hx hb dX10_gates_135 (by decide) ?_
                        exact J_136 0 (iv_w (⟨by decide, by decide⟩ : Iv 0 0 0) (by decide)) σ49 _ _ hw fr _ (lv_sub hl [2, 3, 4, 5, 6, 1, 7, 0, 8] rfl)
                      · --
                        have i66 : Iv v62 0 62 := iv_lt1 (iv_nle c65) p62_1 p64_1 (by decide)
                        have i67 : Iv v64 1 63 := iv_lt2 (iv_nle c65) p62_1 p64_1 (by decide)
                        exact J_131 σ49 _ _ hw fr _ (lv_sub hl [2, 3, 4, 5, 6, 1, 7, 0, 8] rfl)
          exact J_63 _ 0 (-1) (iv_w (⟨by decide, by decide⟩ : Iv (-1) (-1) (-1)) (by decide)) (-1) (iv_w (⟨by decide, by decide⟩ : Iv (-1) (-1) (-1)) (by decide)) 0 (iv_w (⟨by decide, by decide⟩ : Iv 0 0 0) (by decide)) (Nat.lt_succ_self _) σ _ _ hw fr _ (lv_sub hl [5, 6, 7, 8, 4, 3, 2, 1, 0] rfl)
        · --
          have i68 : Iv a3 101 2147483647 := iv_lt2 (iv_nle c18) (⟨by decide, by decide⟩ : Iv 100 100 100) i17 (by decide)
          refine lv_iconst (v := (-1)) hx hb dX10_gates_33 (by decide) ?_
          rw [← hQ]
          exact o_ri cx rx hw dX10_gates_34 fr
abbrev fs_J7_fill_d0a16 : List Nat := []
abbrev ts_J7_fill_d0a16 : List Nat := [39]
set_option maxHeartbeats 4000000 in
set_option maxRecDepth 100000 in
theorem c_J7_fill_d0a16 (a0 : Nat) (ha0 : oA L τ a0 39) (a1 : Int64) : oMet l A L τ cy D K yJ7_fill_d0a16 cJ7_fill_d0a16 5 none 0 0 [.ref a0, .long a1] σ (va_Qv (fun σ1 => oFr τ fs_J7_fill_d0a16 ts_J7_fill_d0a16 σ σ1) (oPo A L τ cy D) A) := by
  refine oMk (by decide) (Nat.le_of_ble_eq_true rfl) rfl ?_
  intro p e s m args below meth c ls cx rx hA hw hl
  generalize hQ : MQ below _ args s 0 0 A = Q
  have hx := cx.1.1
  have hb := cx.1.2.1
  have hml := cx.1.2.2.1
  have hown := cx.1.2.2.2.1
  have hts := cx.1.2.2.2.2
  have hl : lv_has ls 5 [(0, .ref a0), (1, .long a1)] := hl
  have fr : oFr τ fs_J7_fill_d0a16 ts_J7_fill_d0a16 σ σ := oFr_rf
  refine lv_iconst (v := 0) hx hb dJ7_fill_d0a16_0 (by decide) ?_
  refine lv_istore_n (lv' := [(3, .int 0), (0, .ref a0), (1, .long a1)]) hx hb dJ7_fill_d0a16_1 rfl hl (by decide) rfl (fun ls hl => ?_)
  refine lv_aload_n hx hb dJ7_fill_d0a16_2 rfl (lv_at hl 1 rfl) ?_
  refine o_alenl (v := 64) cx hw ha0 (by decide) rfl (by decide) dJ7_fill_d0a16_3 ?_
  refine lv_istore (lv' := [(4, .int 64), (3, .int 0), (0, .ref a0), (1, .long a1)]) hx hb dJ7_fill_d0a16_4 hl (by decide) rfl (fun ls hl => ?_)
  have J_6 : ∀ n : Nat, ∀ (j6_3 : Int32) (ij6_3 : Iv j6_3 0 2147483647), (2147483647 - j6_3.toInt).toNat < n → ∀ (σ_6 : oSt) (H : Heap) (locs : List Loc), oI A L τ cy D s.heap σ_6 H locs → oFr τ fs_J7_fill_d0a16 ts_J7_fill_d0a16 σ σ_6 → ∀ (ls : Array Slot), lv_has ls 5 [(0, .ref a0), (1, .long a1), (3, .int j6_3), (4, .int 64)] → W p l e ({ frames := 0, cells := 0, slots := 0, locals := 0 } : Room) s m args below meth c H locs 0 0 Q (F0 m 6 ls []) := by
    intro n
    induction n with
    | zero => intro j6_3 ij6_3 hn_6  σ_6 H locs hw fr   ls hl; exact absurd hn_6 (Nat.not_lt_zero _)
    | succ n ih_6 =>
      intro j6_3 ij6_3 hn_6  σ_6 H locs hw fr   ls hl
      refine lv_iload_n hx hb dJ7_fill_d0a16_6 rfl (lv_at hl 2 rfl) ?_
      refine lv_iload hx hb dJ7_fill_d0a16_7 (lv_at hl 3 rfl) ?_
      refine lv_icmp_ge (tgt := 22) hx hb dJ7_fill_d0a16_9 (by decide) (fun c1 => ?_) (fun c1 => ?_)
      · --
        have i2 : Iv j6_3 64 2147483647 := iv_le2 c1 (⟨by decide, by decide⟩ : Iv 64 64 64) ij6_3 (by decide)
        rw [← hQ]
        exact o_rv cx rx hw dJ7_fill_d0a16_22 fr
      · --
        have i3 : Iv j6_3 0 63 := iv_lt1 (iv_nle c1) ij6_3 (⟨by decide, by decide⟩ : Iv 64 64 64) (by decide)
        refine lv_aload_n hx hb dJ7_fill_d0a16_12 rfl (lv_at hl 0 rfl) ?_
        refine lv_iload_n hx hb dJ7_fill_d0a16_13 rfl (lv_at hl 2 rfl) ?_
        refine lv_lload_n hx hb dJ7_fill_d0a16_14 rfl (lv_at hl 1 rfl) ?_
        refine o_last cx hw ha0 (by decide) rfl (iv_in i3 (by decide)) dJ7_fill_d0a16_15 (fun σ4 H locs eσ4 hw => ?_)
        have fr := oFr_q fr eσ4 ha0 (by decide)
        obtain ⟨v5, e5⟩ : ∃ y : Int32, y = j6_3 + 1 := ⟨_, rfl⟩
        have i5 : Iv v5 1 64 := iv_add e5 i3 (⟨by decide, by decide⟩ : Iv 1 1 1) (by decide)
        have x5 : v5.toInt = j6_3.toInt + 1 := ex_add e5 i3 (⟨by decide, by decide⟩ : Iv 1 1 1) (by decide)
        refine lv_iinc (v := v5) (lv' := [(3, .int v5), (0, .ref a0), (1, .long a1), (4, .int 64)]) hx hb dJ7_fill_d0a16_16 hl (k := 2) rfl (by rw [e5]; rfl) (by decide) rfl (fun ls hl => ?_)
        refine lv_goto (tgt := 6) hx hb dJ7_fill_d0a16_19 (by decide) ?_
        exact ih_6 v5 (iv_w i5 (by decide)) (ms_up x5 (by decide) (iv_w (a' := 0) (b' := 2147483647) i5 (by decide)).2 hn_6) σ4 _ _ hw fr _ (lv_sub hl [1, 2, 0, 3] rfl)
  exact J_6 _ 0 (iv_w (⟨by decide, by decide⟩ : Iv 0 0 0) (by decide)) (Nat.lt_succ_self _) σ _ _ hw fr _ (lv_sub hl [2, 3, 1, 0] rfl)
end OM
