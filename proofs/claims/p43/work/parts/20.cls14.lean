section OM
variable {l : Launch} {A : Nat → Prop} {L : List Nat} {τ : Nat → Nat} {cy : Nat → ClassId} {D : va_G} {K : (Nat → Nat) × (Nat → Nat)} {σ : oSt}
abbrev fs_X10_cart : List Nat := [193]
abbrev ts_X10_cart : List Nat := [32, 36]
set_option maxHeartbeats 4000000 in
set_option maxRecDepth 100000 in
theorem c_X10_cart (a0 : Nat) (ha0 : oA L τ a0 9) (a1 : Int32) (a2 : Int32) : oMet l A L τ cy D K yX10_cart cX10_cart 8 (some .int) 3 66 [.ref a0, .int a1, .int a2] σ (va_Qi (fun r σ1 => oFr τ fs_X10_cart ts_X10_cart σ σ1) (oPo A L τ cy D) A) := by
  refine oMk (by decide) (Nat.le_of_ble_eq_true rfl) rfl ?_
  intro p e s m args below meth c ls cx rx hA hw hl
  generalize hQ : MQ below _ args s 0 0 A = Q
  have hx := cx.1.1
  have hb := cx.1.2.1
  have hml := cx.1.2.2.1
  have hown := cx.1.2.2.2.1
  have hts := cx.1.2.2.2.2
  have hl : lv_has ls 8 [(0, .ref a0), (1, .int a1), (2, .int a2)] := hl
  have fr : oFr τ fs_X10_cart ts_X10_cart σ σ := oFr_rf
  refine lv_aload_n hx hb dX10_cart_0 rfl (lv_at hl 0 rfl) ?_
  refine g_578 cx hw ha0 k_f_X10_26 dX10_cart_1 (fun v1 e1 h1 => ?_)
  refine lv_iload_n hx hb dX10_cart_4 rfl (lv_at hl 1 rfl) ?_
  refine o_ci hw (oRunV cx hA hw q_X2_isThere k_m_X10_135 rfl h1 (by decide) (As := [.int a1]) (c_X2_isThere v1 h1 a1) (by decide) rfl hl.1 rfl (Nat.le_of_ble_eq_true rfl) dX10_cart_5 (by decide)) (fun v3 σ2 H locs hp hw => ?_)
  obtain ⟨p3_0, p3_1, p3_2⟩ := hp
  rw [p3_0] at hw
  refine lv_if_eq (tgt := 22) hx hb dX10_cart_8 (by decide) (fun c4 => ?_) (fun c4 => ?_)
  · --
    have i5 : Iv v3 0 0 := iv_eq1 c4 p3_1 (⟨by decide, by decide⟩ : Iv 0 0 0) (by decide)
    refine lv_iconst (v := (-1)) hx hb dX10_cart_22 (by decide) ?_
    rw [← hQ]
    exact o_ri cx rx hw dX10_cart_23 fr
  · --
    have i6 : Iv v3 1 1 := iv_ne1 c4 p3_1 (⟨by decide, by decide⟩ : Iv 0 0 0) (by decide)
    have i7 : Iv a1 0 63 := p3_2 c4
    refine lv_aload_n hx hb dX10_cart_11 rfl (lv_at hl 0 rfl) ?_
    refine g_578 cx hw ha0 k_f_X10_26 dX10_cart_12 (fun v8 e8 h8 => ?_)
    rw [show v8 = v1 from Option.some.inj (e8.symm.trans (e1))]
    refine lv_iload_n hx hb dX10_cart_15 rfl (lv_at hl 2 rfl) ?_
    refine o_ci hw (oRunV cx hA hw q_X2_isThere k_m_X10_135 rfl h1 (by decide) (As := [.int a2]) (c_X2_isThere v1 h1 a2) (by decide) rfl hl.1 rfl (Nat.le_of_ble_eq_true rfl) dX10_cart_16 (by decide)) (fun v10 σ9 H locs hp hw => ?_)
    obtain ⟨p10_0, p10_1, p10_2⟩ := hp
    rw [p10_0] at hw
    refine lv_if_ne (tgt := 24) hx hb dX10_cart_19 (by decide) (fun c11 => ?_) (fun c11 => ?_)
    · --
      have i12 : Iv v10 1 1 := iv_ne1 c11 p10_1 (⟨by decide, by decide⟩ : Iv 0 0 0) (by decide)
      have i13 : Iv a2 0 63 := p10_2 c11
      refine lv_aload_n hx hb dX10_cart_24 rfl (lv_at hl 0 rfl) ?_
      refine o_cl hw (oRunV cx hA hw q_X10_roadNow k_m_X10_335 rfl ha0 (by decide) (As := []) (c_X10_roadNow a0 ha0) (by decide) rfl hl.1 rfl (Nat.le_of_ble_eq_true rfl) dX10_cart_25 (by decide)) (fun v15 σ14 H locs hp hw => ?_)
      have p15_0 := hp
      rw [p15_0] at hw
      refine lv_lstore_n (lv' := [(3, .long v15), (0, .ref a0), (1, .int a1), (2, .int a2)]) hx hb dX10_cart_28 rfl hl (by decide) rfl (fun ls hl => ?_)
      refine lv_aload_n hx hb dX10_cart_29 rfl (lv_at hl 1 rfl) ?_
      refine g_584 cx hw ha0 k_f_X10_68 dX10_cart_30 (fun v16 e16 h16 => ?_)
      refine lv_lload_n hx hb dX10_cart_33 rfl (lv_at hl 0 rfl) ?_
      refine lv_iload_n hx hb dX10_cart_34 rfl (lv_at hl 3 rfl) ?_
      refine o_cv hw (oRunV cx hA hw q_X8_measure k_m_X10_354 rfl h16 (by decide) (As := [.long v15, .int a2]) (c_X8_measure v16 h16 v15 a2) (by decide) rfl hl.1 rfl (Nat.le_of_ble_eq_true rfl) dX10_cart_35 (by decide)) (fun σ17 H locs hp hw => ?_)
      have p18_0 := hp
      have fr := oFr_tr fr p18_0 (by decide)
      refine lv_aload_n hx hb dX10_cart_38 rfl (lv_at hl 1 rfl) ?_
      refine g_584 cx hw ha0 k_f_X10_68 dX10_cart_39 (fun v19 e19 h19 => ?_)
      rw [show v19 = v16 from Option.some.inj (e19.symm.trans (((kr_c p18_0 (by decide)).trans e16)))]
      refine g_448 cx hw h16 k_f_X10_358 dX10_cart_42 (fun v20 e20 h20 => ?_)
      refine lv_iload_n hx hb dX10_cart_45 rfl (lv_at hl 2 rfl) ?_
      refine o_iald cx hw h20 (by decide) rfl (iv_in i7 (by decide)) dX10_cart_46 (fun v21 e21 b21 => ?_)
      refine lv_istore (lv' := [(5, .int v21), (3, .long v15), (0, .ref a0), (1, .int a1), (2, .int a2)]) hx hb dX10_cart_47 hl (by decide) rfl (fun ls hl => ?_)
      refine lv_iload hx hb dX10_cart_49 (lv_at hl 0 rfl) ?_
      refine lv_iconst (v := (-1)) hx hb dX10_cart_51 (by decide) ?_
      refine lv_icmp_ne (tgt := 58) hx hb dX10_cart_52 (by decide) (fun c22 => ?_) (fun c22 => ?_)
      · --
        refine lv_aload_n hx hb dX10_cart_58 rfl (lv_at hl 2 rfl) ?_
        refine g_577 cx hw ha0 k_f_X10_19 dX10_cart_59 (fun v23 e23 h23 => ?_)
        refine o_cv hw (oRunV cx hA hw q_X4_start k_m_X10_292 rfl h23 (by decide) (As := []) (c_X4_start v23 h23) (by decide) rfl hl.1 rfl (Nat.le_of_ble_eq_true rfl) dX10_cart_62 (by decide)) (fun σ24 H locs hp hw => ?_)
        have p25_0 := hp
        have fr := oFr_tr fr p25_0 (by decide)
        refine lv_aload_n hx hb dX10_cart_65 rfl (lv_at hl 2 rfl) ?_
        refine g_577 cx hw ha0 k_f_X10_19 dX10_cart_66 (fun v26 e26 h26 => ?_)
        rw [show v26 = v23 from Option.some.inj (e26.symm.trans (((kr_c p25_0 (by decide)).trans e23)))]
        refine lv_iload_n hx hb dX10_cart_69 rfl (lv_at hl 3 rfl) ?_
        refine lv_i2l hx hb dX10_cart_70 rfl ?_
        refine lv_topl (fun v27 e27 => ?_)
        refine o_cv hw (oRunV cx hA hw q_X4_put k_m_X10_295 rfl h23 (by decide) (As := [.long v27]) (c_X4_put v23 h23 v27) (by decide) rfl hl.1 rfl (Nat.le_of_ble_eq_true rfl) dX10_cart_71 (by decide)) (fun σ28 H locs hp hw => ?_)
        have p29_0 := hp
        have fr := oFr_tr fr p29_0 (by decide)
        refine lv_iload_n hx hb dX10_cart_74 rfl (lv_at hl 3 rfl) ?_
        refine lv_istore (lv' := [(6, .int a1), (5, .int v21), (3, .long v15), (0, .ref a0), (1, .int a1), (2, .int a2)]) hx hb dX10_cart_75 hl (by decide) rfl (fun ls hl => ?_)
        refine lv_iload hx hb dX10_cart_77 (lv_at hl 1 rfl) ?_
        refine lv_iconst (v := 1) hx hb dX10_cart_79 (by decide) ?_
        refine lv_isub hx hb dX10_cart_80 ?_
        refine lv_topi (fun v30 e30 => ?_)
        refine lv_istore (lv' := [(7, .int v30), (6, .int a1), (5, .int v21), (3, .long v15), (0, .ref a0), (1, .int a1), (2, .int a2)]) hx hb dX10_cart_81 hl (by decide) rfl (fun ls hl => ?_)
        have frE_83 := fr
        have J_83 : ∀ n83 : Nat, ∀ (j83_6 : Int32) (j83_7 : Int32), ∀ (σ_83 : oSt) (H : Heap) (locs : List Loc), oI A L τ cy D s.heap σ_83 H locs → oFr τ fs_X10_cart ts_X10_cart σ σ_83 → (j83_7.toInt - (-2147483648)).toNat < n83 → ∀ (ls : Array Slot), lv_has ls 8 [(0, .ref a0), (1, .int a1), (2, .int a2), (3, .long v15), (5, .int v21), (6, .int j83_6), (7, .int j83_7)] → W p l e ({ frames := 3, cells := 0, slots := 0, locals := 66 } : Room) s m args below meth c H locs 0 0 Q (F0 m 83 ls []) := by
          intro n83
          induction n83 with
          | zero => intro j83_6 j83_7 σ_83 H locs hw fr   hn_83   ls hl; exact absurd hn_83 (Nat.not_lt_zero _)
          | succ n83 ih_83 =>
            intro j83_6 j83_7 σ_83 H locs hw fr   hn_83   ls hl
            have fr_83 := fr
            refine lv_iload hx hb dX10_cart_83 (lv_at hl 6 rfl) ?_
            refine lv_if_lt (tgt := 117) hx hb dX10_cart_85 (by decide) (fun c31 => ?_) (fun c31 => ?_)
            · --
              have i32 : Iv j83_7 (-2147483648) (-1) := iv_lt1 c31 (iv_top j83_7) (⟨by decide, by decide⟩ : Iv 0 0 0) (by decide)
              refine lv_iload hx hb dX10_cart_117 (lv_at hl 4 rfl) ?_
              rw [← hQ]
              exact o_ri cx rx hw dX10_cart_119 fr
            · --
              have i33 : Iv j83_7 0 2147483647 := iv_le2 (iv_nlt c31) (⟨by decide, by decide⟩ : Iv 0 0 0) (iv_top j83_7) (by decide)
              refine lv_aload_n hx hb dX10_cart_88 rfl (lv_at hl 0 rfl) ?_
              refine g_584 cx hw ha0 k_f_X10_68 dX10_cart_89 (fun v34 e34 h34 => ?_)
              rw [show v34 = v16 from Option.some.inj (e34.symm.trans (((kr_c fr_83 (by decide)).trans ((kr_c frE_83 (by decide)).symm.trans (((kr_c p29_0 (by decide)).trans ((kr_c p25_0 (by decide)).trans ((kr_c p18_0 (by decide)).trans e16))))))))]
              refine lv_iload hx hb dX10_cart_92 (lv_at hl 5 rfl) ?_
              refine lv_iload hx hb dX10_cart_94 (lv_at hl 6 rfl) ?_
              refine o_ci hw (oRunV cx hA hw q_X8_leastBeside k_m_X10_361 rfl h16 (by decide) (As := [.int j83_6, .int j83_7]) (c_X8_leastBeside v16 h16 j83_6 j83_7) (by decide) rfl hl.1 rfl (Nat.le_of_ble_eq_true rfl) dX10_cart_96 (by decide)) (fun v36 σ35 H locs hp hw => ?_)
              have p36_0 := hp
              rw [p36_0] at hw
              refine lv_istore (lv' := [(6, .int v36), (0, .ref a0), (1, .int a1), (2, .int a2), (3, .long v15), (5, .int v21), (7, .int j83_7)]) hx hb dX10_cart_99 hl (by decide) rfl (fun ls hl => ?_)
              refine lv_aload_n hx hb dX10_cart_101 rfl (lv_at hl 1 rfl) ?_
              refine g_577 cx hw ha0 k_f_X10_19 dX10_cart_102 (fun v37 e37 h37 => ?_)
              rw [show v37 = v23 from Option.some.inj (e37.symm.trans (((kr_c fr_83 (by decide)).trans ((kr_c frE_83 (by decide)).symm.trans (((kr_c p29_0 (by decide)).trans ((kr_c p25_0 (by decide)).trans e23)))))))]
              refine lv_iload hx hb dX10_cart_105 (lv_at hl 0 rfl) ?_
              refine lv_i2l hx hb dX10_cart_107 rfl ?_
              refine lv_topl (fun v38 e38 => ?_)
              refine o_cv hw (oRunV cx hA hw q_X4_put k_m_X10_295 rfl h23 (by decide) (As := [.long v38]) (c_X4_put v23 h23 v38) (by decide) rfl hl.1 rfl (Nat.le_of_ble_eq_true rfl) dX10_cart_108 (by decide)) (fun σ39 H locs hp hw => ?_)
              have p40_0 := hp
              have fr := oFr_tr fr p40_0 (by decide)
              obtain ⟨v41, e41⟩ : ∃ y : Int32, y = j83_7 + (-1) := ⟨_, rfl⟩
              have i41 : Iv v41 (-1) 2147483646 := iv_add e41 i33 (⟨by decide, by decide⟩ : Iv (-1) (-1) (-1)) (by decide)
              have x41 : v41.toInt = j83_7.toInt + (-1) := ex_add e41 i33 (⟨by decide, by decide⟩ : Iv (-1) (-1) (-1)) (by decide)
              refine lv_iinc (v := v41) (lv' := [(7, .int v41), (6, .int v36), (0, .ref a0), (1, .int a1), (2, .int a2), (3, .long v15), (5, .int v21)]) hx hb dX10_cart_111 hl (k := 6) rfl (by rw [e41]; rfl) (by decide) rfl (fun ls hl => ?_)
              refine lv_goto (tgt := 83) hx hb dX10_cart_114 (by decide) ?_
              exact ih_83 v36 v41 σ39 _ _ hw fr (ms_dn x41 (by decide) (iv_w (a' := (-2147483648)) (b' := 2147483647) i41 (by decide)).1 hn_83) _ (lv_sub hl [2, 3, 4, 5, 6, 1, 0] rfl)
        exact J_83 _ a1 v30 σ28 _ _ hw fr (Nat.lt_succ_self _) _ (lv_sub hl [4, 5, 6, 3, 2, 1, 0] rfl)
      · --
        have i42 : Iv v21 (-1) (-1) := iv_eq1 c22 (iv_top v21) (⟨by decide, by decide⟩ : Iv (-1) (-1) (-1)) (by decide)
        refine lv_bipush (v := (-2)) hx hb dX10_cart_55 (by decide) ?_
        rw [← hQ]
        exact o_ri cx rx hw dX10_cart_57 fr
    · --
      have i43 : Iv v10 0 0 := iv_eq1 c11 p10_1 (⟨by decide, by decide⟩ : Iv 0 0 0) (by decide)
      refine lv_iconst (v := (-1)) hx hb dX10_cart_22 (by decide) ?_
      rw [← hQ]
      exact o_ri cx rx hw dX10_cart_23 fr
abbrev fs_X10_joined : List Nat := [193]
abbrev ts_X10_joined : List Nat := [36]
set_option maxHeartbeats 4000000 in
set_option maxRecDepth 100000 in
theorem c_X10_joined (a0 : Nat) (ha0 : oA L τ a0 9) (a1 : Int32) : oMet l A L τ cy D K yX10_joined cX10_joined 6 (some .int) 3 66 [.ref a0, .int a1] σ (va_Qi (fun r σ1 => oFr τ fs_X10_joined ts_X10_joined σ σ1 ∧ Iv r (-2) 63) (oPo A L τ cy D) A) := by
  refine oMk (by decide) (Nat.le_of_ble_eq_true rfl) rfl ?_
  intro p e s m args below meth c ls cx rx hA hw hl
  generalize hQ : MQ below _ args s 0 0 A = Q
  have hx := cx.1.1
  have hb := cx.1.2.1
  have hml := cx.1.2.2.1
  have hown := cx.1.2.2.2.1
  have hts := cx.1.2.2.2.2
  have hl : lv_has ls 6 [(0, .ref a0), (1, .int a1)] := hl
  have fr : oFr τ fs_X10_joined ts_X10_joined σ σ := oFr_rf
  refine lv_aload_n hx hb dX10_joined_0 rfl (lv_at hl 0 rfl) ?_
  refine g_581 cx hw ha0 k_f_X10_49 dX10_joined_1 (fun v1 e1 h1 => ?_)
  refine lv_iload_n hx hb dX10_joined_4 rfl (lv_at hl 1 rfl) ?_
  refine o_ci hw (oRunV cx hA hw q_X6_hasHerd k_m_X10_178 rfl h1 (by decide) (As := [.int a1]) (c_X6_hasHerd v1 h1 a1) (by decide) rfl hl.1 rfl (Nat.le_of_ble_eq_true rfl) dX10_joined_5 (by decide)) (fun v3 σ2 H locs hp hw => ?_)
  obtain ⟨p3_0, p3_1, p3_2⟩ := hp
  rw [p3_0] at hw
  refine lv_if_ne (tgt := 13) hx hb dX10_joined_8 (by decide) (fun c4 => ?_) (fun c4 => ?_)
  · --
    have i5 : Iv v3 1 1 := iv_ne1 c4 p3_1 (⟨by decide, by decide⟩ : Iv 0 0 0) (by decide)
    have i6 : Iv a1 0 5 := p3_2 c4
    refine lv_aload_n hx hb dX10_joined_13 rfl (lv_at hl 0 rfl) ?_
    refine o_cl hw (oRunV cx hA hw q_X10_roadNow k_m_X10_335 rfl ha0 (by decide) (As := []) (c_X10_roadNow a0 ha0) (by decide) rfl hl.1 rfl (Nat.le_of_ble_eq_true rfl) dX10_joined_14 (by decide)) (fun v8 σ7 H locs hp hw => ?_)
    have p8_0 := hp
    rw [p8_0] at hw
    refine lv_aload_n hx hb dX10_joined_17 rfl (lv_at hl 0 rfl) ?_
    refine g_581 cx hw ha0 k_f_X10_49 dX10_joined_18 (fun v9 e9 h9 => ?_)
    rw [show v9 = v1 from Option.some.inj (e9.symm.trans (e1))]
    refine g_325 cx hw h1 k_f_X10_183 dX10_joined_21 (fun v10 e10 h10 => ?_)
    refine lv_iload_n hx hb dX10_joined_24 rfl (lv_at hl 1 rfl) ?_
    refine o_iald cx hw h10 (by decide) rfl (iv_in i6 (by decide)) dX10_joined_25 (fun v11 e11 b11 => ?_)
    have i11 : Iv v11 0 63 := b11
    refine o_cl hw (oRunS cx hA hw q_X0_pieceOf k_m_X10_343 (As := [.long v8, .int v11]) (c_X0_pieceOf v8 v11) (by decide) rfl hl.1 rfl (Nat.le_of_ble_eq_true rfl) dX10_joined_26 (by decide)) (fun v13 σ12 H locs hp hw => ?_)
    have p13_0 := hp
    rw [p13_0] at hw
    refine lv_lstore_n (lv' := [(2, .long v13), (0, .ref a0), (1, .int a1)]) hx hb dX10_joined_29 rfl hl (by decide) rfl (fun ls hl => ?_)
    refine lv_lload_n hx hb dX10_joined_30 rfl (lv_at hl 0 rfl) ?_
    refine lv_lconst (v := 0) hx hb dX10_joined_31 (by decide) ?_
    refine W.lcmp hx hb dX10_joined_32 ?_
    refine lv_topi (fun v14 e14 => ?_)
    have i14 : Iv v14 (-1) 1 := iv_lcmp e14
    refine lv_if_ne (tgt := 39) hx hb dX10_joined_33 (by decide) (fun c15 => ?_) (fun c15 => ?_)
    · --
      refine lv_iconst (v := 0) hx hb dX10_joined_39 (by decide) ?_
      refine lv_istore (lv' := [(4, .int 0), (2, .long v13), (0, .ref a0), (1, .int a1)]) hx hb dX10_joined_40 hl (by decide) rfl (fun ls hl => ?_)
      refine lv_iconst (v := 0) hx hb dX10_joined_42 (by decide) ?_
      refine lv_istore (lv' := [(5, .int 0), (4, .int 0), (2, .long v13), (0, .ref a0), (1, .int a1)]) hx hb dX10_joined_43 hl (by decide) rfl (fun ls hl => ?_)
      have J_45 : ∀ n45 : Nat, ∀ (j45_4 : Int32) (ij45_4 : Iv j45_4 0 63) (j45_5 : Int32) (ij45_5 : Iv j45_5 0 6), ∀ (H : Heap) (locs : List Loc), oI A L τ cy D s.heap σ H locs → (6 - j45_5.toInt).toNat < n45 → ∀ (ls : Array Slot), lv_has ls 6 [(0, .ref a0), (1, .int a1), (2, .long v13), (4, .int j45_4), (5, .int j45_5)] → W p l e ({ frames := 3, cells := 0, slots := 0, locals := 66 } : Room) s m args below meth c H locs 0 0 Q (F0 m 45 ls []) := by
        intro n45
        induction n45 with
        | zero => intro j45_4 ij45_4 j45_5 ij45_5 H locs hw  hn_45   ls hl; exact absurd hn_45 (Nat.not_lt_zero _)
        | succ n45 ih_45 =>
          intro j45_4 ij45_4 j45_5 ij45_5 H locs hw  hn_45   ls hl
          refine lv_iload hx hb dX10_joined_45 (lv_at hl 4 rfl) ?_
          refine lv_aload_n hx hb dX10_joined_47 rfl (lv_at hl 0 rfl) ?_
          refine g_581 cx hw ha0 k_f_X10_49 dX10_joined_48 (fun v16 e16 h16 => ?_)
          rw [show v16 = v1 from Option.some.inj (e16.symm.trans (e1))]
          refine g_327 cx hw h1 k_f_X10_206 dX10_joined_51 (fun v17 e17 i17 => ?_)
          refine lv_icmp_ge (tgt := 89) hx hb dX10_joined_54 (by decide) (fun c18 => ?_) (fun c18 => ?_)
          · --
            refine lv_aload_n hx hb dX10_joined_89 rfl (lv_at hl 0 rfl) ?_
            refine g_577 cx hw ha0 k_f_X10_19 dX10_joined_90 (fun v19 e19 h19 => ?_)
            refine o_cv hw (oRunV cx hA hw q_X4_start k_m_X10_292 rfl h19 (by decide) (As := []) (c_X4_start v19 h19) (by decide) rfl hl.1 rfl (Nat.le_of_ble_eq_true rfl) dX10_joined_93 (by decide)) (fun σ20 H locs hp hw => ?_)
            have p21_0 := hp
            have fr := oFr_tr fr p21_0 (by decide)
            refine lv_aload_n hx hb dX10_joined_96 rfl (lv_at hl 0 rfl) ?_
            refine g_577 cx hw ha0 k_f_X10_19 dX10_joined_97 (fun v22 e22 h22 => ?_)
            rw [show v22 = v19 from Option.some.inj (e22.symm.trans (((kr_c p21_0 (by decide)).trans e19)))]
            refine lv_lload_n hx hb dX10_joined_100 rfl (lv_at hl 2 rfl) ?_
            refine o_ci hw (oRunS cx hA hw q_J13_bitCount_95d88 k_m_X10_349 (As := [.long v13]) (c_J13_bitCount_95d88 v13) (by decide) rfl hl.1 rfl (Nat.le_of_ble_eq_true rfl) dX10_joined_101 (by decide)) (fun v24 σ23 H locs hp hw => ?_)
            obtain ⟨p24_0, p24_1⟩ := hp
            rw [p24_0] at hw
            refine lv_i2l hx hb dX10_joined_104 rfl ?_
            refine lv_topl (fun v25 e25 => ?_)
            refine o_cv hw (oRunV cx hA hw q_X4_put k_m_X10_295 rfl h19 (by decide) (As := [.long v25]) (c_X4_put v19 h19 v25) (by decide) rfl hl.1 rfl (Nat.le_of_ble_eq_true rfl) dX10_joined_105 (by decide)) (fun σ26 H locs hp hw => ?_)
            have p27_0 := hp
            have fr := oFr_tr fr p27_0 (by decide)
            refine lv_iload hx hb dX10_joined_108 (lv_at hl 3 rfl) ?_
            rw [← hQ]
            exact o_ri cx rx hw dX10_joined_110 ⟨fr, (iv_w ij45_4 (by decide))⟩
          · --
            have i28 : Iv j45_5 0 5 := iv_lt1 (iv_nle c18) ij45_5 i17 (by decide)
            have i29 : Iv v17 1 6 := iv_lt2 (iv_nle c18) ij45_5 i17 (by decide)
            refine lv_lload_n hx hb dX10_joined_57 rfl (lv_at hl 2 rfl) ?_
            refine lv_aload_n hx hb dX10_joined_58 rfl (lv_at hl 0 rfl) ?_
            refine g_581 cx hw ha0 k_f_X10_49 dX10_joined_59 (fun v30 e30 h30 => ?_)
            rw [show v30 = v1 from Option.some.inj (e30.symm.trans (e1))]
            refine g_325 cx hw h1 k_f_X10_183 dX10_joined_62 (fun v31 e31 h31 => ?_)
            rw [show v31 = v10 from Option.some.inj (e31.symm.trans (e10))]
            refine lv_iload hx hb dX10_joined_65 (lv_at hl 4 rfl) ?_
            refine o_iald cx hw h10 (by decide) rfl (iv_in i28 (by decide)) dX10_joined_67 (fun v32 e32 b32 => ?_)
            have i32 : Iv v32 0 63 := b32
            refine o_ci hw (oRunS cx hA hw q_X0_has k_m_X10_321 (As := [.long v13, .int v32]) (c_X0_has v13 v32) (by decide) rfl hl.1 rfl (Nat.le_of_ble_eq_true rfl) dX10_joined_68 (by decide)) (fun v34 σ33 H locs hp hw => ?_)
            obtain ⟨p34_0, p34_1, p34_2, p34_3⟩ := hp
            rw [p34_0] at hw
            have J_83 : ∀ (j83_4 : Int32) (ij83_4 : Iv j83_4 0 63), ∀ (H : Heap) (locs : List Loc), oI A L τ cy D s.heap σ H locs → ∀ (ls : Array Slot), lv_has ls 6 [(0, .ref a0), (1, .int a1), (2, .long v13), (4, .int j83_4), (5, .int j45_5)] → W p l e ({ frames := 3, cells := 0, slots := 0, locals := 66 } : Room) s m args below meth c H locs 0 0 Q (F0 m 83 ls []) := by
              intro j83_4 ij83_4 H locs hw     ls hl
              obtain ⟨v35, e35⟩ : ∃ y : Int32, y = j45_5 + 1 := ⟨_, rfl⟩
              have i35 : Iv v35 1 6 := iv_add e35 i28 (⟨by decide, by decide⟩ : Iv 1 1 1) (by decide)
              have x35 : v35.toInt = j45_5.toInt + 1 := ex_add e35 i28 (⟨by decide, by decide⟩ : Iv 1 1 1) (by decide)
              refine lv_iinc (v := v35) (lv' := [(5, .int v35), (0, .ref a0), (1, .int a1), (2, .long v13), (4, .int j83_4)]) hx hb dX10_joined_83 hl (k := 4) rfl (by rw [e35]; rfl) (by decide) rfl (fun ls hl => ?_)
              refine lv_goto (tgt := 45) hx hb dX10_joined_86 (by decide) ?_
              exact ih_45 j83_4 ij83_4 v35 (iv_w i35 (by decide)) _ _ hw (ms_up x35 (by decide) (iv_w (a' := 0) (b' := 6) i35 (by decide)).2 hn_45) _ (lv_sub hl [1, 2, 3, 4, 0] rfl)
            refine lv_if_eq (tgt := 83) hx hb dX10_joined_71 (by decide) (fun c36 => ?_) (fun c36 => ?_)
            · --
              have i37 : Iv v34 0 0 := iv_eq1 c36 p34_1 (⟨by decide, by decide⟩ : Iv 0 0 0) (by decide)
              exact J_83 j45_4 ij45_4 _ _ hw _ (lv_sub hl [0, 1, 2, 3, 4] rfl)
            · --
              have i38 : Iv v34 1 1 := iv_ne1 c36 p34_1 (⟨by decide, by decide⟩ : Iv 0 0 0) (by decide)
              have i39 : Iv v32 0 63 := p34_2 c36
              refine lv_iload hx hb dX10_joined_74 (lv_at hl 3 rfl) ?_
              refine lv_iconst (v := 1) hx hb dX10_joined_76 (by decide) ?_
              refine lv_iload hx hb dX10_joined_77 (lv_at hl 4 rfl) ?_
              refine lv_ishl hx hb dX10_joined_79 ?_
              refine lv_topi (fun v40 e40 => ?_)
              have i40 : Iv v40 1 32 := iv_shl1 e40 i28 (by decide)
              refine lv_ior hx hb dX10_joined_80 ?_
              refine lv_topi (fun v41 e41 => ?_)
              have i41 : Iv v41 0 63 := iv_or e41 ij45_4 i40 6 (by decide)
              refine lv_istore (lv' := [(4, .int v41), (0, .ref a0), (1, .int a1), (2, .long v13), (5, .int j45_5)]) hx hb dX10_joined_81 hl (by decide) rfl (fun ls hl => ?_)
              exact J_83 v41 i41 _ _ hw _ (lv_sub hl [1, 2, 3, 0, 4] rfl)
      exact J_45 _ 0 (iv_w (⟨by decide, by decide⟩ : Iv 0 0 0) (by decide)) 0 (iv_w (⟨by decide, by decide⟩ : Iv 0 0 0) (by decide)) _ _ hw (Nat.lt_succ_self _) _ (lv_sub hl [3, 4, 2, 1, 0] rfl)
    · --
      have i42 : Iv v14 0 0 := iv_eq1 c15 i14 (⟨by decide, by decide⟩ : Iv 0 0 0) (by decide)
      refine lv_bipush (v := (-2)) hx hb dX10_joined_36 (by decide) ?_
      rw [← hQ]
      exact o_ri cx rx hw dX10_joined_38 ⟨fr, (iv_w (⟨by decide, by decide⟩ : Iv (-2) (-2) (-2)) (by decide))⟩
  · --
    have i43 : Iv v3 0 0 := iv_eq1 c4 p3_1 (⟨by decide, by decide⟩ : Iv 0 0 0) (by decide)
    refine lv_iconst (v := (-1)) hx hb dX10_joined_11 (by decide) ?_
    rw [← hQ]
    exact o_ri cx rx hw dX10_joined_12 ⟨fr, (iv_w (⟨by decide, by decide⟩ : Iv (-1) (-1) (-1)) (by decide))⟩
abbrev fs_X10_owners : List Nat := [193]
abbrev ts_X10_owners : List Nat := [36]
set_option maxHeartbeats 4000000 in
set_option maxRecDepth 100000 in
theorem c_X10_owners (a0 : Nat) (ha0 : oA L τ a0 9) : oMet l A L τ cy D K yX10_owners cX10_owners 7 (some .int) 3 66 [.ref a0] σ (va_Qi (fun r σ1 => oFr τ fs_X10_owners ts_X10_owners σ σ1 ∧ Iv r (-2) 6) (oPo A L τ cy D) A) := by
  refine oMk (by decide) (Nat.le_of_ble_eq_true rfl) rfl ?_
  intro p e s m args below meth c ls cx rx hA hw hl
  generalize hQ : MQ below _ args s 0 0 A = Q
  have hx := cx.1.1
  have hb := cx.1.2.1
  have hml := cx.1.2.2.1
  have hown := cx.1.2.2.2.1
  have hts := cx.1.2.2.2.2
  have hl : lv_has ls 7 [(0, .ref a0)] := hl
  have fr : oFr τ fs_X10_owners ts_X10_owners σ σ := oFr_rf
  refine lv_aload_n hx hb dX10_owners_0 rfl (lv_at hl 0 rfl) ?_
  refine g_581 cx hw ha0 k_f_X10_49 dX10_owners_1 (fun v1 e1 h1 => ?_)
  refine g_327 cx hw h1 k_f_X10_206 dX10_owners_4 (fun v2 e2 i2 => ?_)
  refine lv_if_ne (tgt := 13) hx hb dX10_owners_7 (by decide) (fun c3 => ?_) (fun c3 => ?_)
  · --
    have i4 : Iv v2 1 6 := iv_ne1 c3 i2 (⟨by decide, by decide⟩ : Iv 0 0 0) (by decide)
    refine lv_aload_n hx hb dX10_owners_13 rfl (lv_at hl 0 rfl) ?_
    refine o_cl hw (oRunV cx hA hw q_X10_roadNow k_m_X10_335 rfl ha0 (by decide) (As := []) (c_X10_roadNow a0 ha0) (by decide) rfl hl.1 rfl (Nat.le_of_ble_eq_true rfl) dX10_owners_14 (by decide)) (fun v6 σ5 H locs hp hw => ?_)
    have p6_0 := hp
    rw [p6_0] at hw
    refine lv_lstore_n (lv' := [(1, .long v6), (0, .ref a0)]) hx hb dX10_owners_17 rfl hl (by decide) rfl (fun ls hl => ?_)
    refine lv_iconst (v := 0) hx hb dX10_owners_18 (by decide) ?_
    refine lv_istore_n (lv' := [(3, .int 0), (1, .long v6), (0, .ref a0)]) hx hb dX10_owners_19 rfl hl (by decide) rfl (fun ls hl => ?_)
    refine lv_iconst (v := 0) hx hb dX10_owners_20 (by decide) ?_
    refine lv_istore (lv' := [(4, .int 0), (3, .int 0), (1, .long v6), (0, .ref a0)]) hx hb dX10_owners_21 hl (by decide) rfl (fun ls hl => ?_)
    refine lv_aload_n hx hb dX10_owners_23 rfl (lv_at hl 3 rfl) ?_
    refine g_577 cx hw ha0 k_f_X10_19 dX10_owners_24 (fun v7 e7 h7 => ?_)
    refine o_cv hw (oRunV cx hA hw q_X4_start k_m_X10_292 rfl h7 (by decide) (As := []) (c_X4_start v7 h7) (by decide) rfl hl.1 rfl (Nat.le_of_ble_eq_true rfl) dX10_owners_27 (by decide)) (fun σ8 H locs hp hw => ?_)
    have p9_0 := hp
    have fr := oFr_tr fr p9_0 (by decide)
    refine lv_iconst (v := 0) hx hb dX10_owners_30 (by decide) ?_
    refine lv_istore (lv' := [(5, .int 0), (4, .int 0), (3, .int 0), (1, .long v6), (0, .ref a0)]) hx hb dX10_owners_31 hl (by decide) rfl (fun ls hl => ?_)
    have frE_33 := fr
    have J_33 : ∀ n33 : Nat, ∀ (j33_3 : Int32) (ij33_3 : Iv j33_3 0 6) (j33_4 : Int32) (ij33_4 : Iv j33_4 0 127) (j33_5 : Int32) (ij33_5 : Iv j33_5 0 6), ∀ (σ_33 : oSt) (H : Heap) (locs : List Loc), oI A L τ cy D s.heap σ_33 H locs → oFr τ fs_X10_owners ts_X10_owners σ σ_33 → (6 - j33_5.toInt).toNat < n33 → ∀ (ls : Array Slot), lv_has ls 7 [(0, .ref a0), (1, .long v6), (3, .int j33_3), (4, .int j33_4), (5, .int j33_5)] → W p l e ({ frames := 3, cells := 0, slots := 0, locals := 66 } : Room) s m args below meth c H locs 0 0 Q (F0 m 33 ls []) := by
      intro n33
      induction n33 with
      | zero => intro j33_3 ij33_3 j33_4 ij33_4 j33_5 ij33_5 σ_33 H locs hw fr   hn_33   ls hl; exact absurd hn_33 (Nat.not_lt_zero _)
      | succ n33 ih_33 =>
        intro j33_3 ij33_3 j33_4 ij33_4 j33_5 ij33_5 σ_33 H locs hw fr   hn_33   ls hl
        have fr_33 := fr
        refine lv_iload hx hb dX10_owners_33 (lv_at hl 4 rfl) ?_
        refine lv_aload_n hx hb dX10_owners_35 rfl (lv_at hl 0 rfl) ?_
        refine g_581 cx hw ha0 k_f_X10_49 dX10_owners_36 (fun v10 e10 h10 => ?_)
        rw [show v10 = v1 from Option.some.inj (e10.symm.trans (((kr_c fr_33 (by decide)).trans ((kr_c frE_33 (by decide)).symm.trans (((kr_c p9_0 (by decide)).trans e1))))))]
        refine g_327 cx hw h1 k_f_X10_206 dX10_owners_39 (fun v11 e11 i11 => ?_)
        rw [show v11 = v2 from e11.trans ((kp_c fr_33 (by decide)).trans ((kp_c frE_33 (by decide)).symm.trans (((kp_c p9_0 (by decide)).trans e2.symm))))]
        refine lv_icmp_ge (tgt := 91) hx hb dX10_owners_42 (by decide) (fun c12 => ?_) (fun c12 => ?_)
        · --
          have i13 : Iv j33_5 1 6 := iv_le2 c12 i4 ij33_5 (by decide)
          refine lv_iload_n hx hb dX10_owners_91 rfl (lv_at hl 2 rfl) ?_
          rw [← hQ]
          exact o_ri cx rx hw dX10_owners_92 ⟨fr, (iv_w ij33_3 (by decide))⟩
        · --
          have i14 : Iv j33_5 0 5 := iv_lt1 (iv_nle c12) ij33_5 i4 (by decide)
          refine lv_lload_n hx hb dX10_owners_45 rfl (lv_at hl 1 rfl) ?_
          refine lv_aload_n hx hb dX10_owners_46 rfl (lv_at hl 0 rfl) ?_
          refine g_581 cx hw ha0 k_f_X10_49 dX10_owners_47 (fun v15 e15 h15 => ?_)
          rw [show v15 = v1 from Option.some.inj (e15.symm.trans (((kr_c fr_33 (by decide)).trans ((kr_c frE_33 (by decide)).symm.trans (((kr_c p9_0 (by decide)).trans e1))))))]
          refine lv_iload hx hb dX10_owners_50 (lv_at hl 4 rfl) ?_
          refine o_cl hw (oRunV cx hA hw q_X6_troddenLastBy k_m_X10_364 rfl h1 (by decide) (As := [.int j33_5]) (c_X6_troddenLastBy v1 h1 j33_5) (by decide) rfl hl.1 rfl (Nat.le_of_ble_eq_true rfl) dX10_owners_52 (by decide)) (fun v17 σ16 H locs hp hw => ?_)
          have p17_0 := hp
          rw [p17_0] at hw
          refine lv_land hx hb dX10_owners_55 ?_
          refine lv_topl (fun v18 e18 => ?_)
          refine o_ci hw (oRunS cx hA hw q_J13_bitCount_95d88 k_m_X10_349 (As := [.long v18]) (c_J13_bitCount_95d88 v18) (by decide) rfl hl.1 rfl (Nat.le_of_ble_eq_true rfl) dX10_owners_56 (by decide)) (fun v20 σ19 H locs hp hw => ?_)
          obtain ⟨p20_0, p20_1⟩ := hp
          rw [p20_0] at hw
          refine lv_istore (lv' := [(6, .int v20), (0, .ref a0), (1, .long v6), (3, .int j33_3), (4, .int j33_4), (5, .int j33_5)]) hx hb dX10_owners_59 hl (by decide) rfl (fun ls hl => ?_)
          refine lv_aload_n hx hb dX10_owners_61 rfl (lv_at hl 1 rfl) ?_
          refine g_577 cx hw ha0 k_f_X10_19 dX10_owners_62 (fun v21 e21 h21 => ?_)
          rw [show v21 = v7 from Option.some.inj (e21.symm.trans (((kr_c fr_33 (by decide)).trans ((kr_c frE_33 (by decide)).symm.trans (((kr_c p9_0 (by decide)).trans e7))))))]
          refine lv_iload hx hb dX10_owners_65 (lv_at hl 0 rfl) ?_
          refine lv_i2l hx hb dX10_owners_67 rfl ?_
          refine lv_topl (fun v22 e22 => ?_)
          refine o_cv hw (oRunV cx hA hw q_X4_put k_m_X10_295 rfl h7 (by decide) (As := [.long v22]) (c_X4_put v7 h7 v22) (by decide) rfl hl.1 rfl (Nat.le_of_ble_eq_true rfl) dX10_owners_68 (by decide)) (fun σ23 H locs hp hw => ?_)
          have p24_0 := hp
          have fr := oFr_tr fr p24_0 (by decide)
          refine lv_iload hx hb dX10_owners_71 (lv_at hl 0 rfl) ?_
          refine lv_iload hx hb dX10_owners_73 (lv_at hl 4 rfl) ?_
          have J_85 : ∀ (j85_3 : Int32) (ij85_3 : Iv j85_3 0 6) (j85_4 : Int32) (ij85_4 : Iv j85_4 0 127), ∀ (H : Heap) (locs : List Loc), oI A L τ cy D s.heap σ23 H locs → ∀ (ls : Array Slot), lv_has ls 7 [(0, .ref a0), (1, .long v6), (3, .int j85_3), (4, .int j85_4), (5, .int j33_5), (6, .int v20)] → W p l e ({ frames := 3, cells := 0, slots := 0, locals := 66 } : Room) s m args below meth c H locs 0 0 Q (F0 m 85 ls []) := by
            intro j85_3 ij85_3 j85_4 ij85_4 H locs hw     ls hl
            obtain ⟨v25, e25⟩ : ∃ y : Int32, y = j33_5 + 1 := ⟨_, rfl⟩
            have i25 : Iv v25 1 6 := iv_add e25 i14 (⟨by decide, by decide⟩ : Iv 1 1 1) (by decide)
            have x25 : v25.toInt = j33_5.toInt + 1 := ex_add e25 i14 (⟨by decide, by decide⟩ : Iv 1 1 1) (by decide)
            refine lv_iinc (v := v25) (lv' := [(5, .int v25), (0, .ref a0), (1, .long v6), (3, .int j85_3), (4, .int j85_4), (6, .int v20)]) hx hb dX10_owners_85 hl (k := 4) rfl (by rw [e25]; rfl) (by decide) rfl (fun ls hl => ?_)
            refine lv_goto (tgt := 33) hx hb dX10_owners_88 (by decide) ?_
            exact ih_33 j85_3 ij85_3 j85_4 ij85_4 v25 (iv_w i25 (by decide)) σ23 _ _ hw fr (ms_up x25 (by decide) (iv_w (a' := 0) (b' := 6) i25 (by decide)).2 hn_33) _ (lv_sub hl [1, 2, 3, 4, 0] rfl)
          refine lv_icmp_le (tgt := 85) hx hb dX10_owners_75 (by decide) (fun c26 => ?_) (fun c26 => ?_)
          · --
            exact J_85 j33_3 ij33_3 j33_4 ij33_4 _ _ hw _ (lv_sub hl [1, 2, 3, 4, 5, 0] rfl)
          · --
            have i27 : Iv j33_4 0 126 := iv_lt1 (iv_nle c26) ij33_4 p20_1 (by decide)
            have i28 : Iv v20 1 127 := iv_lt2 (iv_nle c26) ij33_4 p20_1 (by decide)
            refine lv_iload hx hb dX10_owners_78 (lv_at hl 0 rfl) ?_
            refine lv_istore (lv' := [(4, .int v20), (6, .int v20), (0, .ref a0), (1, .long v6), (3, .int j33_3), (5, .int j33_5)]) hx hb dX10_owners_80 hl (by decide) rfl (fun ls hl => ?_)
            refine lv_iload hx hb dX10_owners_82 (lv_at hl 5 rfl) ?_
            refine lv_istore_n (lv' := [(3, .int j33_5), (4, .int v20), (6, .int v20), (0, .ref a0), (1, .long v6), (5, .int j33_5)]) hx hb dX10_owners_84 rfl hl (by decide) rfl (fun ls hl => ?_)
            exact J_85 j33_5 (iv_w i14 (by decide)) v20 (iv_w i28 (by decide)) _ _ hw _ (lv_sub hl [3, 4, 0, 1, 5, 2] rfl)
    exact J_33 _ 0 (iv_w (⟨by decide, by decide⟩ : Iv 0 0 0) (by decide)) 0 (iv_w (⟨by decide, by decide⟩ : Iv 0 0 0) (by decide)) 0 (iv_w (⟨by decide, by decide⟩ : Iv 0 0 0) (by decide)) σ8 _ _ hw fr (Nat.lt_succ_self _) _ (lv_sub hl [4, 3, 2, 1, 0] rfl)
  · --
    have i29 : Iv v2 0 0 := iv_eq1 c3 i2 (⟨by decide, by decide⟩ : Iv 0 0 0) (by decide)
    refine lv_bipush (v := (-2)) hx hb dX10_owners_10 (by decide) ?_
    rw [← hQ]
    exact o_ri cx rx hw dX10_owners_12 ⟨fr, (iv_w (⟨by decide, by decide⟩ : Iv (-2) (-2) (-2)) (by decide))⟩
abbrev fs_X10_least : List Nat := [193]
abbrev ts_X10_least : List Nat := [36]
set_option maxHeartbeats 4000000 in
set_option maxRecDepth 100000 in
theorem c_X10_least (a0 : Nat) (ha0 : oA L τ a0 9) : oMet l A L τ cy D K yX10_least cX10_least 3 (some .int) 3 72 [.ref a0] σ (va_Qi (fun r σ1 => oFr τ fs_X10_least ts_X10_least σ σ1 ∧ Iv r (-2) 99) (oPo A L τ cy D) A) := by
  refine oMk (by decide) (Nat.le_of_ble_eq_true rfl) rfl ?_
  intro p e s m args below meth c ls cx rx hA hw hl
  generalize hQ : MQ below _ args s 0 0 A = Q
  have hx := cx.1.1
  have hb := cx.1.2.1
  have hml := cx.1.2.2.1
  have hown := cx.1.2.2.2.1
  have hts := cx.1.2.2.2.2
  have hl : lv_has ls 3 [(0, .ref a0)] := hl
  have fr : oFr τ fs_X10_least ts_X10_least σ σ := oFr_rf
  refine lv_iconst (v := 0) hx hb dX10_least_0 (by decide) ?_
  refine lv_istore_n (lv' := [(1, .int 0), (0, .ref a0)]) hx hb dX10_least_1 rfl hl (by decide) rfl (fun ls hl => ?_)
  have J_2 : ∀ n2 : Nat, ∀ (j2_1 : Int32) (ij2_1 : Iv j2_1 0 100), ∀ (H : Heap) (locs : List Loc), oI A L τ cy D s.heap σ H locs → (100 - j2_1.toInt).toNat < n2 → ∀ (ls : Array Slot), lv_has ls 3 [(0, .ref a0), (1, .int j2_1)] → W p l e ({ frames := 3, cells := 0, slots := 0, locals := 72 } : Room) s m args below meth c H locs 0 0 Q (F0 m 2 ls []) := by
    intro n2
    induction n2 with
    | zero => intro j2_1 ij2_1 H locs hw  hn_2   ls hl; exact absurd hn_2 (Nat.not_lt_zero _)
    | succ n2 ih_2 =>
      intro j2_1 ij2_1 H locs hw  hn_2   ls hl
      refine lv_iload_n hx hb dX10_least_2 rfl (lv_at hl 1 rfl) ?_
      refine lv_bipush (v := 99) hx hb dX10_least_3 (by decide) ?_
      refine lv_icmp_gt (tgt := 45) hx hb dX10_least_5 (by decide) (fun c1 => ?_) (fun c1 => ?_)
      · --
        have i2 : Iv j2_1 100 100 := iv_lt2 c1 (⟨by decide, by decide⟩ : Iv 99 99 99) ij2_1 (by decide)
        refine lv_bipush (v := (-2)) hx hb dX10_least_45 (by decide) ?_
        rw [← hQ]
        exact o_ri cx rx hw dX10_least_47 ⟨fr, (iv_w (⟨by decide, by decide⟩ : Iv (-2) (-2) (-2)) (by decide))⟩
      · --
        have i3 : Iv j2_1 0 99 := iv_le1 (iv_nlt c1) ij2_1 (⟨by decide, by decide⟩ : Iv 99 99 99) (by decide)
        refine lv_aload_n hx hb dX10_least_8 rfl (lv_at hl 0 rfl) ?_
        refine g_581 cx hw ha0 k_f_X10_49 dX10_least_9 (fun v4 e4 h4 => ?_)
        refine lv_iload_n hx hb dX10_least_12 rfl (lv_at hl 1 rfl) ?_
        refine o_ci hw (oRunV cx hA hw q_X6_sizeOfMeeting k_m_X10_367 rfl h4 (by decide) (As := [.int j2_1]) (c_X6_sizeOfMeeting v4 h4 j2_1) (by decide) rfl hl.1 rfl (Nat.le_of_ble_eq_true rfl) dX10_least_13 (by decide)) (fun v6 σ5 H locs hp hw => ?_)
        obtain ⟨p6_0, p6_1⟩ := hp
        rw [p6_0] at hw
        refine lv_istore_n (lv' := [(2, .int v6), (0, .ref a0), (1, .int j2_1)]) hx hb dX10_least_16 rfl hl (by decide) rfl (fun ls hl => ?_)
        refine lv_iload_n hx hb dX10_least_17 rfl (lv_at hl 0 rfl) ?_
        refine lv_if_le (tgt := 39) hx hb dX10_least_18 (by decide) (fun c7 => ?_) (fun c7 => ?_)
        · --
          have i8 : Iv v6 0 0 := iv_le1 c7 p6_1 (⟨by decide, by decide⟩ : Iv 0 0 0) (by decide)
          obtain ⟨v9, e9⟩ : ∃ y : Int32, y = j2_1 + 1 := ⟨_, rfl⟩
          have i9 : Iv v9 1 100 := iv_add e9 i3 (⟨by decide, by decide⟩ : Iv 1 1 1) (by decide)
          have x9 : v9.toInt = j2_1.toInt + 1 := ex_add e9 i3 (⟨by decide, by decide⟩ : Iv 1 1 1) (by decide)
          refine lv_iinc (v := v9) (lv' := [(1, .int v9), (2, .int v6), (0, .ref a0)]) hx hb dX10_least_39 hl (k := 2) rfl (by rw [e9]; rfl) (by decide) rfl (fun ls hl => ?_)
          refine lv_goto (tgt := 2) hx hb dX10_least_42 (by decide) ?_
          exact ih_2 v9 (iv_w i9 (by decide)) _ _ hw (ms_up x9 (by decide) (iv_w (a' := 0) (b' := 100) i9 (by decide)).2 hn_2) _ (lv_sub hl [2, 0] rfl)
        · --
          have i10 : Iv v6 1 127 := iv_lt2 (iv_nle c7) (⟨by decide, by decide⟩ : Iv 0 0 0) p6_1 (by decide)
          refine lv_aload_n hx hb dX10_least_21 rfl (lv_at hl 1 rfl) ?_
          refine g_577 cx hw ha0 k_f_X10_19 dX10_least_22 (fun v11 e11 h11 => ?_)
          refine o_cv hw (oRunV cx hA hw q_X4_start k_m_X10_292 rfl h11 (by decide) (As := []) (c_X4_start v11 h11) (by decide) rfl hl.1 rfl (Nat.le_of_ble_eq_true rfl) dX10_least_25 (by decide)) (fun σ12 H locs hp hw => ?_)
          have p13_0 := hp
          have fr := oFr_tr fr p13_0 (by decide)
          refine lv_aload_n hx hb dX10_least_28 rfl (lv_at hl 1 rfl) ?_
          refine g_577 cx hw ha0 k_f_X10_19 dX10_least_29 (fun v14 e14 h14 => ?_)
          rw [show v14 = v11 from Option.some.inj (e14.symm.trans (((kr_c p13_0 (by decide)).trans e11)))]
          refine lv_iload_n hx hb dX10_least_32 rfl (lv_at hl 0 rfl) ?_
          refine lv_i2l hx hb dX10_least_33 rfl ?_
          refine lv_topl (fun v15 e15 => ?_)
          refine o_cv hw (oRunV cx hA hw q_X4_put k_m_X10_295 rfl h11 (by decide) (As := [.long v15]) (c_X4_put v11 h11 v15) (by decide) rfl hl.1 rfl (Nat.le_of_ble_eq_true rfl) dX10_least_34 (by decide)) (fun σ16 H locs hp hw => ?_)
          have p17_0 := hp
          have fr := oFr_tr fr p17_0 (by decide)
          refine lv_iload_n hx hb dX10_least_37 rfl (lv_at hl 2 rfl) ?_
          rw [← hQ]
          exact o_ri cx rx hw dX10_least_38 ⟨fr, (iv_w i3 (by decide))⟩
  exact J_2 _ 0 (iv_w (⟨by decide, by decide⟩ : Iv 0 0 0) (by decide)) _ _ hw (Nat.lt_succ_self _) _ (lv_sub hl [1, 0] rfl)
abbrev fs_X10_furthest : List Nat := [193]
abbrev ts_X10_furthest : List Nat := [32, 36]
set_option maxHeartbeats 4000000 in
set_option maxRecDepth 100000 in
theorem c_X10_furthest (a0 : Nat) (ha0 : oA L τ a0 9) (a1 : Int32) : oMet l A L τ cy D K yX10_furthest cX10_furthest 5 (some .int) 3 66 [.ref a0, .int a1] σ (va_Qi (fun r σ1 => oFr τ fs_X10_furthest ts_X10_furthest σ σ1 ∧ Iv r (-2) 63) (oPo A L τ cy D) A) := by
  refine oMk (by decide) (Nat.le_of_ble_eq_true rfl) rfl ?_
  intro p e s m args below meth c ls cx rx hA hw hl
  generalize hQ : MQ below _ args s 0 0 A = Q
  have hx := cx.1.1
  have hb := cx.1.2.1
  have hml := cx.1.2.2.1
  have hown := cx.1.2.2.2.1
  have hts := cx.1.2.2.2.2
  have hl : lv_has ls 5 [(0, .ref a0), (1, .int a1)] := hl
  have fr : oFr τ fs_X10_furthest ts_X10_furthest σ σ := oFr_rf
  refine lv_aload_n hx hb dX10_furthest_0 rfl (lv_at hl 0 rfl) ?_
  refine g_578 cx hw ha0 k_f_X10_26 dX10_furthest_1 (fun v1 e1 h1 => ?_)
  refine lv_iload_n hx hb dX10_furthest_4 rfl (lv_at hl 1 rfl) ?_
  refine o_ci hw (oRunV cx hA hw q_X2_isThere k_m_X10_135 rfl h1 (by decide) (As := [.int a1]) (c_X2_isThere v1 h1 a1) (by decide) rfl hl.1 rfl (Nat.le_of_ble_eq_true rfl) dX10_furthest_5 (by decide)) (fun v3 σ2 H locs hp hw => ?_)
  obtain ⟨p3_0, p3_1, p3_2⟩ := hp
  rw [p3_0] at hw
  refine lv_if_ne (tgt := 13) hx hb dX10_furthest_8 (by decide) (fun c4 => ?_) (fun c4 => ?_)
  · --
    have i5 : Iv v3 1 1 := iv_ne1 c4 p3_1 (⟨by decide, by decide⟩ : Iv 0 0 0) (by decide)
    have i6 : Iv a1 0 63 := p3_2 c4
    refine lv_aload_n hx hb dX10_furthest_13 rfl (lv_at hl 0 rfl) ?_
    refine g_584 cx hw ha0 k_f_X10_68 dX10_furthest_14 (fun v7 e7 h7 => ?_)
    refine lv_aload_n hx hb dX10_furthest_17 rfl (lv_at hl 0 rfl) ?_
    refine o_cl hw (oRunV cx hA hw q_X10_roadNow k_m_X10_335 rfl ha0 (by decide) (As := []) (c_X10_roadNow a0 ha0) (by decide) rfl hl.1 rfl (Nat.le_of_ble_eq_true rfl) dX10_furthest_18 (by decide)) (fun v9 σ8 H locs hp hw => ?_)
    have p9_0 := hp
    rw [p9_0] at hw
    refine lv_iload_n hx hb dX10_furthest_21 rfl (lv_at hl 1 rfl) ?_
    refine o_cv hw (oRunV cx hA hw q_X8_measure k_m_X10_354 rfl h7 (by decide) (As := [.long v9, .int a1]) (c_X8_measure v7 h7 v9 a1) (by decide) rfl hl.1 rfl (Nat.le_of_ble_eq_true rfl) dX10_furthest_22 (by decide)) (fun σ10 H locs hp hw => ?_)
    have p11_0 := hp
    have fr := oFr_tr fr p11_0 (by decide)
    refine lv_aload_n hx hb dX10_furthest_25 rfl (lv_at hl 0 rfl) ?_
    refine g_584 cx hw ha0 k_f_X10_68 dX10_furthest_26 (fun v12 e12 h12 => ?_)
    rw [show v12 = v7 from Option.some.inj (e12.symm.trans (((kr_c p11_0 (by decide)).trans e7)))]
    refine g_448 cx hw h7 k_f_X10_358 dX10_furthest_29 (fun v13 e13 h13 => ?_)
    refine lv_iload_n hx hb dX10_furthest_32 rfl (lv_at hl 1 rfl) ?_
    refine o_iald cx hw h13 (by decide) rfl (iv_in i6 (by decide)) dX10_furthest_33 (fun v14 e14 b14 => ?_)
    refine lv_iconst (v := (-1)) hx hb dX10_furthest_34 (by decide) ?_
    refine lv_icmp_ne (tgt := 41) hx hb dX10_furthest_35 (by decide) (fun c15 => ?_) (fun c15 => ?_)
    · --
      refine lv_iload_n hx hb dX10_furthest_41 rfl (lv_at hl 1 rfl) ?_
      refine lv_istore_n (lv' := [(2, .int a1), (0, .ref a0), (1, .int a1)]) hx hb dX10_furthest_42 rfl hl (by decide) rfl (fun ls hl => ?_)
      refine lv_iconst (v := 0) hx hb dX10_furthest_43 (by decide) ?_
      refine lv_istore_n (lv' := [(3, .int 0), (2, .int a1), (0, .ref a0), (1, .int a1)]) hx hb dX10_furthest_44 rfl hl (by decide) rfl (fun ls hl => ?_)
      refine lv_iconst (v := 0) hx hb dX10_furthest_45 (by decide) ?_
      refine lv_istore (lv' := [(4, .int 0), (3, .int 0), (2, .int a1), (0, .ref a0), (1, .int a1)]) hx hb dX10_furthest_46 hl (by decide) rfl (fun ls hl => ?_)
      have J_48 : ∀ n48 : Nat, ∀ (j48_2 : Int32) (ij48_2 : Iv j48_2 0 63) (j48_3 : Int32) (j48_4 : Int32) (ij48_4 : Iv j48_4 0 64), ∀ (H : Heap) (locs : List Loc), oI A L τ cy D s.heap σ10 H locs → (64 - j48_4.toInt).toNat < n48 → ∀ (ls : Array Slot), lv_has ls 5 [(0, .ref a0), (1, .int a1), (2, .int j48_2), (3, .int j48_3), (4, .int j48_4)] → W p l e ({ frames := 3, cells := 0, slots := 0, locals := 66 } : Room) s m args below meth c H locs 0 0 Q (F0 m 48 ls []) := by
        intro n48
        induction n48 with
        | zero => intro j48_2 ij48_2 j48_3 j48_4 ij48_4 H locs hw  hn_48   ls hl; exact absurd hn_48 (Nat.not_lt_zero _)
        | succ n48 ih_48 =>
          intro j48_2 ij48_2 j48_3 j48_4 ij48_4 H locs hw  hn_48   ls hl
          refine lv_iload hx hb dX10_furthest_48 (lv_at hl 4 rfl) ?_
          refine lv_bipush (v := 64) hx hb dX10_furthest_50 (by decide) ?_
          refine lv_icmp_ge (tgt := 89) hx hb dX10_furthest_52 (by decide) (fun c16 => ?_) (fun c16 => ?_)
          · --
            have i17 : Iv j48_4 64 64 := iv_le2 c16 (⟨by decide, by decide⟩ : Iv 64 64 64) ij48_4 (by decide)
            refine lv_aload_n hx hb dX10_furthest_89 rfl (lv_at hl 0 rfl) ?_
            refine g_577 cx hw ha0 k_f_X10_19 dX10_furthest_90 (fun v18 e18 h18 => ?_)
            refine o_cv hw (oRunV cx hA hw q_X4_start k_m_X10_292 rfl h18 (by decide) (As := []) (c_X4_start v18 h18) (by decide) rfl hl.1 rfl (Nat.le_of_ble_eq_true rfl) dX10_furthest_93 (by decide)) (fun σ19 H locs hp hw => ?_)
            have p20_0 := hp
            have fr := oFr_tr fr p20_0 (by decide)
            refine lv_aload_n hx hb dX10_furthest_96 rfl (lv_at hl 0 rfl) ?_
            refine g_577 cx hw ha0 k_f_X10_19 dX10_furthest_97 (fun v21 e21 h21 => ?_)
            rw [show v21 = v18 from Option.some.inj (e21.symm.trans (((kr_c p20_0 (by decide)).trans e18)))]
            refine lv_iload_n hx hb dX10_furthest_100 rfl (lv_at hl 3 rfl) ?_
            refine lv_i2l hx hb dX10_furthest_101 rfl ?_
            refine lv_topl (fun v22 e22 => ?_)
            refine o_cv hw (oRunV cx hA hw q_X4_put k_m_X10_295 rfl h18 (by decide) (As := [.long v22]) (c_X4_put v18 h18 v22) (by decide) rfl hl.1 rfl (Nat.le_of_ble_eq_true rfl) dX10_furthest_102 (by decide)) (fun σ23 H locs hp hw => ?_)
            have p24_0 := hp
            have fr := oFr_tr fr p24_0 (by decide)
            refine lv_iload_n hx hb dX10_furthest_105 rfl (lv_at hl 2 rfl) ?_
            rw [← hQ]
            exact o_ri cx rx hw dX10_furthest_106 ⟨fr, (iv_w ij48_2 (by decide))⟩
          · --
            have i25 : Iv j48_4 0 63 := iv_lt1 (iv_nle c16) ij48_4 (⟨by decide, by decide⟩ : Iv 64 64 64) (by decide)
            refine lv_aload_n hx hb dX10_furthest_55 rfl (lv_at hl 0 rfl) ?_
            refine g_584 cx hw ha0 k_f_X10_68 dX10_furthest_56 (fun v26 e26 h26 => ?_)
            rw [show v26 = v7 from Option.some.inj (e26.symm.trans (((kr_c p11_0 (by decide)).trans e7)))]
            refine g_448 cx hw h7 k_f_X10_358 dX10_furthest_59 (fun v27 e27 h27 => ?_)
            rw [show v27 = v13 from Option.some.inj (e27.symm.trans (e13))]
            refine lv_iload hx hb dX10_furthest_62 (lv_at hl 4 rfl) ?_
            refine o_iald cx hw h13 (by decide) rfl (iv_in i25 (by decide)) dX10_furthest_64 (fun v28 e28 b28 => ?_)
            refine lv_iload_n hx hb dX10_furthest_65 rfl (lv_at hl 3 rfl) ?_
            have J_83 : ∀ (j83_2 : Int32) (ij83_2 : Iv j83_2 0 63) (j83_3 : Int32), ∀ (H : Heap) (locs : List Loc), oI A L τ cy D s.heap σ10 H locs → ∀ (ls : Array Slot), lv_has ls 5 [(0, .ref a0), (1, .int a1), (2, .int j83_2), (3, .int j83_3), (4, .int j48_4)] → W p l e ({ frames := 3, cells := 0, slots := 0, locals := 66 } : Room) s m args below meth c H locs 0 0 Q (F0 m 83 ls []) := by
              intro j83_2 ij83_2 j83_3 H locs hw     ls hl
              obtain ⟨v29, e29⟩ : ∃ y : Int32, y = j48_4 + 1 := ⟨_, rfl⟩
              have i29 : Iv v29 1 64 := iv_add e29 i25 (⟨by decide, by decide⟩ : Iv 1 1 1) (by decide)
              have x29 : v29.toInt = j48_4.toInt + 1 := ex_add e29 i25 (⟨by decide, by decide⟩ : Iv 1 1 1) (by decide)
              refine lv_iinc (v := v29) (lv' := [(4, .int v29), (0, .ref a0), (1, .int a1), (2, .int j83_2), (3, .int j83_3)]) hx hb dX10_furthest_83 hl (k := 4) rfl (by rw [e29]; rfl) (by decide) rfl (fun ls hl => ?_)
              refine lv_goto (tgt := 48) hx hb dX10_furthest_86 (by decide) ?_
              exact ih_48 j83_2 ij83_2 j83_3 v29 (iv_w i29 (by decide)) _ _ hw (ms_up x29 (by decide) (iv_w (a' := 0) (b' := 64) i29 (by decide)).2 hn_48) _ (lv_sub hl [1, 2, 3, 4, 0] rfl)
            refine lv_icmp_le (tgt := 83) hx hb dX10_furthest_66 (by decide) (fun c30 => ?_) (fun c30 => ?_)
            · --
              exact J_83 j48_2 ij48_2 j48_3 _ _ hw _ (lv_sub hl [0, 1, 2, 3, 4] rfl)
            · --
              have i31 : Iv j48_3 (-2147483648) 2147483646 := iv_lt1 (iv_nle c30) (iv_top j48_3) (iv_top v28) (by decide)
              have i32 : Iv v28 (-2147483647) 2147483647 := iv_lt2 (iv_nle c30) (iv_top j48_3) (iv_top v28) (by decide)
              refine lv_aload_n hx hb dX10_furthest_69 rfl (lv_at hl 0 rfl) ?_
              refine g_584 cx hw ha0 k_f_X10_68 dX10_furthest_70 (fun v33 e33 h33 => ?_)
              rw [show v33 = v7 from Option.some.inj (e33.symm.trans (((kr_c p11_0 (by decide)).trans e7)))]
              refine g_448 cx hw h7 k_f_X10_358 dX10_furthest_73 (fun v34 e34 h34 => ?_)
              rw [show v34 = v13 from Option.some.inj (e34.symm.trans (e13))]
              refine lv_iload hx hb dX10_furthest_76 (lv_at hl 4 rfl) ?_
              refine o_iald cx hw h13 (by decide) rfl (iv_in i25 (by decide)) dX10_furthest_78 (fun v35 e35 b35 => ?_)
              refine lv_istore_n (lv' := [(3, .int v35), (0, .ref a0), (1, .int a1), (2, .int j48_2), (4, .int j48_4)]) hx hb dX10_furthest_79 rfl hl (by decide) rfl (fun ls hl => ?_)
              refine lv_iload hx hb dX10_furthest_80 (lv_at hl 4 rfl) ?_
              refine lv_istore_n (lv' := [(2, .int j48_4), (3, .int v35), (0, .ref a0), (1, .int a1), (4, .int j48_4)]) hx hb dX10_furthest_82 rfl hl (by decide) rfl (fun ls hl => ?_)
              exact J_83 j48_4 i25 v35 _ _ hw _ (lv_sub hl [2, 3, 0, 1, 4] rfl)
      exact J_48 _ a1 i6 0 0 (iv_w (⟨by decide, by decide⟩ : Iv 0 0 0) (by decide)) _ _ hw (Nat.lt_succ_self _) _ (lv_sub hl [3, 4, 2, 1, 0] rfl)
    · --
      have i36 : Iv v14 (-1) (-1) := iv_eq1 c15 (iv_top v14) (⟨by decide, by decide⟩ : Iv (-1) (-1) (-1)) (by decide)
      refine lv_bipush (v := (-2)) hx hb dX10_furthest_38 (by decide) ?_
      rw [← hQ]
      exact o_ri cx rx hw dX10_furthest_40 ⟨fr, (iv_w (⟨by decide, by decide⟩ : Iv (-2) (-2) (-2)) (by decide))⟩
  · --
    have i37 : Iv v3 0 0 := iv_eq1 c4 p3_1 (⟨by decide, by decide⟩ : Iv 0 0 0) (by decide)
    refine lv_iconst (v := (-1)) hx hb dX10_furthest_11 (by decide) ?_
    rw [← hQ]
    exact o_ri cx rx hw dX10_furthest_12 ⟨fr, (iv_w (⟨by decide, by decide⟩ : Iv (-1) (-1) (-1)) (by decide))⟩
abbrev fs_X10_where : List Nat := [193, 327, 328, 329, 330, 331, 517]
abbrev ts_X10_where : List Nat := [32, 33, 34, 36, 37, 38]
set_option maxHeartbeats 4000000 in
set_option maxRecDepth 100000 in
theorem c_X10_where (a0 : Nat) (ha0 : oA L τ a0 9) (a1 : Int32) (a2 : Int32) : oMet l A L τ cy D K yX10_where cX10_where 4 (some .int) 6 151 [.ref a0, .int a1, .int a2] σ (va_Qi (fun r σ1 => oFr τ fs_X10_where ts_X10_where σ σ1 ∧ Iv r (-1) 63 ∧ (∀ V, NV σ a0 V → NV σ1 a0 V)) (oPo A L τ cy D) A) := by
  refine oMk (by decide) (Nat.le_of_ble_eq_true rfl) rfl ?_
  intro p e s m args below meth c ls cx rx hA hw hl
  generalize hQ : MQ below _ args s 0 0 A = Q
  have hx := cx.1.1
  have hb := cx.1.2.1
  have hml := cx.1.2.2.1
  have hown := cx.1.2.2.2.1
  have hts := cx.1.2.2.2.2
  have hl : lv_has ls 4 [(0, .ref a0), (1, .int a1), (2, .int a2)] := hl
  have fr : oFr τ fs_X10_where ts_X10_where σ σ := oFr_rf
  obtain ⟨b581, hF581, hb581⟩ := hw.2.2.2.2.2 581 a0 5 (by rw [ha0.2]; rfl) ha0.1
  obtain ⟨b582, hF582, hb582⟩ := hw.2.2.2.2.2 582 a0 5 (by rw [ha0.2]; rfl) ha0.1
  obtain ⟨b583, hF583, hb583⟩ := hw.2.2.2.2.2 583 a0 0 (by rw [ha0.2]; rfl) ha0.1
  obtain ⟨b585, hF585, hb585⟩ := hw.2.2.2.2.2 585 a0 2 (by rw [ha0.2]; rfl) ha0.1
  obtain ⟨b586, hF586, hb586⟩ := hw.2.2.2.2.2 586 a0 41 (by rw [ha0.2]; rfl) ha0.1
  refine lv_aload_n hx hb dX10_where_0 rfl (lv_at hl 0 rfl) ?_
  refine g_581 cx hw ha0 k_f_X10_49 dX10_where_1 (fun v1 e1 h1 => ?_)
  rw [show v1 = b581 from Option.some.inj (e1.symm.trans (hF581))]
  refine lv_iload_n hx hb dX10_where_4 rfl (lv_at hl 1 rfl) ?_
  refine o_ci hw (oRunV cx hA hw q_X6_hasHerd k_m_X10_178 rfl hb581 (by decide) (As := [.int a1]) (c_X6_hasHerd b581 hb581 a1) (by decide) rfl hl.1 rfl (Nat.le_of_ble_eq_true rfl) dX10_where_5 (by decide)) (fun v3 σ2 H locs hp hw => ?_)
  obtain ⟨p3_0, p3_1, p3_2⟩ := hp
  rw [p3_0] at hw
  refine lv_if_eq (tgt := 21) hx hb dX10_where_8 (by decide) (fun c4 => ?_) (fun c4 => ?_)
  · --
    have i5 : Iv v3 0 0 := iv_eq1 c4 p3_1 (⟨by decide, by decide⟩ : Iv 0 0 0) (by decide)
    refine lv_iconst (v := (-1)) hx hb dX10_where_21 (by decide) ?_
    rw [← hQ]
    exact o_ri cx rx hw dX10_where_22 ⟨fr, (iv_w (⟨by decide, by decide⟩ : Iv (-1) (-1) (-1)) (by decide)), (by intro V h; exact h)⟩
  · --
    have i6 : Iv v3 1 1 := iv_ne1 c4 p3_1 (⟨by decide, by decide⟩ : Iv 0 0 0) (by decide)
    have i7 : Iv a1 0 5 := p3_2 c4
    refine lv_iload_n hx hb dX10_where_11 rfl (lv_at hl 2 rfl) ?_
    refine lv_if_lt (tgt := 21) hx hb dX10_where_12 (by decide) (fun c8 => ?_) (fun c8 => ?_)
    · --
      have i9 : Iv a2 (-2147483648) (-1) := iv_lt1 c8 (iv_top a2) (⟨by decide, by decide⟩ : Iv 0 0 0) (by decide)
      refine lv_iconst (v := (-1)) hx hb dX10_where_21 (by decide) ?_
      rw [← hQ]
      exact o_ri cx rx hw dX10_where_22 ⟨fr, (iv_w (⟨by decide, by decide⟩ : Iv (-1) (-1) (-1)) (by decide)), (by intro V h; exact h)⟩
    · --
      have i10 : Iv a2 0 2147483647 := iv_le2 (iv_nlt c8) (⟨by decide, by decide⟩ : Iv 0 0 0) (iv_top a2) (by decide)
      refine lv_iload_n hx hb dX10_where_15 rfl (lv_at hl 2 rfl) ?_
      refine lv_bipush (v := 100) hx hb dX10_where_16 (by decide) ?_
      refine lv_icmp_le (tgt := 23) hx hb dX10_where_18 (by decide) (fun c11 => ?_) (fun c11 => ?_)
      · --
        have i12 : Iv a2 0 100 := iv_le1 c11 i10 (⟨by decide, by decide⟩ : Iv 100 100 100) (by decide)
        refine lv_aload_n hx hb dX10_where_23 rfl (lv_at hl 0 rfl) ?_
        refine g_583 cx hw ha0 k_f_X10_61 dX10_where_24 (fun v13 e13 h13 => ?_)
        rw [show v13 = b583 from Option.some.inj (e13.symm.trans (hF583))]
        refine lv_iload_n hx hb dX10_where_27 rfl (lv_at hl 2 rfl) ?_
        refine o_cr hw (oRunV cx hA hw q_X1_lookOn k_m_X10_373 rfl hb583 (by decide) (As := [.int a2]) (c_X1_lookOn b583 hb583 a2) (by decide) rfl hl.1 rfl (Nat.le_of_ble_eq_true rfl) dX10_where_28 (by decide)) (fun v15 σ14 H locs hp hw => ?_)
        obtain ⟨p15_0, p15_1, p15_2⟩ := hp
        have fr := oFr_tr fr p15_0 (by decide)
        have nn16 : ∀ V, NV σ a0 V → NV σ14 a0 V := fun V h => by
          have h1 : NV σ a0 V := h
          exact nv_c h1 p15_0 (by decide +kernel) (u_v (p15_2 b581 (nv_F h1 (hF583) (hF581))) (nv_P h1 (hF581)))
        refine lv_astore_n (lv' := [(3, .ref v15), (0, .ref a0), (1, .int a1), (2, .int a2)]) hx hb dX10_where_31 rfl hl (by decide) rfl (fun ls hl => ?_)
        refine lv_aload_n hx hb dX10_where_32 rfl (lv_at hl 1 rfl) ?_
        refine g_577 cx hw ha0 k_f_X10_19 dX10_where_33 (fun v17 e17 h17 => ?_)
        refine o_cv hw (oRunV cx hA hw q_X4_start k_m_X10_292 rfl h17 (by decide) (As := []) (c_X4_start v17 h17) (by decide) rfl hl.1 rfl (Nat.le_of_ble_eq_true rfl) dX10_where_36 (by decide)) (fun σ18 H locs hp hw => ?_)
        have p19_0 := hp
        have fr := oFr_tr fr p19_0 (by decide)
        refine lv_aload_n hx hb dX10_where_39 rfl (lv_at hl 1 rfl) ?_
        refine g_577 cx hw ha0 k_f_X10_19 dX10_where_40 (fun v20 e20 h20 => ?_)
        rw [show v20 = v17 from Option.some.inj (e20.symm.trans (((kr_c p19_0 (by decide)).trans e17)))]
        refine lv_aload_n hx hb dX10_where_43 rfl (lv_at hl 0 rfl) ?_
        refine g_329 cx hw p15_1 k_f_X10_192 dX10_where_44 (fun v21 e21 => ?_)
        have z21 : v21.toInt = (σ18.1 329 v15).toInt := congrArg Int32.toInt e21
        refine lv_iload_n hx hb dX10_where_47 rfl (lv_at hl 2 rfl) ?_
        refine lv_ishr hx hb dX10_where_48 ?_
        refine lv_topi (fun v22 e22 => ?_)
        refine lv_iconst (v := 1) hx hb dX10_where_49 (by decide) ?_
        refine lv_iand hx hb dX10_where_50 ?_
        refine lv_topi (fun v23 e23 => ?_)
        have i23 : Iv v23 0 1 := iv_and e23 (⟨by decide, by decide⟩ : Iv 1 1 1) (by decide)
        refine lv_i2l hx hb dX10_where_51 rfl ?_
        refine lv_topl (fun v24 e24 => ?_)
        refine o_cv hw (oRunV cx hA hw q_X4_put k_m_X10_295 rfl h17 (by decide) (As := [.long v24]) (c_X4_put v17 h17 v24) (by decide) rfl hl.1 rfl (Nat.le_of_ble_eq_true rfl) dX10_where_52 (by decide)) (fun σ25 H locs hp hw => ?_)
        have p26_0 := hp
        have fr := oFr_tr fr p26_0 (by decide)
        refine lv_aload_n hx hb dX10_where_55 rfl (lv_at hl 1 rfl) ?_
        refine g_577 cx hw ha0 k_f_X10_19 dX10_where_56 (fun v27 e27 h27 => ?_)
        rw [show v27 = v17 from Option.some.inj (e27.symm.trans (((kr_c p26_0 (by decide)).trans ((kr_c p19_0 (by decide)).trans e17))))]
        refine lv_aload_n hx hb dX10_where_59 rfl (lv_at hl 0 rfl) ?_
        refine lv_aload_n hx hb dX10_where_60 rfl (lv_at hl 1 rfl) ?_
        refine g_580 cx hw ha0 k_f_X10_42 dX10_where_61 (fun v28 e28 h28 => ?_)
        refine g_514 cx hw h28 k_f_X10_167 dX10_where_64 (fun v29 e29 => ?_)
        have z29 : v29.toInt = (σ25.1 514 v28).toInt := congrArg Int32.toInt e29
        refine o_cl hw (oRunV cx hA hw q_X6_roadCells k_m_X10_370 rfl p15_1 (by decide) (As := [.int v29]) (c_X6_roadCells v15 p15_1 v29) (by decide) rfl hl.1 rfl (Nat.le_of_ble_eq_true rfl) dX10_where_67 (by decide)) (fun v31 σ30 H locs hp hw => ?_)
        have p31_0 := hp
        rw [p31_0] at hw
        refine o_ci hw (oRunS cx hA hw q_J13_bitCount_95d88 k_m_X10_349 (As := [.long v31]) (c_J13_bitCount_95d88 v31) (by decide) rfl hl.1 rfl (Nat.le_of_ble_eq_true rfl) dX10_where_70 (by decide)) (fun v33 σ32 H locs hp hw => ?_)
        obtain ⟨p33_0, p33_1⟩ := hp
        rw [p33_0] at hw
        refine lv_i2l hx hb dX10_where_73 rfl ?_
        refine lv_topl (fun v34 e34 => ?_)
        refine o_cv hw (oRunV cx hA hw q_X4_put k_m_X10_295 rfl h17 (by decide) (As := [.long v34]) (c_X4_put v17 h17 v34) (by decide) rfl hl.1 rfl (Nat.le_of_ble_eq_true rfl) dX10_where_74 (by decide)) (fun σ35 H locs hp hw => ?_)
        have p36_0 := hp
        have fr := oFr_tr fr p36_0 (by decide)
        refine lv_aload_n hx hb dX10_where_77 rfl (lv_at hl 0 rfl) ?_
        refine g_325 cx hw p15_1 k_f_X10_183 dX10_where_78 (fun v37 e37 h37 => ?_)
        refine lv_iload_n hx hb dX10_where_81 rfl (lv_at hl 2 rfl) ?_
        refine o_iald cx hw h37 (by decide) rfl (iv_in i7 (by decide)) dX10_where_82 (fun v38 e38 b38 => ?_)
        have i38 : Iv v38 0 63 := b38
        rw [← hQ]
        exact o_ri cx rx hw dX10_where_83 ⟨fr, (iv_w i38 (by decide)), (by intro V h; exact (nv_0 (nv_0 (nv_0 (nn16 V h) p19_0 (by decide +kernel)) p26_0 (by decide +kernel)) p36_0 (by decide +kernel)))⟩
      · --
        have i39 : Iv a2 101 2147483647 := iv_lt2 (iv_nle c11) (⟨by decide, by decide⟩ : Iv 100 100 100) i10 (by decide)
        refine lv_iconst (v := (-1)) hx hb dX10_where_21 (by decide) ?_
        rw [← hQ]
        exact o_ri cx rx hw dX10_where_22 ⟨fr, (iv_w (⟨by decide, by decide⟩ : Iv (-1) (-1) (-1)) (by decide)), (by intro V h; exact h)⟩
abbrev fs_X10_roadin : List Nat := [193, 327, 328, 329, 330, 331, 517]
abbrev ts_X10_roadin : List Nat := [32, 33, 34, 36, 37, 38]
set_option maxHeartbeats 4000000 in
set_option maxRecDepth 100000 in
theorem c_X10_roadin (a0 : Nat) (ha0 : oA L τ a0 9) (a1 : Int32) : oMet l A L τ cy D K yX10_roadin cX10_roadin 4 (some .int) 6 151 [.ref a0, .int a1] σ (va_Qi (fun r σ1 => oFr τ fs_X10_roadin ts_X10_roadin σ σ1 ∧ Iv r (-1) 127 ∧ (∀ V, NV σ a0 V → NV σ1 a0 V)) (oPo A L τ cy D) A) := by
  refine oMk (by decide) (Nat.le_of_ble_eq_true rfl) rfl ?_
  intro p e s m args below meth c ls cx rx hA hw hl
  generalize hQ : MQ below _ args s 0 0 A = Q
  have hx := cx.1.1
  have hb := cx.1.2.1
  have hml := cx.1.2.2.1
  have hown := cx.1.2.2.2.1
  have hts := cx.1.2.2.2.2
  have hl : lv_has ls 4 [(0, .ref a0), (1, .int a1)] := hl
  have fr : oFr τ fs_X10_roadin ts_X10_roadin σ σ := oFr_rf
  obtain ⟨b581, hF581, hb581⟩ := hw.2.2.2.2.2 581 a0 5 (by rw [ha0.2]; rfl) ha0.1
  obtain ⟨b582, hF582, hb582⟩ := hw.2.2.2.2.2 582 a0 5 (by rw [ha0.2]; rfl) ha0.1
  obtain ⟨b583, hF583, hb583⟩ := hw.2.2.2.2.2 583 a0 0 (by rw [ha0.2]; rfl) ha0.1
  obtain ⟨b585, hF585, hb585⟩ := hw.2.2.2.2.2 585 a0 2 (by rw [ha0.2]; rfl) ha0.1
  obtain ⟨b586, hF586, hb586⟩ := hw.2.2.2.2.2 586 a0 41 (by rw [ha0.2]; rfl) ha0.1
  refine lv_iload_n hx hb dX10_roadin_0 rfl (lv_at hl 1 rfl) ?_
  refine lv_if_lt (tgt := 10) hx hb dX10_roadin_1 (by decide) (fun c1 => ?_) (fun c1 => ?_)
  · --
    have i2 : Iv a1 (-2147483648) (-1) := iv_lt1 c1 (iv_top a1) (⟨by decide, by decide⟩ : Iv 0 0 0) (by decide)
    refine lv_iconst (v := (-1)) hx hb dX10_roadin_10 (by decide) ?_
    rw [← hQ]
    exact o_ri cx rx hw dX10_roadin_11 ⟨fr, (iv_w (⟨by decide, by decide⟩ : Iv (-1) (-1) (-1)) (by decide)), (by intro V h; exact h)⟩
  · --
    have i3 : Iv a1 0 2147483647 := iv_le2 (iv_nlt c1) (⟨by decide, by decide⟩ : Iv 0 0 0) (iv_top a1) (by decide)
    refine lv_iload_n hx hb dX10_roadin_4 rfl (lv_at hl 1 rfl) ?_
    refine lv_bipush (v := 100) hx hb dX10_roadin_5 (by decide) ?_
    refine lv_icmp_le (tgt := 12) hx hb dX10_roadin_7 (by decide) (fun c4 => ?_) (fun c4 => ?_)
    · --
      have i5 : Iv a1 0 100 := iv_le1 c4 i3 (⟨by decide, by decide⟩ : Iv 100 100 100) (by decide)
      refine lv_aload_n hx hb dX10_roadin_12 rfl (lv_at hl 0 rfl) ?_
      refine g_583 cx hw ha0 k_f_X10_61 dX10_roadin_13 (fun v6 e6 h6 => ?_)
      rw [show v6 = b583 from Option.some.inj (e6.symm.trans (hF583))]
      refine lv_iload_n hx hb dX10_roadin_16 rfl (lv_at hl 1 rfl) ?_
      refine o_cr hw (oRunV cx hA hw q_X1_lookOn k_m_X10_373 rfl hb583 (by decide) (As := [.int a1]) (c_X1_lookOn b583 hb583 a1) (by decide) rfl hl.1 rfl (Nat.le_of_ble_eq_true rfl) dX10_roadin_17 (by decide)) (fun v8 σ7 H locs hp hw => ?_)
      obtain ⟨p8_0, p8_1, p8_2⟩ := hp
      have fr := oFr_tr fr p8_0 (by decide)
      have nn9 : ∀ V, NV σ a0 V → NV σ7 a0 V := fun V h => by
        have h1 : NV σ a0 V := h
        exact nv_c h1 p8_0 (by decide +kernel) (u_v (p8_2 b581 (nv_F h1 (hF583) (hF581))) (nv_P h1 (hF581)))
      refine lv_aload_n hx hb dX10_roadin_20 rfl (lv_at hl 0 rfl) ?_
      refine g_580 cx hw ha0 k_f_X10_42 dX10_roadin_21 (fun v10 e10 h10 => ?_)
      refine g_514 cx hw h10 k_f_X10_167 dX10_roadin_24 (fun v11 e11 => ?_)
      have z11 : v11.toInt = (σ7.1 514 v10).toInt := congrArg Int32.toInt e11
      refine o_cl hw (oRunV cx hA hw q_X6_roadCells k_m_X10_370 rfl p8_1 (by decide) (As := [.int v11]) (c_X6_roadCells v8 p8_1 v11) (by decide) rfl hl.1 rfl (Nat.le_of_ble_eq_true rfl) dX10_roadin_27 (by decide)) (fun v13 σ12 H locs hp hw => ?_)
      have p13_0 := hp
      rw [p13_0] at hw
      refine lv_lstore_n (lv' := [(2, .long v13), (0, .ref a0), (1, .int a1)]) hx hb dX10_roadin_30 rfl hl (by decide) rfl (fun ls hl => ?_)
      refine lv_aload_n hx hb dX10_roadin_31 rfl (lv_at hl 1 rfl) ?_
      refine g_577 cx hw ha0 k_f_X10_19 dX10_roadin_32 (fun v14 e14 h14 => ?_)
      refine o_cv hw (oRunV cx hA hw q_X4_start k_m_X10_292 rfl h14 (by decide) (As := []) (c_X4_start v14 h14) (by decide) rfl hl.1 rfl (Nat.le_of_ble_eq_true rfl) dX10_roadin_35 (by decide)) (fun σ15 H locs hp hw => ?_)
      have p16_0 := hp
      have fr := oFr_tr fr p16_0 (by decide)
      refine lv_aload_n hx hb dX10_roadin_38 rfl (lv_at hl 1 rfl) ?_
      refine g_577 cx hw ha0 k_f_X10_19 dX10_roadin_39 (fun v17 e17 h17 => ?_)
      rw [show v17 = v14 from Option.some.inj (e17.symm.trans (((kr_c p16_0 (by decide)).trans e14)))]
      refine lv_lload_n hx hb dX10_roadin_42 rfl (lv_at hl 0 rfl) ?_
      refine o_cv hw (oRunV cx hA hw q_X4_put k_m_X10_295 rfl h14 (by decide) (As := [.long v13]) (c_X4_put v14 h14 v13) (by decide) rfl hl.1 rfl (Nat.le_of_ble_eq_true rfl) dX10_roadin_43 (by decide)) (fun σ18 H locs hp hw => ?_)
      have p19_0 := hp
      have fr := oFr_tr fr p19_0 (by decide)
      refine lv_aload_n hx hb dX10_roadin_46 rfl (lv_at hl 1 rfl) ?_
      refine g_577 cx hw ha0 k_f_X10_19 dX10_roadin_47 (fun v20 e20 h20 => ?_)
      rw [show v20 = v14 from Option.some.inj (e20.symm.trans (((kr_c p19_0 (by decide)).trans ((kr_c p16_0 (by decide)).trans e14))))]
      refine lv_aload_n hx hb dX10_roadin_50 rfl (lv_at hl 1 rfl) ?_
      refine o_cl hw (oRunV cx hA hw q_X10_roadNow k_m_X10_335 rfl ha0 (by decide) (As := []) (c_X10_roadNow a0 ha0) (by decide) rfl hl.1 rfl (Nat.le_of_ble_eq_true rfl) dX10_roadin_51 (by decide)) (fun v22 σ21 H locs hp hw => ?_)
      have p22_0 := hp
      rw [p22_0] at hw
      refine lv_lload_n hx hb dX10_roadin_54 rfl (lv_at hl 0 rfl) ?_
      refine lv_ldc2 (v := (-1)) hx hb hown (hts _ k_k_X10_347) dX10_roadin_55 ?_
      refine lv_lxor hx hb dX10_roadin_58 ?_
      refine lv_topl (fun v23 e23 => ?_)
      refine lv_land hx hb dX10_roadin_59 ?_
      refine lv_topl (fun v24 e24 => ?_)
      refine o_cv hw (oRunV cx hA hw q_X4_put k_m_X10_295 rfl h14 (by decide) (As := [.long v24]) (c_X4_put v14 h14 v24) (by decide) rfl hl.1 rfl (Nat.le_of_ble_eq_true rfl) dX10_roadin_60 (by decide)) (fun σ25 H locs hp hw => ?_)
      have p26_0 := hp
      have fr := oFr_tr fr p26_0 (by decide)
      refine lv_lload_n hx hb dX10_roadin_63 rfl (lv_at hl 0 rfl) ?_
      refine o_ci hw (oRunS cx hA hw q_J13_bitCount_95d88 k_m_X10_349 (As := [.long v13]) (c_J13_bitCount_95d88 v13) (by decide) rfl hl.1 rfl (Nat.le_of_ble_eq_true rfl) dX10_roadin_64 (by decide)) (fun v28 σ27 H locs hp hw => ?_)
      obtain ⟨p28_0, p28_1⟩ := hp
      rw [p28_0] at hw
      rw [← hQ]
      exact o_ri cx rx hw dX10_roadin_67 ⟨fr, (iv_w p28_1 (by decide)), (by intro V h; exact (nv_0 (nv_0 (nv_0 (nn9 V h) p16_0 (by decide +kernel)) p19_0 (by decide +kernel)) p26_0 (by decide +kernel)))⟩
    · --
      have i29 : Iv a1 101 2147483647 := iv_lt2 (iv_nle c4) (⟨by decide, by decide⟩ : Iv 100 100 100) i3 (by decide)
      refine lv_iconst (v := (-1)) hx hb dX10_roadin_10 (by decide) ?_
      rw [← hQ]
      exact o_ri cx rx hw dX10_roadin_11 ⟨fr, (iv_w (⟨by decide, by decide⟩ : Iv (-1) (-1) (-1)) (by decide)), (by intro V h; exact h)⟩
abbrev fs_X10_market : List Nat := [193, 327, 328, 329, 330, 331, 517]
abbrev ts_X10_market : List Nat := [32, 33, 34, 36, 37, 38]
set_option maxHeartbeats 4000000 in
set_option maxRecDepth 100000 in
theorem c_X10_market (a0 : Nat) (ha0 : oA L τ a0 9) (a1 : Int32) (a2 : Int32) : oMet l A L τ cy D K yX10_market cX10_market 10 (some .int) 4 106 [.ref a0, .int a1, .int a2] σ (va_Qi (fun r σ1 => oFr τ fs_X10_market ts_X10_market σ σ1 ∧ (∀ V, NV σ a0 V → NV σ1 a0 V)) (oPo A L τ cy D) A) := by
  refine oMk (by decide) (Nat.le_of_ble_eq_true rfl) rfl ?_
  intro p e s m args below meth c ls cx rx hA hw hl
  generalize hQ : MQ below _ args s 0 0 A = Q
  have hx := cx.1.1
  have hb := cx.1.2.1
  have hml := cx.1.2.2.1
  have hown := cx.1.2.2.2.1
  have hts := cx.1.2.2.2.2
  have hl : lv_has ls 10 [(0, .ref a0), (1, .int a1), (2, .int a2)] := hl
  have fr : oFr τ fs_X10_market ts_X10_market σ σ := oFr_rf
  obtain ⟨b581, hF581, hb581⟩ := hw.2.2.2.2.2 581 a0 5 (by rw [ha0.2]; rfl) ha0.1
  obtain ⟨b582, hF582, hb582⟩ := hw.2.2.2.2.2 582 a0 5 (by rw [ha0.2]; rfl) ha0.1
  obtain ⟨b583, hF583, hb583⟩ := hw.2.2.2.2.2 583 a0 0 (by rw [ha0.2]; rfl) ha0.1
  obtain ⟨b585, hF585, hb585⟩ := hw.2.2.2.2.2 585 a0 2 (by rw [ha0.2]; rfl) ha0.1
  obtain ⟨b586, hF586, hb586⟩ := hw.2.2.2.2.2 586 a0 41 (by rw [ha0.2]; rfl) ha0.1
  refine lv_aload_n hx hb dX10_market_0 rfl (lv_at hl 0 rfl) ?_
  refine g_578 cx hw ha0 k_f_X10_26 dX10_market_1 (fun v1 e1 h1 => ?_)
  refine lv_iload_n hx hb dX10_market_4 rfl (lv_at hl 1 rfl) ?_
  refine o_ci hw (oRunV cx hA hw q_X2_isThere k_m_X10_135 rfl h1 (by decide) (As := [.int a1]) (c_X2_isThere v1 h1 a1) (by decide) rfl hl.1 rfl (Nat.le_of_ble_eq_true rfl) dX10_market_5 (by decide)) (fun v3 σ2 H locs hp hw => ?_)
  obtain ⟨p3_0, p3_1, p3_2⟩ := hp
  rw [p3_0] at hw
  refine lv_if_eq (tgt := 22) hx hb dX10_market_8 (by decide) (fun c4 => ?_) (fun c4 => ?_)
  · --
    have i5 : Iv v3 0 0 := iv_eq1 c4 p3_1 (⟨by decide, by decide⟩ : Iv 0 0 0) (by decide)
    refine lv_iconst (v := (-1)) hx hb dX10_market_22 (by decide) ?_
    rw [← hQ]
    exact o_ri cx rx hw dX10_market_23 ⟨fr, (by intro V h; exact h)⟩
  · --
    have i6 : Iv v3 1 1 := iv_ne1 c4 p3_1 (⟨by decide, by decide⟩ : Iv 0 0 0) (by decide)
    have i7 : Iv a1 0 63 := p3_2 c4
    refine lv_iload_n hx hb dX10_market_11 rfl (lv_at hl 2 rfl) ?_
    refine lv_iconst (v := 1) hx hb dX10_market_12 (by decide) ?_
    refine lv_icmp_lt (tgt := 22) hx hb dX10_market_13 (by decide) (fun c8 => ?_) (fun c8 => ?_)
    · --
      have i9 : Iv a2 (-2147483648) 0 := iv_lt1 c8 (iv_top a2) (⟨by decide, by decide⟩ : Iv 1 1 1) (by decide)
      refine lv_iconst (v := (-1)) hx hb dX10_market_22 (by decide) ?_
      rw [← hQ]
      exact o_ri cx rx hw dX10_market_23 ⟨fr, (by intro V h; exact h)⟩
    · --
      have i10 : Iv a2 1 2147483647 := iv_le2 (iv_nlt c8) (⟨by decide, by decide⟩ : Iv 1 1 1) (iv_top a2) (by decide)
      refine lv_iload_n hx hb dX10_market_16 rfl (lv_at hl 2 rfl) ?_
      refine lv_bipush (v := 100) hx hb dX10_market_17 (by decide) ?_
      refine lv_icmp_le (tgt := 24) hx hb dX10_market_19 (by decide) (fun c11 => ?_) (fun c11 => ?_)
      · --
        have i12 : Iv a2 1 100 := iv_le1 c11 i10 (⟨by decide, by decide⟩ : Iv 100 100 100) (by decide)
        refine lv_aload_n hx hb dX10_market_24 rfl (lv_at hl 0 rfl) ?_
        refine g_583 cx hw ha0 k_f_X10_61 dX10_market_25 (fun v13 e13 h13 => ?_)
        rw [show v13 = b583 from Option.some.inj (e13.symm.trans (hF583))]
        refine o_cr hw (oRunV cx hA hw q_X1_begin k_m_X10_377 rfl hb583 (by decide) (As := []) (c_X1_begin b583 hb583) (by decide) rfl hl.1 rfl (Nat.le_of_ble_eq_true rfl) dX10_market_28 (by decide)) (fun v15 σ14 H locs hp hw => ?_)
        obtain ⟨p15_0, p15_1, p15_2⟩ := hp
        have fr := oFr_tr fr p15_0 (by decide)
        have nn16 : ∀ V, NV σ a0 V → NV σ14 a0 V := fun V h => by
          have h1 : NV σ a0 V := h
          exact nv_c h1 p15_0 (by decide +kernel) (u_v (p15_2 b581 (nv_F h1 (hF583) (hF581))) (nv_P h1 (hF581)))
        refine lv_astore_n (lv' := [(3, .ref v15), (0, .ref a0), (1, .int a1), (2, .int a2)]) hx hb dX10_market_31 rfl hl (by decide) rfl (fun ls hl => ?_)
        refine lv_iconst (v := 0) hx hb dX10_market_32 (by decide) ?_
        refine lv_istore (lv' := [(4, .int 0), (3, .ref v15), (0, .ref a0), (1, .int a1), (2, .int a2)]) hx hb dX10_market_33 hl (by decide) rfl (fun ls hl => ?_)
        refine lv_iconst (v := (-1)) hx hb dX10_market_35 (by decide) ?_
        refine lv_istore (lv' := [(5, .int (-1)), (4, .int 0), (3, .ref v15), (0, .ref a0), (1, .int a1), (2, .int a2)]) hx hb dX10_market_36 hl (by decide) rfl (fun ls hl => ?_)
        refine lv_iconst (v := (-1)) hx hb dX10_market_38 (by decide) ?_
        refine lv_istore (lv' := [(6, .int (-1)), (5, .int (-1)), (4, .int 0), (3, .ref v15), (0, .ref a0), (1, .int a1), (2, .int a2)]) hx hb dX10_market_39 hl (by decide) rfl (fun ls hl => ?_)
        refine lv_iconst (v := 0) hx hb dX10_market_41 (by decide) ?_
        refine lv_istore (lv' := [(7, .int 0), (6, .int (-1)), (5, .int (-1)), (4, .int 0), (3, .ref v15), (0, .ref a0), (1, .int a1), (2, .int a2)]) hx hb dX10_market_42 hl (by decide) rfl (fun ls hl => ?_)
        refine lv_iconst (v := 0) hx hb dX10_market_44 (by decide) ?_
        refine lv_istore (lv' := [(8, .int 0), (7, .int 0), (6, .int (-1)), (5, .int (-1)), (4, .int 0), (3, .ref v15), (0, .ref a0), (1, .int a1), (2, .int a2)]) hx hb dX10_market_45 hl (by decide) rfl (fun ls hl => ?_)
        refine lv_iconst (v := 1) hx hb dX10_market_47 (by decide) ?_
        refine lv_istore (lv' := [(9, .int 1), (8, .int 0), (7, .int 0), (6, .int (-1)), (5, .int (-1)), (4, .int 0), (3, .ref v15), (0, .ref a0), (1, .int a1), (2, .int a2)]) hx hb dX10_market_48 hl (by decide) rfl (fun ls hl => ?_)
        have frE_50 := fr
        have J_50 : ∀ n50 : Nat, ∀ (j50_4 : Int32) (j50_5 : Int32) (ij50_5 : Iv j50_5 (-1) 100) (j50_6 : Int32) (ij50_6 : Iv j50_6 (-1) 100) (j50_7 : Int32) (j50_8 : Int32) (ij50_8 : Iv j50_8 0 2147483647) (j50_9 : Int32) (ij50_9 : Iv j50_9 1 101), ∀ (σ_50 : oSt) (H : Heap) (locs : List Loc), oI A L τ cy D s.heap σ_50 H locs → oFr τ fs_X10_market ts_X10_market σ σ_50 → (101 - j50_9.toInt).toNat < n50 → (∀ V, NV σ a0 V → NV σ_50 a0 V) → ∀ (ls : Array Slot), lv_has ls 10 [(0, .ref a0), (1, .int a1), (2, .int a2), (3, .ref v15), (4, .int j50_4), (5, .int j50_5), (6, .int j50_6), (7, .int j50_7), (8, .int j50_8), (9, .int j50_9)] → W p l e ({ frames := 4, cells := 0, slots := 0, locals := 106 } : Room) s m args below meth c H locs 0 0 Q (F0 m 50 ls []) := by
          intro n50
          induction n50 with
          | zero => intro j50_4 j50_5 ij50_5 j50_6 ij50_6 j50_7 j50_8 ij50_8 j50_9 ij50_9 σ_50 H locs hw fr   hn_50 nv_50  ls hl; exact absurd hn_50 (Nat.not_lt_zero _)
          | succ n50 ih_50 =>
            intro j50_4 j50_5 ij50_5 j50_6 ij50_6 j50_7 j50_8 ij50_8 j50_9 ij50_9 σ_50 H locs hw fr   hn_50 nv_50  ls hl
            have fr_50 := fr
            refine lv_iload hx hb dX10_market_50 (lv_at hl 9 rfl) ?_
            refine lv_iload_n hx hb dX10_market_52 rfl (lv_at hl 2 rfl) ?_
            refine lv_icmp_gt (tgt := 126) hx hb dX10_market_53 (by decide) (fun c17 => ?_) (fun c17 => ?_)
            · --
              have i18 : Iv j50_9 2 101 := iv_lt2 c17 i12 ij50_9 (by decide)
              refine lv_aload_n hx hb dX10_market_126 rfl (lv_at hl 0 rfl) ?_
              refine g_577 cx hw ha0 k_f_X10_19 dX10_market_127 (fun v19 e19 h19 => ?_)
              refine o_cv hw (oRunV cx hA hw q_X4_start k_m_X10_292 rfl h19 (by decide) (As := []) (c_X4_start v19 h19) (by decide) rfl hl.1 rfl (Nat.le_of_ble_eq_true rfl) dX10_market_130 (by decide)) (fun σ20 H locs hp hw => ?_)
              have p21_0 := hp
              have fr := oFr_tr fr p21_0 (by decide)
              refine lv_aload_n hx hb dX10_market_133 rfl (lv_at hl 0 rfl) ?_
              refine g_577 cx hw ha0 k_f_X10_19 dX10_market_134 (fun v22 e22 h22 => ?_)
              rw [show v22 = v19 from Option.some.inj (e22.symm.trans (((kr_c p21_0 (by decide)).trans e19)))]
              refine lv_iload hx hb dX10_market_137 (lv_at hl 5 rfl) ?_
              refine lv_i2l hx hb dX10_market_139 rfl ?_
              refine lv_topl (fun v23 e23 => ?_)
              refine o_cv hw (oRunV cx hA hw q_X4_put k_m_X10_295 rfl h19 (by decide) (As := [.long v23]) (c_X4_put v19 h19 v23) (by decide) rfl hl.1 rfl (Nat.le_of_ble_eq_true rfl) dX10_market_140 (by decide)) (fun σ24 H locs hp hw => ?_)
              have p25_0 := hp
              have fr := oFr_tr fr p25_0 (by decide)
              refine lv_aload_n hx hb dX10_market_143 rfl (lv_at hl 0 rfl) ?_
              refine g_577 cx hw ha0 k_f_X10_19 dX10_market_144 (fun v26 e26 h26 => ?_)
              rw [show v26 = v19 from Option.some.inj (e26.symm.trans (((kr_c p25_0 (by decide)).trans ((kr_c p21_0 (by decide)).trans e19))))]
              refine lv_iload hx hb dX10_market_147 (lv_at hl 6 rfl) ?_
              refine lv_i2l hx hb dX10_market_149 rfl ?_
              refine lv_topl (fun v27 e27 => ?_)
              refine o_cv hw (oRunV cx hA hw q_X4_put k_m_X10_295 rfl h19 (by decide) (As := [.long v27]) (c_X4_put v19 h19 v27) (by decide) rfl hl.1 rfl (Nat.le_of_ble_eq_true rfl) dX10_market_150 (by decide)) (fun σ28 H locs hp hw => ?_)
              have p29_0 := hp
              have fr := oFr_tr fr p29_0 (by decide)
              refine lv_aload_n hx hb dX10_market_153 rfl (lv_at hl 0 rfl) ?_
              refine g_577 cx hw ha0 k_f_X10_19 dX10_market_154 (fun v30 e30 h30 => ?_)
              rw [show v30 = v19 from Option.some.inj (e30.symm.trans (((kr_c p29_0 (by decide)).trans ((kr_c p25_0 (by decide)).trans ((kr_c p21_0 (by decide)).trans e19)))))]
              refine lv_iload hx hb dX10_market_157 (lv_at hl 8 rfl) ?_
              refine lv_i2l hx hb dX10_market_159 rfl ?_
              refine lv_topl (fun v31 e31 => ?_)
              refine o_cv hw (oRunV cx hA hw q_X4_put k_m_X10_295 rfl h19 (by decide) (As := [.long v31]) (c_X4_put v19 h19 v31) (by decide) rfl hl.1 rfl (Nat.le_of_ble_eq_true rfl) dX10_market_160 (by decide)) (fun σ32 H locs hp hw => ?_)
              have p33_0 := hp
              have fr := oFr_tr fr p33_0 (by decide)
              refine lv_iload hx hb dX10_market_163 (lv_at hl 4 rfl) ?_
              rw [← hQ]
              exact o_ri cx rx hw dX10_market_165 ⟨fr, (by intro V h; exact (nv_0 (nv_0 (nv_0 (nv_0 (nv_50 V h) p21_0 (by decide +kernel)) p25_0 (by decide +kernel)) p29_0 (by decide +kernel)) p33_0 (by decide +kernel)))⟩
            · --
              have i34 : Iv j50_9 1 100 := iv_le1 (iv_nlt c17) ij50_9 i12 (by decide)
              refine lv_aload_n hx hb dX10_market_56 rfl (lv_at hl 0 rfl) ?_
              refine g_580 cx hw ha0 k_f_X10_42 dX10_market_57 (fun v35 e35 h35 => ?_)
              refine lv_aload_n hx hb dX10_market_60 rfl (lv_at hl 3 rfl) ?_
              refine o_ci hw (oRunV cx hA hw q_X9_pass k_m_X10_269 rfl h35 (by decide) (As := [.ref v15]) (c_X9_pass v35 h35 v15 p15_1) (by decide) rfl hl.1 rfl (Nat.le_of_ble_eq_true rfl) dX10_market_61 (by decide)) (fun v37 σ36 H locs hp hw => ?_)
              have p37_0 := hp
              have fr := oFr_tr fr p37_0 (by decide)
              refine lv_pop hx hb dX10_market_64 rfl ?_
              refine lv_aload_n hx hb dX10_market_65 rfl (lv_at hl 3 rfl) ?_
              refine lv_iload_n hx hb dX10_market_66 rfl (lv_at hl 1 rfl) ?_
              refine lv_aload_n hx hb dX10_market_67 rfl (lv_at hl 0 rfl) ?_
              refine g_580 cx hw ha0 k_f_X10_42 dX10_market_68 (fun v38 e38 h38 => ?_)
              rw [show v38 = v35 from Option.some.inj (e38.symm.trans (((kr_c p37_0 (by decide)).trans e35)))]
              refine g_514 cx hw h35 k_f_X10_167 dX10_market_71 (fun v39 e39 => ?_)
              have z39 : v39.toInt = (σ36.1 514 v35).toInt := congrArg Int32.toInt e39
              refine o_ci hw (oRunV cx hA hw q_X6_isRoad k_m_X10_170 rfl p15_1 (by decide) (As := [.int a1, .int v39]) (c_X6_isRoad v15 p15_1 a1 (iv_w i7 (by decide)) v39) (by decide) rfl hl.1 rfl (Nat.le_of_ble_eq_true rfl) dX10_market_74 (by decide)) (fun v41 σ40 H locs hp hw => ?_)
              obtain ⟨p41_0, p41_1⟩ := hp
              rw [p41_0] at hw
              have J_120 : ∀ (j120_4 : Int32) (j120_5 : Int32) (ij120_5 : Iv j120_5 (-1) 100) (j120_6 : Int32) (ij120_6 : Iv j120_6 (-1) 100) (j120_7 : Int32) (j120_8 : Int32) (ij120_8 : Iv j120_8 0 2147483647), ∀ (H : Heap) (locs : List Loc), oI A L τ cy D s.heap σ36 H locs → (∀ V, NV σ a0 V → NV σ36 a0 V) → ∀ (ls : Array Slot), lv_has ls 10 [(0, .ref a0), (1, .int a1), (2, .int a2), (3, .ref v15), (4, .int j120_4), (5, .int j120_5), (6, .int j120_6), (7, .int j120_7), (8, .int j120_8), (9, .int j50_9)] → W p l e ({ frames := 4, cells := 0, slots := 0, locals := 106 } : Room) s m args below meth c H locs 0 0 Q (F0 m 120 ls []) := by
                intro j120_4 j120_5 ij120_5 j120_6 ij120_6 j120_7 j120_8 ij120_8 H locs hw   nv_120  ls hl
                obtain ⟨v42, e42⟩ : ∃ y : Int32, y = j50_9 + 1 := ⟨_, rfl⟩
                have i42 : Iv v42 2 101 := iv_add e42 i34 (⟨by decide, by decide⟩ : Iv 1 1 1) (by decide)
                have x42 : v42.toInt = j50_9.toInt + 1 := ex_add e42 i34 (⟨by decide, by decide⟩ : Iv 1 1 1) (by decide)
                refine lv_iinc (v := v42) (lv' := [(9, .int v42), (0, .ref a0), (1, .int a1), (2, .int a2), (3, .ref v15), (4, .int j120_4), (5, .int j120_5), (6, .int j120_6), (7, .int j120_7), (8, .int j120_8)]) hx hb dX10_market_120 hl (k := 9) rfl (by rw [e42]; rfl) (by decide) rfl (fun ls hl => ?_)
                refine lv_goto (tgt := 50) hx hb dX10_market_123 (by decide) ?_
                exact ih_50 j120_4 j120_5 ij120_5 j120_6 ij120_6 j120_7 j120_8 ij120_8 v42 (iv_w i42 (by decide)) σ36 _ _ hw fr (ms_up x42 (by decide) (iv_w (a' := 1) (b' := 101) i42 (by decide)).2 hn_50) (fun V h => (nv_120 V h)) _ (lv_sub hl [1, 2, 3, 4, 5, 6, 7, 8, 9, 0] rfl)
              refine lv_if_eq (tgt := 117) hx hb dX10_market_77 (by decide) (fun c43 => ?_) (fun c43 => ?_)
              · --
                have i44 : Iv v41 0 0 := iv_eq1 c43 p41_1 (⟨by decide, by decide⟩ : Iv 0 0 0) (by decide)
                refine lv_iconst (v := 0) hx hb dX10_market_117 (by decide) ?_
                refine lv_istore (lv' := [(7, .int 0), (0, .ref a0), (1, .int a1), (2, .int a2), (3, .ref v15), (4, .int j50_4), (5, .int j50_5), (6, .int j50_6), (8, .int j50_8), (9, .int j50_9)]) hx hb dX10_market_118 hl (by decide) rfl (fun ls hl => ?_)
                exact J_120 j50_4 j50_5 ij50_5 j50_6 ij50_6 0 j50_8 ij50_8 _ _ hw (fun V h => (nv_0 (nv_50 V h) p37_0 (by decide +kernel))) _ (lv_sub hl [1, 2, 3, 4, 5, 6, 7, 0, 8, 9] rfl)
              · --
                have i45 : Iv v41 1 1 := iv_ne1 c43 p41_1 (⟨by decide, by decide⟩ : Iv 0 0 0) (by decide)
                obtain ⟨v46, e46⟩ : ∃ y : Int32, y = j50_4 + 1 := ⟨_, rfl⟩
                refine lv_iinc (v := v46) (lv' := [(4, .int v46), (0, .ref a0), (1, .int a1), (2, .int a2), (3, .ref v15), (5, .int j50_5), (6, .int j50_6), (7, .int j50_7), (8, .int j50_8), (9, .int j50_9)]) hx hb dX10_market_80 hl (k := 4) rfl (by rw [e46]; rfl) (by decide) rfl (fun ls hl => ?_)
                refine lv_iload hx hb dX10_market_83 (lv_at hl 5 rfl) ?_
                refine lv_iconst (v := (-1)) hx hb dX10_market_85 (by decide) ?_
                have J_96 : ∀ (k96_0 : Int32) (ik96_0 : Iv k96_0 0 100), ∀ (H : Heap) (locs : List Loc), oI A L τ cy D s.heap σ36 H locs → (∀ V, NV σ a0 V → NV σ36 a0 V) → ∀ (ls : Array Slot), lv_has ls 10 [(0, .ref a0), (1, .int a1), (2, .int a2), (3, .ref v15), (4, .int v46), (5, .int j50_5), (6, .int j50_6), (7, .int j50_7), (8, .int j50_8), (9, .int j50_9)] → W p l e ({ frames := 4, cells := 0, slots := 0, locals := 106 } : Room) s m args below meth c H locs 0 0 Q (F0 m 96 ls [.int k96_0]) := by
                  intro k96_0 ik96_0 H locs hw   nv_96  ls hl
                  refine lv_istore (lv' := [(5, .int k96_0), (0, .ref a0), (1, .int a1), (2, .int a2), (3, .ref v15), (4, .int v46), (6, .int j50_6), (7, .int j50_7), (8, .int j50_8), (9, .int j50_9)]) hx hb dX10_market_96 hl (by decide) rfl (fun ls hl => ?_)
                  refine lv_iload hx hb dX10_market_98 (lv_at hl 9 rfl) ?_
                  refine lv_istore (lv' := [(6, .int j50_9), (5, .int k96_0), (0, .ref a0), (1, .int a1), (2, .int a2), (3, .ref v15), (4, .int v46), (7, .int j50_7), (8, .int j50_8), (9, .int j50_9)]) hx hb dX10_market_100 hl (by decide) rfl (fun ls hl => ?_)
                  obtain ⟨v47, e47⟩ : ∃ y : Int32, y = j50_7 + 1 := ⟨_, rfl⟩
                  refine lv_iinc (v := v47) (lv' := [(7, .int v47), (6, .int j50_9), (5, .int k96_0), (0, .ref a0), (1, .int a1), (2, .int a2), (3, .ref v15), (4, .int v46), (8, .int j50_8), (9, .int j50_9)]) hx hb dX10_market_102 hl (k := 7) rfl (by rw [e47]; rfl) (by decide) rfl (fun ls hl => ?_)
                  refine lv_iload hx hb dX10_market_105 (lv_at hl 8 rfl) ?_
                  refine lv_iload hx hb dX10_market_107 (lv_at hl 0 rfl) ?_
                  refine va_mmax hx hb (hml.trans hl.1.symm) hown (hts _ k_m_X10_217) (hts _ k_s_J9_max_7cf53) (hts _ k_i_J9) (hts _ k_code_J9_max_7cf53) (by decide) (Nat.le_of_ble_eq_true rfl) (by decide) (by decide) dX10_market_109 ?_
                  refine lv_topi (fun v48 e48 => ?_)
                  have i48 : Iv v48 0 2147483647 := iv_max e48 ij50_8 (iv_top v47) (by decide)
                  refine lv_istore (lv' := [(8, .int v48), (7, .int v47), (6, .int j50_9), (5, .int k96_0), (0, .ref a0), (1, .int a1), (2, .int a2), (3, .ref v15), (4, .int v46), (9, .int j50_9)]) hx hb dX10_market_112 hl (by decide) rfl (fun ls hl => ?_)
                  refine lv_goto (tgt := 120) hx hb dX10_market_114 (by decide) ?_
                  exact J_120 v46 k96_0 (iv_w ik96_0 (by decide)) j50_9 (iv_w i34 (by decide)) v47 v48 i48 _ _ hw (fun V h => (nv_96 V h)) _ (lv_sub hl [4, 5, 6, 7, 8, 3, 2, 1, 0, 9] rfl)
                refine lv_icmp_ne (tgt := 94) hx hb dX10_market_86 (by decide) (fun c49 => ?_) (fun c49 => ?_)
                · --
                  have i50 : Iv j50_5 0 100 := iv_ne1 c49 ij50_5 (⟨by decide, by decide⟩ : Iv (-1) (-1) (-1)) (by decide)
                  refine lv_iload hx hb dX10_market_94 (lv_at hl 5 rfl) ?_
                  exact J_96 j50_5 i50 _ _ hw (fun V h => (nv_0 (nv_50 V h) p37_0 (by decide +kernel))) _ (lv_sub hl [1, 2, 3, 4, 0, 5, 6, 7, 8, 9] rfl)
                · --
                  have i51 : Iv j50_5 (-1) (-1) := iv_eq1 c49 ij50_5 (⟨by decide, by decide⟩ : Iv (-1) (-1) (-1)) (by decide)
                  refine lv_iload hx hb dX10_market_89 (lv_at hl 9 rfl) ?_
                  refine lv_goto (tgt := 96) hx hb dX10_market_91 (by decide) ?_
                  exact J_96 j50_9 (iv_w i34 (by decide)) _ _ hw (fun V h => (nv_0 (nv_50 V h) p37_0 (by decide +kernel))) _ (lv_sub hl [1, 2, 3, 4, 0, 5, 6, 7, 8, 9] rfl)
        exact J_50 _ 0 (-1) (iv_w (⟨by decide, by decide⟩ : Iv (-1) (-1) (-1)) (by decide)) (-1) (iv_w (⟨by decide, by decide⟩ : Iv (-1) (-1) (-1)) (by decide)) 0 0 (iv_w (⟨by decide, by decide⟩ : Iv 0 0 0) (by decide)) 1 (iv_w (⟨by decide, by decide⟩ : Iv 1 1 1) (by decide)) σ14 _ _ hw fr (Nat.lt_succ_self _) (fun V h => (nn16 V h)) _ (lv_sub hl [7, 8, 9, 6, 5, 4, 3, 2, 1, 0] rfl)
      · --
        have i52 : Iv a2 101 2147483647 := iv_lt2 (iv_nle c11) (⟨by decide, by decide⟩ : Iv 100 100 100) i10 (by decide)
        refine lv_iconst (v := (-1)) hx hb dX10_market_22 (by decide) ?_
        rw [← hQ]
        exact o_ri cx rx hw dX10_market_23 ⟨fr, (by intro V h; exact h)⟩
abbrev fs_X10_trodden : List Nat := [193, 327, 328, 329, 330, 331, 517]
abbrev ts_X10_trodden : List Nat := [32, 33, 34, 36, 37, 38]
set_option maxHeartbeats 4000000 in
set_option maxRecDepth 100000 in
theorem c_X10_trodden (a0 : Nat) (ha0 : oA L τ a0 9) (a1 : Int32) : oMet l A L τ cy D K yX10_trodden cX10_trodden 4 (some .int) 5 129 [.ref a0, .int a1] σ (va_Qi (fun r σ1 => oFr τ fs_X10_trodden ts_X10_trodden σ σ1 ∧ Iv r (-2) 100 ∧ (∀ V, NV σ a0 V → NV σ1 a0 V)) (oPo A L τ cy D) A) := by
  refine oMk (by decide) (Nat.le_of_ble_eq_true rfl) rfl ?_
  intro p e s m args below meth c ls cx rx hA hw hl
  generalize hQ : MQ below _ args s 0 0 A = Q
  have hx := cx.1.1
  have hb := cx.1.2.1
  have hml := cx.1.2.2.1
  have hown := cx.1.2.2.2.1
  have hts := cx.1.2.2.2.2
  have hl : lv_has ls 4 [(0, .ref a0), (1, .int a1)] := hl
  have fr : oFr τ fs_X10_trodden ts_X10_trodden σ σ := oFr_rf
  obtain ⟨b581, hF581, hb581⟩ := hw.2.2.2.2.2 581 a0 5 (by rw [ha0.2]; rfl) ha0.1
  obtain ⟨b582, hF582, hb582⟩ := hw.2.2.2.2.2 582 a0 5 (by rw [ha0.2]; rfl) ha0.1
  obtain ⟨b583, hF583, hb583⟩ := hw.2.2.2.2.2 583 a0 0 (by rw [ha0.2]; rfl) ha0.1
  obtain ⟨b585, hF585, hb585⟩ := hw.2.2.2.2.2 585 a0 2 (by rw [ha0.2]; rfl) ha0.1
  obtain ⟨b586, hF586, hb586⟩ := hw.2.2.2.2.2 586 a0 41 (by rw [ha0.2]; rfl) ha0.1
  refine lv_aload_n hx hb dX10_trodden_0 rfl (lv_at hl 0 rfl) ?_
  refine g_578 cx hw ha0 k_f_X10_26 dX10_trodden_1 (fun v1 e1 h1 => ?_)
  refine lv_iload_n hx hb dX10_trodden_4 rfl (lv_at hl 1 rfl) ?_
  refine o_ci hw (oRunV cx hA hw q_X2_isThere k_m_X10_135 rfl h1 (by decide) (As := [.int a1]) (c_X2_isThere v1 h1 a1) (by decide) rfl hl.1 rfl (Nat.le_of_ble_eq_true rfl) dX10_trodden_5 (by decide)) (fun v3 σ2 H locs hp hw => ?_)
  obtain ⟨p3_0, p3_1, p3_2⟩ := hp
  rw [p3_0] at hw
  refine lv_if_ne (tgt := 13) hx hb dX10_trodden_8 (by decide) (fun c4 => ?_) (fun c4 => ?_)
  · --
    have i5 : Iv v3 1 1 := iv_ne1 c4 p3_1 (⟨by decide, by decide⟩ : Iv 0 0 0) (by decide)
    have i6 : Iv a1 0 63 := p3_2 c4
    refine lv_aload_n hx hb dX10_trodden_13 rfl (lv_at hl 0 rfl) ?_
    refine g_583 cx hw ha0 k_f_X10_61 dX10_trodden_14 (fun v7 e7 h7 => ?_)
    rw [show v7 = b583 from Option.some.inj (e7.symm.trans (hF583))]
    refine o_cr hw (oRunV cx hA hw q_X1_begin k_m_X10_377 rfl hb583 (by decide) (As := []) (c_X1_begin b583 hb583) (by decide) rfl hl.1 rfl (Nat.le_of_ble_eq_true rfl) dX10_trodden_17 (by decide)) (fun v9 σ8 H locs hp hw => ?_)
    obtain ⟨p9_0, p9_1, p9_2⟩ := hp
    have fr := oFr_tr fr p9_0 (by decide)
    have nn10 : ∀ V, NV σ a0 V → NV σ8 a0 V := fun V h => by
      have h1 : NV σ a0 V := h
      exact nv_c h1 p9_0 (by decide +kernel) (u_v (p9_2 b581 (nv_F h1 (hF583) (hF581))) (nv_P h1 (hF581)))
    refine lv_astore_n (lv' := [(2, .ref v9), (0, .ref a0), (1, .int a1)]) hx hb dX10_trodden_20 rfl hl (by decide) rfl (fun ls hl => ?_)
    refine lv_aload_n hx hb dX10_trodden_21 rfl (lv_at hl 0 rfl) ?_
    refine lv_iload_n hx hb dX10_trodden_22 rfl (lv_at hl 2 rfl) ?_
    refine o_ci hw (oRunV cx hA hw q_X6_herdsAt k_m_X10_174 rfl p9_1 (by decide) (As := [.int a1]) (c_X6_herdsAt v9 p9_1 a1) (by decide) rfl hl.1 rfl (Nat.le_of_ble_eq_true rfl) dX10_trodden_23 (by decide)) (fun v12 σ11 H locs hp hw => ?_)
    obtain ⟨p12_0, p12_1⟩ := hp
    rw [p12_0] at hw
    have frE_43 := fr
    have J_43 : ∀ (k43_0 : Int32) (ik43_0 : Iv k43_0 (-1) 100), ∀ (σ_43 : oSt) (H : Heap) (locs : List Loc), oI A L τ cy D s.heap σ_43 H locs → oFr τ fs_X10_trodden ts_X10_trodden σ σ_43 → (∀ V, NV σ a0 V → NV σ_43 a0 V) → ∀ (ls : Array Slot), lv_has ls 4 [(0, .ref a0), (1, .int a1), (2, .ref v9)] → W p l e ({ frames := 5, cells := 0, slots := 0, locals := 129 } : Room) s m args below meth c H locs 0 0 Q (F0 m 43 ls [.int k43_0]) := by
      intro k43_0 ik43_0 σ_43 H locs hw fr    nv_43  ls hl
      have fr_43 := fr
      refine lv_istore_n (lv' := [(3, .int k43_0), (0, .ref a0), (1, .int a1), (2, .ref v9)]) hx hb dX10_trodden_43 rfl hl (by decide) rfl (fun ls hl => ?_)
      refine lv_iload_n hx hb dX10_trodden_44 rfl (lv_at hl 0 rfl) ?_
      refine lv_iconst (v := (-1)) hx hb dX10_trodden_45 (by decide) ?_
      refine lv_icmp_ne (tgt := 52) hx hb dX10_trodden_46 (by decide) (fun c13 => ?_) (fun c13 => ?_)
      · --
        have i14 : Iv k43_0 0 100 := iv_ne1 c13 ik43_0 (⟨by decide, by decide⟩ : Iv (-1) (-1) (-1)) (by decide)
        refine lv_aload_n hx hb dX10_trodden_52 rfl (lv_at hl 1 rfl) ?_
        refine g_577 cx hw ha0 k_f_X10_19 dX10_trodden_53 (fun v15 e15 h15 => ?_)
        refine o_cv hw (oRunV cx hA hw q_X4_start k_m_X10_292 rfl h15 (by decide) (As := []) (c_X4_start v15 h15) (by decide) rfl hl.1 rfl (Nat.le_of_ble_eq_true rfl) dX10_trodden_56 (by decide)) (fun σ16 H locs hp hw => ?_)
        have p17_0 := hp
        have fr := oFr_tr fr p17_0 (by decide)
        refine lv_aload_n hx hb dX10_trodden_59 rfl (lv_at hl 1 rfl) ?_
        refine g_577 cx hw ha0 k_f_X10_19 dX10_trodden_60 (fun v18 e18 h18 => ?_)
        rw [show v18 = v15 from Option.some.inj (e18.symm.trans (((kr_c p17_0 (by decide)).trans e15)))]
        refine lv_aload_n hx hb dX10_trodden_63 rfl (lv_at hl 3 rfl) ?_
        refine lv_iload_n hx hb dX10_trodden_64 rfl (lv_at hl 2 rfl) ?_
        refine o_ci hw (oRunV cx hA hw q_X6_firstHerdAt k_m_X10_383 rfl p9_1 (by decide) (As := [.int a1]) (c_X6_firstHerdAt v9 p9_1 a1) (by decide) rfl hl.1 rfl (Nat.le_of_ble_eq_true rfl) dX10_trodden_65 (by decide)) (fun v20 σ19 H locs hp hw => ?_)
        obtain ⟨p20_0, p20_1⟩ := hp
        rw [p20_0] at hw
        refine lv_i2l hx hb dX10_trodden_68 rfl ?_
        refine lv_topl (fun v21 e21 => ?_)
        refine o_cv hw (oRunV cx hA hw q_X4_put k_m_X10_295 rfl h15 (by decide) (As := [.long v21]) (c_X4_put v15 h15 v21) (by decide) rfl hl.1 rfl (Nat.le_of_ble_eq_true rfl) dX10_trodden_69 (by decide)) (fun σ22 H locs hp hw => ?_)
        have p23_0 := hp
        have fr := oFr_tr fr p23_0 (by decide)
        refine lv_iload_n hx hb dX10_trodden_72 rfl (lv_at hl 0 rfl) ?_
        rw [← hQ]
        exact o_ri cx rx hw dX10_trodden_73 ⟨fr, (iv_w i14 (by decide)), (by intro V h; exact (nv_0 (nv_0 (nv_43 V h) p17_0 (by decide +kernel)) p23_0 (by decide +kernel)))⟩
      · --
        have i24 : Iv k43_0 (-1) (-1) := iv_eq1 c13 ik43_0 (⟨by decide, by decide⟩ : Iv (-1) (-1) (-1)) (by decide)
        refine lv_bipush (v := (-2)) hx hb dX10_trodden_49 (by decide) ?_
        rw [← hQ]
        exact o_ri cx rx hw dX10_trodden_51 ⟨fr, (iv_w (⟨by decide, by decide⟩ : Iv (-2) (-2) (-2)) (by decide)), (by intro V h; exact (nv_43 V h))⟩
    refine lv_if_eq (tgt := 33) hx hb dX10_trodden_26 (by decide) (fun c25 => ?_) (fun c25 => ?_)
    · --
      have i26 : Iv v12 0 0 := iv_eq1 c25 p12_1 (⟨by decide, by decide⟩ : Iv 0 0 0) (by decide)
      refine lv_aload_n hx hb dX10_trodden_33 rfl (lv_at hl 1 rfl) ?_
      refine g_583 cx hw ha0 k_f_X10_61 dX10_trodden_34 (fun v27 e27 h27 => ?_)
      rw [show v27 = b583 from Option.some.inj (e27.symm.trans (((kr_c p9_0 (by decide)).trans hF583)))]
      refine lv_iload_n hx hb dX10_trodden_37 rfl (lv_at hl 2 rfl) ?_
      refine lv_bipush (v := 100) hx hb dX10_trodden_38 (by decide) ?_
      refine o_ci hw (oRunV cx hA hw q_X1_hourOfComing k_m_X10_380 rfl hb583 (by decide) (As := [.int a1, .int 100]) (c_X1_hourOfComing b583 hb583 a1 100 (iv_w (⟨by decide, by decide⟩ : Iv 100 100 100) (by decide))) (by decide) rfl hl.1 rfl (Nat.le_of_ble_eq_true rfl) dX10_trodden_40 (by decide)) (fun v29 σ28 H locs hp hw => ?_)
      obtain ⟨p29_0, p29_1⟩ := hp
      have fr := oFr_tr fr p29_0 (by decide)
      exact J_43 v29 p29_1 σ28 _ _ hw fr (fun V h => (nv_0 (nn10 V h) p29_0 (by decide +kernel))) _ (lv_sub hl [1, 2, 0] rfl)
    · --
      have i30 : Iv v12 1 63 := iv_ne1 c25 p12_1 (⟨by decide, by decide⟩ : Iv 0 0 0) (by decide)
      refine lv_iconst (v := 0) hx hb dX10_trodden_29 (by decide) ?_
      refine lv_goto (tgt := 43) hx hb dX10_trodden_30 (by decide) ?_
      exact J_43 0 (iv_w (⟨by decide, by decide⟩ : Iv 0 0 0) (by decide)) σ8 _ _ hw fr (fun V h => (nn10 V h)) _ (lv_sub hl [1, 2, 0] rfl)
  · --
    have i31 : Iv v3 0 0 := iv_eq1 c4 p3_1 (⟨by decide, by decide⟩ : Iv 0 0 0) (by decide)
    refine lv_iconst (v := (-1)) hx hb dX10_trodden_11 (by decide) ?_
    rw [← hQ]
    exact o_ri cx rx hw dX10_trodden_12 ⟨fr, (iv_w (⟨by decide, by decide⟩ : Iv (-1) (-1) (-1)) (by decide)), (by intro V h; exact h)⟩
abbrev fs_X10_meets : List Nat := [193, 327, 328, 329, 330, 331, 517]
abbrev ts_X10_meets : List Nat := [32, 33, 34, 36, 37, 38]
set_option maxHeartbeats 4000000 in
set_option maxRecDepth 100000 in
theorem c_X10_meets (a0 : Nat) (ha0 : oA L τ a0 9) : oMet l A L τ cy D K yX10_meets cX10_meets 4 (some .int) 4 106 [.ref a0] σ (va_Qi (fun r σ1 => oFr τ fs_X10_meets ts_X10_meets σ σ1 ∧ Iv r (-2) 100 ∧ (∀ V, NV σ a0 V → NV σ1 a0 V)) (oPo A L τ cy D) A) := by
  refine oMk (by decide) (Nat.le_of_ble_eq_true rfl) rfl ?_
  intro p e s m args below meth c ls cx rx hA hw hl
  generalize hQ : MQ below _ args s 0 0 A = Q
  have hx := cx.1.1
  have hb := cx.1.2.1
  have hml := cx.1.2.2.1
  have hown := cx.1.2.2.2.1
  have hts := cx.1.2.2.2.2
  have hl : lv_has ls 4 [(0, .ref a0)] := hl
  have fr : oFr τ fs_X10_meets ts_X10_meets σ σ := oFr_rf
  obtain ⟨b581, hF581, hb581⟩ := hw.2.2.2.2.2 581 a0 5 (by rw [ha0.2]; rfl) ha0.1
  obtain ⟨b582, hF582, hb582⟩ := hw.2.2.2.2.2 582 a0 5 (by rw [ha0.2]; rfl) ha0.1
  obtain ⟨b583, hF583, hb583⟩ := hw.2.2.2.2.2 583 a0 0 (by rw [ha0.2]; rfl) ha0.1
  obtain ⟨b585, hF585, hb585⟩ := hw.2.2.2.2.2 585 a0 2 (by rw [ha0.2]; rfl) ha0.1
  obtain ⟨b586, hF586, hb586⟩ := hw.2.2.2.2.2 586 a0 41 (by rw [ha0.2]; rfl) ha0.1
  refine lv_aload_n hx hb dX10_meets_0 rfl (lv_at hl 0 rfl) ?_
  refine g_583 cx hw ha0 k_f_X10_61 dX10_meets_1 (fun v1 e1 h1 => ?_)
  rw [show v1 = b583 from Option.some.inj (e1.symm.trans (hF583))]
  refine o_cr hw (oRunV cx hA hw q_X1_begin k_m_X10_377 rfl hb583 (by decide) (As := []) (c_X1_begin b583 hb583) (by decide) rfl hl.1 rfl (Nat.le_of_ble_eq_true rfl) dX10_meets_4 (by decide)) (fun v3 σ2 H locs hp hw => ?_)
  obtain ⟨p3_0, p3_1, p3_2⟩ := hp
  have fr := oFr_tr fr p3_0 (by decide)
  have nn4 : ∀ V, NV σ a0 V → NV σ2 a0 V := fun V h => by
    have h1 : NV σ a0 V := h
    exact nv_c h1 p3_0 (by decide +kernel) (u_v (p3_2 b581 (nv_F h1 (hF583) (hF581))) (nv_P h1 (hF581)))
  refine lv_astore_n (lv' := [(1, .ref v3), (0, .ref a0)]) hx hb dX10_meets_7 rfl hl (by decide) rfl (fun ls hl => ?_)
  refine lv_iconst (v := 0) hx hb dX10_meets_8 (by decide) ?_
  refine lv_istore_n (lv' := [(2, .int 0), (1, .ref v3), (0, .ref a0)]) hx hb dX10_meets_9 rfl hl (by decide) rfl (fun ls hl => ?_)
  have frE_10 := fr
  have J_10 : ∀ n10 : Nat, ∀ (j10_2 : Int32) (ij10_2 : Iv j10_2 0 101), ∀ (σ_10 : oSt) (H : Heap) (locs : List Loc), oI A L τ cy D s.heap σ_10 H locs → oFr τ fs_X10_meets ts_X10_meets σ σ_10 → (101 - j10_2.toInt).toNat < n10 → (∀ V, NV σ a0 V → NV σ_10 a0 V) → ∀ (ls : Array Slot), lv_has ls 4 [(0, .ref a0), (1, .ref v3), (2, .int j10_2)] → W p l e ({ frames := 4, cells := 0, slots := 0, locals := 106 } : Room) s m args below meth c H locs 0 0 Q (F0 m 10 ls []) := by
    intro n10
    induction n10 with
    | zero => intro j10_2 ij10_2 σ_10 H locs hw fr   hn_10 nv_10  ls hl; exact absurd hn_10 (Nat.not_lt_zero _)
    | succ n10 ih_10 =>
      intro j10_2 ij10_2 σ_10 H locs hw fr   hn_10 nv_10  ls hl
      have fr_10 := fr
      refine lv_iload_n hx hb dX10_meets_10 rfl (lv_at hl 2 rfl) ?_
      refine lv_bipush (v := 100) hx hb dX10_meets_11 (by decide) ?_
      refine lv_icmp_gt (tgt := 69) hx hb dX10_meets_13 (by decide) (fun c5 => ?_) (fun c5 => ?_)
      · --
        have i6 : Iv j10_2 101 101 := iv_lt2 c5 (⟨by decide, by decide⟩ : Iv 100 100 100) ij10_2 (by decide)
        refine lv_bipush (v := (-2)) hx hb dX10_meets_69 (by decide) ?_
        rw [← hQ]
        exact o_ri cx rx hw dX10_meets_71 ⟨fr, (iv_w (⟨by decide, by decide⟩ : Iv (-2) (-2) (-2)) (by decide)), (by intro V h; exact (nv_10 V h))⟩
      · --
        have i7 : Iv j10_2 0 100 := iv_le1 (iv_nlt c5) ij10_2 (⟨by decide, by decide⟩ : Iv 100 100 100) (by decide)
        refine lv_iload_n hx hb dX10_meets_16 rfl (lv_at hl 2 rfl) ?_
        have frE_29 := fr
        have J_29 : ∀ (σ_29 : oSt) (H : Heap) (locs : List Loc), oI A L τ cy D s.heap σ_29 H locs → oFr τ fs_X10_meets ts_X10_meets σ σ_29 → (∀ V, NV σ a0 V → NV σ_29 a0 V) → ∀ (ls : Array Slot), lv_has ls 4 [(0, .ref a0), (1, .ref v3), (2, .int j10_2)] → W p l e ({ frames := 4, cells := 0, slots := 0, locals := 106 } : Room) s m args below meth c H locs 0 0 Q (F0 m 29 ls []) := by
          intro  σ_29 H locs hw fr    nv_29  ls hl
          have fr_29 := fr
          refine lv_aload_n hx hb dX10_meets_29 rfl (lv_at hl 1 rfl) ?_
          refine lv_aload_n hx hb dX10_meets_30 rfl (lv_at hl 0 rfl) ?_
          refine g_580 cx hw ha0 k_f_X10_42 dX10_meets_31 (fun v8 e8 h8 => ?_)
          refine g_514 cx hw h8 k_f_X10_167 dX10_meets_34 (fun v9 e9 => ?_)
          have z9 : v9.toInt = (σ_29.1 514 v8).toInt := congrArg Int32.toInt e9
          refine o_ci hw (oRunV cx hA hw q_X6_sizeOfMeeting k_m_X10_367 rfl p3_1 (by decide) (As := [.int v9]) (c_X6_sizeOfMeeting v3 p3_1 v9) (by decide) rfl hl.1 rfl (Nat.le_of_ble_eq_true rfl) dX10_meets_37 (by decide)) (fun v11 σ10 H locs hp hw => ?_)
          obtain ⟨p11_0, p11_1⟩ := hp
          rw [p11_0] at hw
          refine lv_istore_n (lv' := [(3, .int v11), (0, .ref a0), (1, .ref v3), (2, .int j10_2)]) hx hb dX10_meets_40 rfl hl (by decide) rfl (fun ls hl => ?_)
          refine lv_iload_n hx hb dX10_meets_41 rfl (lv_at hl 0 rfl) ?_
          refine lv_if_le (tgt := 63) hx hb dX10_meets_42 (by decide) (fun c12 => ?_) (fun c12 => ?_)
          · --
            have i13 : Iv v11 0 0 := iv_le1 c12 p11_1 (⟨by decide, by decide⟩ : Iv 0 0 0) (by decide)
            obtain ⟨v14, e14⟩ : ∃ y : Int32, y = j10_2 + 1 := ⟨_, rfl⟩
            have i14 : Iv v14 1 101 := iv_add e14 i7 (⟨by decide, by decide⟩ : Iv 1 1 1) (by decide)
            have x14 : v14.toInt = j10_2.toInt + 1 := ex_add e14 i7 (⟨by decide, by decide⟩ : Iv 1 1 1) (by decide)
            refine lv_iinc (v := v14) (lv' := [(2, .int v14), (3, .int v11), (0, .ref a0), (1, .ref v3)]) hx hb dX10_meets_63 hl (k := 3) rfl (by rw [e14]; rfl) (by decide) rfl (fun ls hl => ?_)
            refine lv_goto (tgt := 10) hx hb dX10_meets_66 (by decide) ?_
            exact ih_10 v14 (iv_w i14 (by decide)) σ_29 _ _ hw fr (ms_up x14 (by decide) (iv_w (a' := 0) (b' := 101) i14 (by decide)).2 hn_10) (fun V h => (nv_29 V h)) _ (lv_sub hl [2, 3, 0] rfl)
          · --
            have i15 : Iv v11 1 127 := iv_lt2 (iv_nle c12) (⟨by decide, by decide⟩ : Iv 0 0 0) p11_1 (by decide)
            refine lv_aload_n hx hb dX10_meets_45 rfl (lv_at hl 1 rfl) ?_
            refine g_577 cx hw ha0 k_f_X10_19 dX10_meets_46 (fun v16 e16 h16 => ?_)
            refine o_cv hw (oRunV cx hA hw q_X4_start k_m_X10_292 rfl h16 (by decide) (As := []) (c_X4_start v16 h16) (by decide) rfl hl.1 rfl (Nat.le_of_ble_eq_true rfl) dX10_meets_49 (by decide)) (fun σ17 H locs hp hw => ?_)
            have p18_0 := hp
            have fr := oFr_tr fr p18_0 (by decide)
            refine lv_aload_n hx hb dX10_meets_52 rfl (lv_at hl 1 rfl) ?_
            refine g_577 cx hw ha0 k_f_X10_19 dX10_meets_53 (fun v19 e19 h19 => ?_)
            rw [show v19 = v16 from Option.some.inj (e19.symm.trans (((kr_c p18_0 (by decide)).trans e16)))]
            refine lv_iload_n hx hb dX10_meets_56 rfl (lv_at hl 0 rfl) ?_
            refine lv_i2l hx hb dX10_meets_57 rfl ?_
            refine lv_topl (fun v20 e20 => ?_)
            refine o_cv hw (oRunV cx hA hw q_X4_put k_m_X10_295 rfl h16 (by decide) (As := [.long v20]) (c_X4_put v16 h16 v20) (by decide) rfl hl.1 rfl (Nat.le_of_ble_eq_true rfl) dX10_meets_58 (by decide)) (fun σ21 H locs hp hw => ?_)
            have p22_0 := hp
            have fr := oFr_tr fr p22_0 (by decide)
            refine lv_iload_n hx hb dX10_meets_61 rfl (lv_at hl 3 rfl) ?_
            rw [← hQ]
            exact o_ri cx rx hw dX10_meets_62 ⟨fr, (iv_w i7 (by decide)), (by intro V h; exact (nv_0 (nv_0 (nv_29 V h) p18_0 (by decide +kernel)) p22_0 (by decide +kernel)))⟩
        refine lv_if_le (tgt := 29) hx hb dX10_meets_17 (by decide) (fun c23 => ?_) (fun c23 => ?_)
        · --
          have i24 : Iv j10_2 0 0 := iv_le1 c23 i7 (⟨by decide, by decide⟩ : Iv 0 0 0) (by decide)
          exact J_29 σ_10 _ _ hw fr (fun V h => (nv_10 V h)) _ (lv_sub hl [0, 1, 2] rfl)
        · --
          have i25 : Iv j10_2 1 100 := iv_lt2 (iv_nle c23) (⟨by decide, by decide⟩ : Iv 0 0 0) i7 (by decide)
          refine lv_aload_n hx hb dX10_meets_20 rfl (lv_at hl 0 rfl) ?_
          refine g_580 cx hw ha0 k_f_X10_42 dX10_meets_21 (fun v26 e26 h26 => ?_)
          refine lv_aload_n hx hb dX10_meets_24 rfl (lv_at hl 1 rfl) ?_
          refine o_ci hw (oRunV cx hA hw q_X9_pass k_m_X10_269 rfl h26 (by decide) (As := [.ref v3]) (c_X9_pass v26 h26 v3 p3_1) (by decide) rfl hl.1 rfl (Nat.le_of_ble_eq_true rfl) dX10_meets_25 (by decide)) (fun v28 σ27 H locs hp hw => ?_)
          have p28_0 := hp
          have fr := oFr_tr fr p28_0 (by decide)
          refine lv_pop hx hb dX10_meets_28 rfl ?_
          exact J_29 σ27 _ _ hw fr (fun V h => (nv_0 (nv_10 V h) p28_0 (by decide +kernel))) _ (lv_sub hl [0, 1, 2] rfl)
  exact J_10 _ 0 (iv_w (⟨by decide, by decide⟩ : Iv 0 0 0) (by decide)) σ2 _ _ hw fr (Nat.lt_succ_self _) (fun V h => (nn4 V h)) _ (lv_sub hl [2, 1, 0] rfl)
abbrev fs_X10_round : List Nat := [193, 327, 328, 329, 330, 331, 517]
abbrev ts_X10_round : List Nat := [32, 33, 34, 36, 37, 38]
set_option maxHeartbeats 4000000 in
set_option maxRecDepth 100000 in
theorem c_X10_round (a0 : Nat) (ha0 : oA L τ a0 9) (a1 : Int32) : oMet l A L τ cy D K yX10_round cX10_round 4 (some .int) 5 129 [.ref a0, .int a1] σ (va_Qi (fun r σ1 => oFr τ fs_X10_round ts_X10_round σ σ1 ∧ Iv r (-1) 100 ∧ (∀ V, NV σ a0 V → NV σ1 a0 V)) (oPo A L τ cy D) A) := by
  refine oMk (by decide) (Nat.le_of_ble_eq_true rfl) rfl ?_
  intro p e s m args below meth c ls cx rx hA hw hl
  generalize hQ : MQ below _ args s 0 0 A = Q
  have hx := cx.1.1
  have hb := cx.1.2.1
  have hml := cx.1.2.2.1
  have hown := cx.1.2.2.2.1
  have hts := cx.1.2.2.2.2
  have hl : lv_has ls 4 [(0, .ref a0), (1, .int a1)] := hl
  have fr : oFr τ fs_X10_round ts_X10_round σ σ := oFr_rf
  obtain ⟨b581, hF581, hb581⟩ := hw.2.2.2.2.2 581 a0 5 (by rw [ha0.2]; rfl) ha0.1
  obtain ⟨b582, hF582, hb582⟩ := hw.2.2.2.2.2 582 a0 5 (by rw [ha0.2]; rfl) ha0.1
  obtain ⟨b583, hF583, hb583⟩ := hw.2.2.2.2.2 583 a0 0 (by rw [ha0.2]; rfl) ha0.1
  obtain ⟨b585, hF585, hb585⟩ := hw.2.2.2.2.2 585 a0 2 (by rw [ha0.2]; rfl) ha0.1
  obtain ⟨b586, hF586, hb586⟩ := hw.2.2.2.2.2 586 a0 41 (by rw [ha0.2]; rfl) ha0.1
  refine lv_aload_n hx hb dX10_round_0 rfl (lv_at hl 0 rfl) ?_
  refine g_581 cx hw ha0 k_f_X10_49 dX10_round_1 (fun v1 e1 h1 => ?_)
  rw [show v1 = b581 from Option.some.inj (e1.symm.trans (hF581))]
  refine lv_iload_n hx hb dX10_round_4 rfl (lv_at hl 1 rfl) ?_
  refine o_ci hw (oRunV cx hA hw q_X6_hasHerd k_m_X10_178 rfl hb581 (by decide) (As := [.int a1]) (c_X6_hasHerd b581 hb581 a1) (by decide) rfl hl.1 rfl (Nat.le_of_ble_eq_true rfl) dX10_round_5 (by decide)) (fun v3 σ2 H locs hp hw => ?_)
  obtain ⟨p3_0, p3_1, p3_2⟩ := hp
  rw [p3_0] at hw
  refine lv_if_ne (tgt := 13) hx hb dX10_round_8 (by decide) (fun c4 => ?_) (fun c4 => ?_)
  · --
    have i5 : Iv v3 1 1 := iv_ne1 c4 p3_1 (⟨by decide, by decide⟩ : Iv 0 0 0) (by decide)
    have i6 : Iv a1 0 5 := p3_2 c4
    refine lv_aload_n hx hb dX10_round_13 rfl (lv_at hl 0 rfl) ?_
    refine g_583 cx hw ha0 k_f_X10_61 dX10_round_14 (fun v7 e7 h7 => ?_)
    rw [show v7 = b583 from Option.some.inj (e7.symm.trans (hF583))]
    refine lv_iload_n hx hb dX10_round_17 rfl (lv_at hl 1 rfl) ?_
    refine o_ci hw (oRunV cx hA hw q_X1_hourOfReturn k_m_X10_386 rfl hb583 (by decide) (As := [.int a1]) (c_X1_hourOfReturn b583 hb583 a1 (iv_w i6 (by decide))) (by decide) rfl hl.1 rfl (Nat.le_of_ble_eq_true rfl) dX10_round_18 (by decide)) (fun v9 σ8 H locs hp hw => ?_)
    obtain ⟨p9_0, p9_1, p9_2⟩ := hp
    have fr := oFr_tr fr p9_0 (by decide)
    have nn10 : ∀ V, NV σ a0 V → NV σ8 a0 V := fun V h => by
      have h1 : NV σ a0 V := h
      exact nv_c h1 p9_0 (by decide +kernel) (u_v (p9_2 b581 (nv_F h1 (hF583) (hF581))) (nv_P h1 (hF581)))
    refine lv_istore_n (lv' := [(2, .int v9), (0, .ref a0), (1, .int a1)]) hx hb dX10_round_21 rfl hl (by decide) rfl (fun ls hl => ?_)
    refine lv_iload_n hx hb dX10_round_22 rfl (lv_at hl 0 rfl) ?_
    refine lv_iconst (v := (-1)) hx hb dX10_round_23 (by decide) ?_
    refine lv_icmp_ne (tgt := 29) hx hb dX10_round_24 (by decide) (fun c11 => ?_) (fun c11 => ?_)
    · --
      have i12 : Iv v9 0 100 := iv_ne1 c11 p9_1 (⟨by decide, by decide⟩ : Iv (-1) (-1) (-1)) (by decide)
      refine lv_aload_n hx hb dX10_round_29 rfl (lv_at hl 1 rfl) ?_
      refine g_583 cx hw ha0 k_f_X10_61 dX10_round_30 (fun v13 e13 h13 => ?_)
      rw [show v13 = b583 from Option.some.inj (e13.symm.trans (((kr_c p9_0 (by decide)).trans hF583)))]
      refine g_3 cx hw hb583 k_f_X10_389 dX10_round_33 (fun v14 e14 h14 => ?_)
      refine g_325 cx hw h14 k_f_X10_183 dX10_round_36 (fun v15 e15 h15 => ?_)
      refine lv_iload_n hx hb dX10_round_39 rfl (lv_at hl 2 rfl) ?_
      refine o_iald cx hw h15 (by decide) rfl (iv_in i6 (by decide)) dX10_round_40 (fun v16 e16 b16 => ?_)
      have i16 : Iv v16 0 63 := b16
      refine lv_istore_n (lv' := [(3, .int v16), (2, .int v9), (0, .ref a0), (1, .int a1)]) hx hb dX10_round_41 rfl hl (by decide) rfl (fun ls hl => ?_)
      refine lv_aload_n hx hb dX10_round_42 rfl (lv_at hl 2 rfl) ?_
      refine g_577 cx hw ha0 k_f_X10_19 dX10_round_43 (fun v17 e17 h17 => ?_)
      refine o_cv hw (oRunV cx hA hw q_X4_start k_m_X10_292 rfl h17 (by decide) (As := []) (c_X4_start v17 h17) (by decide) rfl hl.1 rfl (Nat.le_of_ble_eq_true rfl) dX10_round_46 (by decide)) (fun σ18 H locs hp hw => ?_)
      have p19_0 := hp
      have fr := oFr_tr fr p19_0 (by decide)
      refine lv_aload_n hx hb dX10_round_49 rfl (lv_at hl 2 rfl) ?_
      refine g_577 cx hw ha0 k_f_X10_19 dX10_round_50 (fun v20 e20 h20 => ?_)
      rw [show v20 = v17 from Option.some.inj (e20.symm.trans (((kr_c p19_0 (by decide)).trans e17)))]
      refine lv_iload_n hx hb dX10_round_53 rfl (lv_at hl 0 rfl) ?_
      refine lv_i2l hx hb dX10_round_54 rfl ?_
      refine lv_topl (fun v21 e21 => ?_)
      refine o_cv hw (oRunV cx hA hw q_X4_put k_m_X10_295 rfl h17 (by decide) (As := [.long v21]) (c_X4_put v17 h17 v21) (by decide) rfl hl.1 rfl (Nat.le_of_ble_eq_true rfl) dX10_round_55 (by decide)) (fun σ22 H locs hp hw => ?_)
      have p23_0 := hp
      have fr := oFr_tr fr p23_0 (by decide)
      refine lv_aload_n hx hb dX10_round_58 rfl (lv_at hl 2 rfl) ?_
      refine g_577 cx hw ha0 k_f_X10_19 dX10_round_59 (fun v24 e24 h24 => ?_)
      rw [show v24 = v17 from Option.some.inj (e24.symm.trans (((kr_c p23_0 (by decide)).trans ((kr_c p19_0 (by decide)).trans e17))))]
      refine lv_iload_n hx hb dX10_round_62 rfl (lv_at hl 1 rfl) ?_
      refine lv_aload_n hx hb dX10_round_63 rfl (lv_at hl 2 rfl) ?_
      refine g_583 cx hw ha0 k_f_X10_61 dX10_round_64 (fun v25 e25 h25 => ?_)
      rw [show v25 = b583 from Option.some.inj (e25.symm.trans (((kr_c p23_0 (by decide)).trans ((kr_c p19_0 (by decide)).trans ((kr_c p9_0 (by decide)).trans hF583)))))]
      refine g_4 cx hw hb583 k_f_X10_392 dX10_round_67 (fun v26 e26 h26 => ?_)
      refine lv_iload_n hx hb dX10_round_70 rfl (lv_at hl 0 rfl) ?_
      refine o_iald cx hw h26 (by decide) rfl (iv_in i16 (by decide)) dX10_round_71 (fun v27 e27 b27 => ?_)
      refine lv_isub hx hb dX10_round_72 ?_
      refine lv_topi (fun v28 e28 => ?_)
      refine lv_i2l hx hb dX10_round_73 rfl ?_
      refine lv_topl (fun v29 e29 => ?_)
      refine o_cv hw (oRunV cx hA hw q_X4_put k_m_X10_295 rfl h17 (by decide) (As := [.long v29]) (c_X4_put v17 h17 v29) (by decide) rfl hl.1 rfl (Nat.le_of_ble_eq_true rfl) dX10_round_74 (by decide)) (fun σ30 H locs hp hw => ?_)
      have p31_0 := hp
      have fr := oFr_tr fr p31_0 (by decide)
      refine lv_iload_n hx hb dX10_round_77 rfl (lv_at hl 1 rfl) ?_
      rw [← hQ]
      exact o_ri cx rx hw dX10_round_78 ⟨fr, (iv_w i12 (by decide)), (by intro V h; exact (nv_0 (nv_0 (nv_0 (nn10 V h) p19_0 (by decide +kernel)) p23_0 (by decide +kernel)) p31_0 (by decide +kernel)))⟩
    · --
      have i32 : Iv v9 (-1) (-1) := iv_eq1 c11 p9_1 (⟨by decide, by decide⟩ : Iv (-1) (-1) (-1)) (by decide)
      refine lv_iconst (v := (-1)) hx hb dX10_round_27 (by decide) ?_
      rw [← hQ]
      exact o_ri cx rx hw dX10_round_28 ⟨fr, (iv_w (⟨by decide, by decide⟩ : Iv (-1) (-1) (-1)) (by decide)), (by intro V h; exact (nn10 V h))⟩
  · --
    have i33 : Iv v3 0 0 := iv_eq1 c4 p3_1 (⟨by decide, by decide⟩ : Iv 0 0 0) (by decide)
    refine lv_iconst (v := (-1)) hx hb dX10_round_11 (by decide) ?_
    rw [← hQ]
    exact o_ri cx rx hw dX10_round_12 ⟨fr, (iv_w (⟨by decide, by decide⟩ : Iv (-1) (-1) (-1)) (by decide)), (by intro V h; exact h)⟩
abbrev fs_X10_lure : List Nat := [6, 193, 327, 328, 329, 330, 331, 517]
abbrev ts_X10_lure : List Nat := [32, 33, 34, 36, 37, 38]
set_option maxHeartbeats 4000000 in
set_option maxRecDepth 100000 in
theorem c_X10_lure (a0 : Nat) (ha0 : oA L τ a0 9) (a1 : Int32) (a2 : Int32) : oMet l A L τ cy D K yX10_lure cX10_lure 5 (some .int) 8 196 [.ref a0, .int a1, .int a2] σ (va_Qi (fun r σ1 => oFr τ fs_X10_lure ts_X10_lure σ σ1 ∧ Iv r (-2) 9 ∧ (∀ V, NV σ a0 V → NV σ1 a0 V)) (oPo A L τ cy D) A) := by
  refine oMk (by decide) (Nat.le_of_ble_eq_true rfl) rfl ?_
  intro p e s m args below meth c ls cx rx hA hw hl
  generalize hQ : MQ below _ args s 0 0 A = Q
  have hx := cx.1.1
  have hb := cx.1.2.1
  have hml := cx.1.2.2.1
  have hown := cx.1.2.2.2.1
  have hts := cx.1.2.2.2.2
  have hl : lv_has ls 5 [(0, .ref a0), (1, .int a1), (2, .int a2)] := hl
  have fr : oFr τ fs_X10_lure ts_X10_lure σ σ := oFr_rf
  obtain ⟨b581, hF581, hb581⟩ := hw.2.2.2.2.2 581 a0 5 (by rw [ha0.2]; rfl) ha0.1
  obtain ⟨b582, hF582, hb582⟩ := hw.2.2.2.2.2 582 a0 5 (by rw [ha0.2]; rfl) ha0.1
  obtain ⟨b583, hF583, hb583⟩ := hw.2.2.2.2.2 583 a0 0 (by rw [ha0.2]; rfl) ha0.1
  obtain ⟨b585, hF585, hb585⟩ := hw.2.2.2.2.2 585 a0 2 (by rw [ha0.2]; rfl) ha0.1
  obtain ⟨b586, hF586, hb586⟩ := hw.2.2.2.2.2 586 a0 41 (by rw [ha0.2]; rfl) ha0.1
  refine lv_aload_n hx hb dX10_lure_0 rfl (lv_at hl 0 rfl) ?_
  refine g_578 cx hw ha0 k_f_X10_26 dX10_lure_1 (fun v1 e1 h1 => ?_)
  refine lv_iload_n hx hb dX10_lure_4 rfl (lv_at hl 1 rfl) ?_
  refine o_ci hw (oRunV cx hA hw q_X2_isThere k_m_X10_135 rfl h1 (by decide) (As := [.int a1]) (c_X2_isThere v1 h1 a1) (by decide) rfl hl.1 rfl (Nat.le_of_ble_eq_true rfl) dX10_lure_5 (by decide)) (fun v3 σ2 H locs hp hw => ?_)
  obtain ⟨p3_0, p3_1, p3_2⟩ := hp
  rw [p3_0] at hw
  refine lv_if_eq (tgt := 22) hx hb dX10_lure_8 (by decide) (fun c4 => ?_) (fun c4 => ?_)
  · --
    have i5 : Iv v3 0 0 := iv_eq1 c4 p3_1 (⟨by decide, by decide⟩ : Iv 0 0 0) (by decide)
    refine lv_iconst (v := (-1)) hx hb dX10_lure_22 (by decide) ?_
    rw [← hQ]
    exact o_ri cx rx hw dX10_lure_23 ⟨fr, (iv_w (⟨by decide, by decide⟩ : Iv (-1) (-1) (-1)) (by decide)), (by intro V h; exact h)⟩
  · --
    have i6 : Iv v3 1 1 := iv_ne1 c4 p3_1 (⟨by decide, by decide⟩ : Iv 0 0 0) (by decide)
    have i7 : Iv a1 0 63 := p3_2 c4
    refine lv_iload_n hx hb dX10_lure_11 rfl (lv_at hl 2 rfl) ?_
    refine lv_iconst (v := 1) hx hb dX10_lure_12 (by decide) ?_
    refine lv_icmp_lt (tgt := 22) hx hb dX10_lure_13 (by decide) (fun c8 => ?_) (fun c8 => ?_)
    · --
      have i9 : Iv a2 (-2147483648) 0 := iv_lt1 c8 (iv_top a2) (⟨by decide, by decide⟩ : Iv 1 1 1) (by decide)
      refine lv_iconst (v := (-1)) hx hb dX10_lure_22 (by decide) ?_
      rw [← hQ]
      exact o_ri cx rx hw dX10_lure_23 ⟨fr, (iv_w (⟨by decide, by decide⟩ : Iv (-1) (-1) (-1)) (by decide)), (by intro V h; exact h)⟩
    · --
      have i10 : Iv a2 1 2147483647 := iv_le2 (iv_nlt c8) (⟨by decide, by decide⟩ : Iv 1 1 1) (iv_top a2) (by decide)
      refine lv_iload_n hx hb dX10_lure_16 rfl (lv_at hl 2 rfl) ?_
      refine lv_bipush (v := 100) hx hb dX10_lure_17 (by decide) ?_
      refine lv_icmp_le (tgt := 24) hx hb dX10_lure_19 (by decide) (fun c11 => ?_) (fun c11 => ?_)
      · --
        have i12 : Iv a2 1 100 := iv_le1 c11 i10 (⟨by decide, by decide⟩ : Iv 100 100 100) (by decide)
        refine lv_aload_n hx hb dX10_lure_24 rfl (lv_at hl 0 rfl) ?_
        refine g_583 cx hw ha0 k_f_X10_61 dX10_lure_25 (fun v13 e13 h13 => ?_)
        rw [show v13 = b583 from Option.some.inj (e13.symm.trans (hF583))]
        refine o_cr hw (oRunV cx hA hw q_X1_begin k_m_X10_377 rfl hb583 (by decide) (As := []) (c_X1_begin b583 hb583) (by decide) rfl hl.1 rfl (Nat.le_of_ble_eq_true rfl) dX10_lure_28 (by decide)) (fun v15 σ14 H locs hp hw => ?_)
        obtain ⟨p15_0, p15_1, p15_2⟩ := hp
        have fr := oFr_tr fr p15_0 (by decide)
        have nn16 : ∀ V, NV σ a0 V → NV σ14 a0 V := fun V h => by
          have h1 : NV σ a0 V := h
          exact nv_c h1 p15_0 (by decide +kernel) (u_v (p15_2 b581 (nv_F h1 (hF583) (hF581))) (nv_P h1 (hF581)))
        refine lv_pop hx hb dX10_lure_31 rfl ?_
        refine lv_aload_n hx hb dX10_lure_32 rfl (lv_at hl 0 rfl) ?_
        refine g_581 cx hw ha0 k_f_X10_49 dX10_lure_33 (fun v17 e17 h17 => ?_)
        rw [show v17 = b581 from Option.some.inj (e17.symm.trans (((kr_c p15_0 (by decide)).trans hF581)))]
        refine lv_iload_n hx hb dX10_lure_36 rfl (lv_at hl 1 rfl) ?_
        refine o_ci hw (oRunV cx hA hw q_X6_herdsAt k_m_X10_174 rfl hb581 (by decide) (As := [.int a1]) (c_X6_herdsAt b581 hb581 a1) (by decide) rfl hl.1 rfl (Nat.le_of_ble_eq_true rfl) dX10_lure_37 (by decide)) (fun v19 σ18 H locs hp hw => ?_)
        obtain ⟨p19_0, p19_1⟩ := hp
        rw [p19_0] at hw
        have frE_61 := fr
        have J_61 : ∀ (k61_0 : Int32) (ik61_0 : Iv k61_0 0 1), ∀ (σ_61 : oSt) (H : Heap) (locs : List Loc), oI A L τ cy D s.heap σ_61 H locs → oFr τ fs_X10_lure ts_X10_lure σ σ_61 → (∀ V, NV σ a0 V → NV σ_61 a0 V) → ∀ (ls : Array Slot), lv_has ls 5 [(0, .ref a0), (1, .int a1), (2, .int a2)] → W p l e ({ frames := 8, cells := 0, slots := 0, locals := 196 } : Room) s m args below meth c H locs 0 0 Q (F0 m 61 ls [.int k61_0]) := by
          intro k61_0 ik61_0 σ_61 H locs hw fr    nv_61  ls hl
          have fr_61 := fr
          refine lv_istore_n (lv' := [(3, .int k61_0), (0, .ref a0), (1, .int a1), (2, .int a2)]) hx hb dX10_lure_61 rfl hl (by decide) rfl (fun ls hl => ?_)
          refine lv_iload_n hx hb dX10_lure_62 rfl (lv_at hl 0 rfl) ?_
          have frE_79 := fr
          have J_79 : ∀ (k79_0 : Int32) (ik79_0 : Iv k79_0 (-2) 9), ∀ (σ_79 : oSt) (H : Heap) (locs : List Loc), oI A L τ cy D s.heap σ_79 H locs → oFr τ fs_X10_lure ts_X10_lure σ σ_79 → (∀ V, NV σ a0 V → NV σ_79 a0 V) → ∀ (ls : Array Slot), lv_has ls 5 [(0, .ref a0), (1, .int a1), (2, .int a2), (3, .int k61_0)] → W p l e ({ frames := 8, cells := 0, slots := 0, locals := 196 } : Room) s m args below meth c H locs 0 0 Q (F0 m 79 ls [.int k79_0]) := by
            intro k79_0 ik79_0 σ_79 H locs hw fr    nv_79  ls hl
            have fr_79 := fr
            refine lv_istore (lv' := [(4, .int k79_0), (0, .ref a0), (1, .int a1), (2, .int a2), (3, .int k61_0)]) hx hb dX10_lure_79 hl (by decide) rfl (fun ls hl => ?_)
            refine lv_iload hx hb dX10_lure_81 (lv_at hl 0 rfl) ?_
            refine lv_bipush (v := (-2)) hx hb dX10_lure_83 (by decide) ?_
            refine lv_icmp_eq (tgt := 120) hx hb dX10_lure_85 (by decide) (fun c20 => ?_) (fun c20 => ?_)
            · --
              have i21 : Iv k79_0 (-2) (-2) := iv_eq1 c20 ik79_0 (⟨by decide, by decide⟩ : Iv (-2) (-2) (-2)) (by decide)
              refine lv_iload hx hb dX10_lure_120 (lv_at hl 0 rfl) ?_
              rw [← hQ]
              exact o_ri cx rx hw dX10_lure_122 ⟨fr, (iv_w i21 (by decide)), (by intro V h; exact (nv_79 V h))⟩
            · --
              have i22 : Iv k79_0 (-1) 9 := iv_ne1 c20 ik79_0 (⟨by decide, by decide⟩ : Iv (-2) (-2) (-2)) (by decide)
              refine lv_aload_n hx hb dX10_lure_88 rfl (lv_at hl 1 rfl) ?_
              refine g_577 cx hw ha0 k_f_X10_19 dX10_lure_89 (fun v23 e23 h23 => ?_)
              refine o_cv hw (oRunV cx hA hw q_X4_start k_m_X10_292 rfl h23 (by decide) (As := []) (c_X4_start v23 h23) (by decide) rfl hl.1 rfl (Nat.le_of_ble_eq_true rfl) dX10_lure_92 (by decide)) (fun σ24 H locs hp hw => ?_)
              have p25_0 := hp
              have fr := oFr_tr fr p25_0 (by decide)
              refine lv_aload_n hx hb dX10_lure_95 rfl (lv_at hl 1 rfl) ?_
              refine g_577 cx hw ha0 k_f_X10_19 dX10_lure_96 (fun v26 e26 h26 => ?_)
              rw [show v26 = v23 from Option.some.inj (e26.symm.trans (((kr_c p25_0 (by decide)).trans e23)))]
              refine lv_iload_n hx hb dX10_lure_99 rfl (lv_at hl 4 rfl) ?_
              have J_117 : ∀ (k117_1 : Int64), ∀ (H : Heap) (locs : List Loc), oI A L τ cy D s.heap σ24 H locs → (∀ V, NV σ a0 V → NV σ24 a0 V) → ∀ (ls : Array Slot), lv_has ls 5 [(0, .ref a0), (1, .int a1), (2, .int a2), (3, .int k61_0), (4, .int k79_0)] → W p l e ({ frames := 8, cells := 0, slots := 0, locals := 196 } : Room) s m args below meth c H locs 0 0 Q (F0 m 117 ls [.long k117_1, .ref v23]) := by
                intro k117_1 H locs hw   nv_117  ls hl
                refine o_cv hw (oRunV cx hA hw q_X4_put k_m_X10_295 rfl h23 (by decide) (As := [.long k117_1]) (c_X4_put v23 h23 k117_1) (by decide) rfl hl.1 rfl (Nat.le_of_ble_eq_true rfl) dX10_lure_117 (by decide)) (fun σ27 H locs hp hw => ?_)
                have p28_0 := hp
                have fr := oFr_tr fr p28_0 (by decide)
                refine lv_iload hx hb dX10_lure_120 (lv_at hl 4 rfl) ?_
                rw [← hQ]
                exact o_ri cx rx hw dX10_lure_122 ⟨fr, (iv_w i22 (by decide)), (by intro V h; exact (nv_0 (nv_117 V h) p28_0 (by decide +kernel)))⟩
              refine lv_if_eq (tgt := 109) hx hb dX10_lure_100 (by decide) (fun c29 => ?_) (fun c29 => ?_)
              · --
                have i30 : Iv k61_0 0 0 := iv_eq1 c29 ik61_0 (⟨by decide, by decide⟩ : Iv 0 0 0) (by decide)
                refine lv_aload_n hx hb dX10_lure_109 rfl (lv_at hl 1 rfl) ?_
                refine g_583 cx hw ha0 k_f_X10_61 dX10_lure_110 (fun v31 e31 h31 => ?_)
                rw [show v31 = b583 from Option.some.inj (e31.symm.trans (((kr_c p25_0 (by decide)).trans ((kr_c fr_79 (by decide)).trans hF583))))]
                refine g_6 cx hw hb583 k_f_X10_398 dX10_lure_113 (fun v32 e32 => ?_)
                have z32 : v32.toInt = (σ24.1 6 b583).toInt := congrArg Int32.toInt e32
                refine lv_i2l hx hb dX10_lure_116 rfl ?_
                refine lv_topl (fun v33 e33 => ?_)
                exact J_117 v33 _ _ hw (fun V h => (nv_0 (nv_79 V h) p25_0 (by decide +kernel))) _ (lv_sub hl [1, 2, 3, 4, 0] rfl)
              · --
                have i34 : Iv k61_0 1 1 := iv_ne1 c29 ik61_0 (⟨by decide, by decide⟩ : Iv 0 0 0) (by decide)
                refine lv_ldc2 (v := (-1)) hx hb hown (hts _ k_k_X10_347) dX10_lure_103 ?_
                refine lv_goto (tgt := 117) hx hb dX10_lure_106 (by decide) ?_
                exact J_117 (-1) _ _ hw (fun V h => (nv_0 (nv_79 V h) p25_0 (by decide +kernel))) _ (lv_sub hl [1, 2, 3, 4, 0] rfl)
          refine lv_if_eq (tgt := 70) hx hb dX10_lure_63 (by decide) (fun c35 => ?_) (fun c35 => ?_)
          · --
            have i36 : Iv k61_0 0 0 := iv_eq1 c35 ik61_0 (⟨by decide, by decide⟩ : Iv 0 0 0) (by decide)
            refine lv_aload_n hx hb dX10_lure_70 rfl (lv_at hl 1 rfl) ?_
            refine g_583 cx hw ha0 k_f_X10_61 dX10_lure_71 (fun v37 e37 h37 => ?_)
            rw [show v37 = b583 from Option.some.inj (e37.symm.trans (((kr_c fr_61 (by decide)).trans hF583)))]
            refine lv_iload_n hx hb dX10_lure_74 rfl (lv_at hl 2 rfl) ?_
            refine lv_iload_n hx hb dX10_lure_75 rfl (lv_at hl 3 rfl) ?_
            refine o_ci hw (oRunV cx hA hw q_X1_saltThatLures k_m_X10_395 rfl hb583 (by decide) (As := [.int a1, .int a2]) (c_X1_saltThatLures b583 hb583 a1 a2 (iv_w i12 (by decide))) (by decide) rfl hl.1 rfl (Nat.le_of_ble_eq_true rfl) dX10_lure_76 (by decide)) (fun v39 σ38 H locs hp hw => ?_)
            obtain ⟨p39_0, p39_1, p39_2⟩ := hp
            have fr := oFr_tr fr p39_0 (by decide)
            have nn40 : ∀ V, NV σ a0 V → NV σ38 a0 V := fun V h => by
              have h1 : NV σ_61 a0 V := (nv_61 V h)
              exact nv_c h1 p39_0 (by decide +kernel) (u_v (p39_2 b581 (nv_F h1 (((kr_c fr_61 (by decide)).trans hF583)) (((kr_c fr_61 (by decide)).trans hF581)))) (nv_P h1 (((kr_c fr_61 (by decide)).trans hF581))))
            exact J_79 v39 p39_1 σ38 _ _ hw fr (fun V h => (nn40 V h)) _ (lv_sub hl [1, 2, 3, 0] rfl)
          · --
            have i41 : Iv k61_0 1 1 := iv_ne1 c35 ik61_0 (⟨by decide, by decide⟩ : Iv 0 0 0) (by decide)
            refine lv_iconst (v := 0) hx hb dX10_lure_66 (by decide) ?_
            refine lv_goto (tgt := 79) hx hb dX10_lure_67 (by decide) ?_
            exact J_79 0 (iv_w (⟨by decide, by decide⟩ : Iv 0 0 0) (by decide)) σ_61 _ _ hw fr (fun V h => (nv_61 V h)) _ (lv_sub hl [1, 2, 3, 0] rfl)
        have frE_56 := fr
        have J_56 : ∀ (σ_56 : oSt) (H : Heap) (locs : List Loc), oI A L τ cy D s.heap σ_56 H locs → oFr τ fs_X10_lure ts_X10_lure σ σ_56 → (∀ V, NV σ a0 V → NV σ_56 a0 V) → ∀ (ls : Array Slot), lv_has ls 5 [(0, .ref a0), (1, .int a1), (2, .int a2)] → W p l e ({ frames := 8, cells := 0, slots := 0, locals := 196 } : Room) s m args below meth c H locs 0 0 Q (F0 m 56 ls []) := by
          intro  σ_56 H locs hw fr    nv_56  ls hl
          have fr_56 := fr
          refine lv_iconst (v := 1) hx hb dX10_lure_56 (by decide) ?_
          refine lv_goto (tgt := 61) hx hb dX10_lure_57 (by decide) ?_
          exact J_61 1 (iv_w (⟨by decide, by decide⟩ : Iv 1 1 1) (by decide)) σ_56 _ _ hw fr (fun V h => (nv_56 V h)) _ (lv_sub hl [0, 1, 2] rfl)
        refine lv_if_ne (tgt := 56) hx hb dX10_lure_40 (by decide) (fun c42 => ?_) (fun c42 => ?_)
        · --
          have i43 : Iv v19 1 63 := iv_ne1 c42 p19_1 (⟨by decide, by decide⟩ : Iv 0 0 0) (by decide)
          exact J_56 σ14 _ _ hw fr (fun V h => (nn16 V h)) _ (lv_sub hl [0, 1, 2] rfl)
        · --
          have i44 : Iv v19 0 0 := iv_eq1 c42 p19_1 (⟨by decide, by decide⟩ : Iv 0 0 0) (by decide)
          refine lv_aload_n hx hb dX10_lure_43 rfl (lv_at hl 0 rfl) ?_
          refine g_583 cx hw ha0 k_f_X10_61 dX10_lure_44 (fun v45 e45 h45 => ?_)
          rw [show v45 = b583 from Option.some.inj (e45.symm.trans (((kr_c p15_0 (by decide)).trans hF583)))]
          refine lv_iload_n hx hb dX10_lure_47 rfl (lv_at hl 1 rfl) ?_
          refine lv_iload_n hx hb dX10_lure_48 rfl (lv_at hl 2 rfl) ?_
          refine o_ci hw (oRunV cx hA hw q_X1_hourOfComing k_m_X10_380 rfl hb583 (by decide) (As := [.int a1, .int a2]) (c_X1_hourOfComing b583 hb583 a1 a2 (iv_w i12 (by decide))) (by decide) rfl hl.1 rfl (Nat.le_of_ble_eq_true rfl) dX10_lure_49 (by decide)) (fun v47 σ46 H locs hp hw => ?_)
          obtain ⟨p47_0, p47_1⟩ := hp
          have fr := oFr_tr fr p47_0 (by decide)
          refine lv_iconst (v := (-1)) hx hb dX10_lure_52 (by decide) ?_
          refine lv_icmp_eq (tgt := 60) hx hb dX10_lure_53 (by decide) (fun c48 => ?_) (fun c48 => ?_)
          · --
            have i49 : Iv v47 (-1) (-1) := iv_eq1 c48 p47_1 (⟨by decide, by decide⟩ : Iv (-1) (-1) (-1)) (by decide)
            refine lv_iconst (v := 0) hx hb dX10_lure_60 (by decide) ?_
            exact J_61 0 (iv_w (⟨by decide, by decide⟩ : Iv 0 0 0) (by decide)) σ46 _ _ hw fr (fun V h => (nv_0 (nn16 V h) p47_0 (by decide +kernel))) _ (lv_sub hl [0, 1, 2] rfl)
          · --
            have i50 : Iv v47 0 100 := iv_ne1 c48 p47_1 (⟨by decide, by decide⟩ : Iv (-1) (-1) (-1)) (by decide)
            exact J_56 σ46 _ _ hw fr (fun V h => (nv_0 (nn16 V h) p47_0 (by decide +kernel))) _ (lv_sub hl [0, 1, 2] rfl)
      · --
        have i51 : Iv a2 101 2147483647 := iv_lt2 (iv_nle c11) (⟨by decide, by decide⟩ : Iv 100 100 100) i10 (by decide)
        refine lv_iconst (v := (-1)) hx hb dX10_lure_22 (by decide) ?_
        rw [← hQ]
        exact o_ri cx rx hw dX10_lure_23 ⟨fr, (iv_w (⟨by decide, by decide⟩ : Iv (-1) (-1) (-1)) (by decide)), (by intro V h; exact h)⟩
end OM
