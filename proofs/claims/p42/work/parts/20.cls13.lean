section OM
variable {l : Launch} {A : Nat → Prop} {L : List Nat} {τ : Nat → Nat} {cy : Nat → ClassId} {D : va_G} {K : (Nat → Nat) × (Nat → Nat)} {σ : oSt}
abbrev fs_X10_ways : List Nat := [193]
abbrev ts_X10_ways : List Nat := [36, 39]
set_option maxHeartbeats 4000000 in
set_option maxRecDepth 100000 in
theorem c_X10_ways (a0 : Nat) (ha0 : oA L τ a0 9) (a1 : Int32) (a2 : Int32) (a3 : Int32) : oMet l A L τ cy D K yX10_ways cX10_ways 7 (some .int) 3 111 [.ref a0, .int a1, .int a2, .int a3] σ (va_Qi (fun r σ1 => oFr τ fs_X10_ways ts_X10_ways σ σ1) (oPo A L τ cy D) A) := by
  refine oMk (by decide) (Nat.le_of_ble_eq_true rfl) rfl ?_
  intro p e s m args below meth c ls cx rx hA hw hl
  generalize hQ : MQ below _ args s 0 0 A = Q
  have hx := cx.1.1
  have hb := cx.1.2.1
  have hml := cx.1.2.2.1
  have hown := cx.1.2.2.2.1
  have hts := cx.1.2.2.2.2
  have hl : lv_has ls 7 [(0, .ref a0), (1, .int a1), (2, .int a2), (3, .int a3)] := hl
  have fr : oFr τ fs_X10_ways ts_X10_ways σ σ := oFr_rf
  refine lv_aload_n hx hb dX10_ways_0 rfl (lv_at hl 0 rfl) ?_
  refine g_578 cx hw ha0 k_f_X10_26 dX10_ways_1 (fun v1 e1 h1 => ?_)
  refine lv_iload_n hx hb dX10_ways_4 rfl (lv_at hl 1 rfl) ?_
  refine o_ci hw (oRunV cx hA hw q_X2_isThere k_m_X10_135 rfl h1 (by decide) (As := [.int a1]) (c_X2_isThere v1 h1 a1) (by decide) rfl hl.1 rfl (Nat.le_of_ble_eq_true rfl) dX10_ways_5 (by decide)) (fun v3 σ2 H locs hp hw => ?_)
  obtain ⟨p3_0, p3_1, p3_2⟩ := hp
  rw [p3_0] at hw
  refine lv_if_eq (tgt := 32) hx hb dX10_ways_8 (by decide) (fun c4 => ?_) (fun c4 => ?_)
  · --
    have i5 : Iv v3 0 0 := iv_eq1 c4 p3_1 (⟨by decide, by decide⟩ : Iv 0 0 0) (by decide)
    refine lv_iconst (v := (-1)) hx hb dX10_ways_32 (by decide) ?_
    rw [← hQ]
    exact o_ri cx rx hw dX10_ways_33 fr
  · --
    have i6 : Iv v3 1 1 := iv_ne1 c4 p3_1 (⟨by decide, by decide⟩ : Iv 0 0 0) (by decide)
    have i7 : Iv a1 0 63 := p3_2 c4
    refine lv_aload_n hx hb dX10_ways_11 rfl (lv_at hl 0 rfl) ?_
    refine g_578 cx hw ha0 k_f_X10_26 dX10_ways_12 (fun v8 e8 h8 => ?_)
    rw [show v8 = v1 from Option.some.inj (e8.symm.trans (e1))]
    refine lv_iload_n hx hb dX10_ways_15 rfl (lv_at hl 2 rfl) ?_
    refine o_ci hw (oRunV cx hA hw q_X2_isThere k_m_X10_135 rfl h1 (by decide) (As := [.int a2]) (c_X2_isThere v1 h1 a2) (by decide) rfl hl.1 rfl (Nat.le_of_ble_eq_true rfl) dX10_ways_16 (by decide)) (fun v10 σ9 H locs hp hw => ?_)
    obtain ⟨p10_0, p10_1, p10_2⟩ := hp
    rw [p10_0] at hw
    refine lv_if_eq (tgt := 32) hx hb dX10_ways_19 (by decide) (fun c11 => ?_) (fun c11 => ?_)
    · --
      have i12 : Iv v10 0 0 := iv_eq1 c11 p10_1 (⟨by decide, by decide⟩ : Iv 0 0 0) (by decide)
      refine lv_iconst (v := (-1)) hx hb dX10_ways_32 (by decide) ?_
      rw [← hQ]
      exact o_ri cx rx hw dX10_ways_33 fr
    · --
      have i13 : Iv v10 1 1 := iv_ne1 c11 p10_1 (⟨by decide, by decide⟩ : Iv 0 0 0) (by decide)
      have i14 : Iv a2 0 63 := p10_2 c11
      refine lv_iload_n hx hb dX10_ways_22 rfl (lv_at hl 3 rfl) ?_
      refine lv_if_lt (tgt := 32) hx hb dX10_ways_23 (by decide) (fun c15 => ?_) (fun c15 => ?_)
      · --
        have i16 : Iv a3 (-2147483648) (-1) := iv_lt1 c15 (iv_top a3) (⟨by decide, by decide⟩ : Iv 0 0 0) (by decide)
        refine lv_iconst (v := (-1)) hx hb dX10_ways_32 (by decide) ?_
        rw [← hQ]
        exact o_ri cx rx hw dX10_ways_33 fr
      · --
        have i17 : Iv a3 0 2147483647 := iv_le2 (iv_nlt c15) (⟨by decide, by decide⟩ : Iv 0 0 0) (iv_top a3) (by decide)
        refine lv_iload_n hx hb dX10_ways_26 rfl (lv_at hl 3 rfl) ?_
        refine lv_bipush (v := 20) hx hb dX10_ways_27 (by decide) ?_
        refine lv_icmp_le (tgt := 34) hx hb dX10_ways_29 (by decide) (fun c18 => ?_) (fun c18 => ?_)
        · --
          have i19 : Iv a3 0 20 := iv_le1 c18 i17 (⟨by decide, by decide⟩ : Iv 20 20 20) (by decide)
          refine lv_aload_n hx hb dX10_ways_34 rfl (lv_at hl 0 rfl) ?_
          refine o_cl hw (oRunV cx hA hw q_X10_roadNow k_m_X10_335 rfl ha0 (by decide) (As := []) (c_X10_roadNow a0 ha0) (by decide) rfl hl.1 rfl (Nat.le_of_ble_eq_true rfl) dX10_ways_35 (by decide)) (fun v21 σ20 H locs hp hw => ?_)
          have p21_0 := hp
          rw [p21_0] at hw
          refine lv_lstore (lv' := [(4, .long v21), (0, .ref a0), (1, .int a1), (2, .int a2), (3, .int a3)]) hx hb dX10_ways_38 hl (by decide) rfl (fun ls hl => ?_)
          refine lv_iconst (v := (-1)) hx hb dX10_ways_40 (by decide) ?_
          refine lv_istore (lv' := [(6, .int (-1)), (4, .long v21), (0, .ref a0), (1, .int a1), (2, .int a2), (3, .int a3)]) hx hb dX10_ways_41 hl (by decide) rfl (fun ls hl => ?_)
          refine lv_iload_n hx hb dX10_ways_43 rfl (lv_at hl 5 rfl) ?_
          have frE_79 := fr
          have J_79 : ∀ (j79_6 : Int32) (ij79_6 : Iv j79_6 (-1) 63), ∀ (σ_79 : oSt) (H : Heap) (locs : List Loc), oI A L τ cy D s.heap σ_79 H locs → oFr τ fs_X10_ways ts_X10_ways σ σ_79 → ∀ (ls : Array Slot), lv_has ls 7 [(0, .ref a0), (1, .int a1), (2, .int a2), (3, .int a3), (4, .long v21), (6, .int j79_6)] → W p l e ({ frames := 3, cells := 0, slots := 0, locals := 111 } : Room) s m args below meth c H locs 0 0 Q (F0 m 79 ls []) := by
            intro j79_6 ij79_6 σ_79 H locs hw fr      ls hl
            have fr_79 := fr
            refine lv_aload_n hx hb dX10_ways_79 rfl (lv_at hl 0 rfl) ?_
            refine g_584 cx hw ha0 k_f_X10_68 dX10_ways_80 (fun v22 e22 h22 => ?_)
            refine lv_lload hx hb dX10_ways_83 (lv_at hl 4 rfl) ?_
            refine lv_iload_n hx hb dX10_ways_85 rfl (lv_at hl 2 rfl) ?_
            refine lv_iload_n hx hb dX10_ways_86 rfl (lv_at hl 3 rfl) ?_
            refine o_cv hw (oRunV cx hA hw q_X8_countWays k_m_X10_424 rfl h22 (by decide) (As := [.long v21, .int a2, .int a3]) (c_X8_countWays v22 h22 v21 a2 a3) (by decide) rfl hl.1 rfl (Nat.le_of_ble_eq_true rfl) dX10_ways_87 (by decide)) (fun σ23 H locs hp hw => ?_)
            have p24_0 := hp
            have fr := oFr_tr fr p24_0 (by decide)
            refine lv_aload_n hx hb dX10_ways_90 rfl (lv_at hl 0 rfl) ?_
            refine g_577 cx hw ha0 k_f_X10_19 dX10_ways_91 (fun v25 e25 h25 => ?_)
            refine o_cv hw (oRunV cx hA hw q_X4_start k_m_X10_292 rfl h25 (by decide) (As := []) (c_X4_start v25 h25) (by decide) rfl hl.1 rfl (Nat.le_of_ble_eq_true rfl) dX10_ways_94 (by decide)) (fun σ26 H locs hp hw => ?_)
            have p27_0 := hp
            have fr := oFr_tr fr p27_0 (by decide)
            refine lv_aload_n hx hb dX10_ways_97 rfl (lv_at hl 0 rfl) ?_
            refine g_577 cx hw ha0 k_f_X10_19 dX10_ways_98 (fun v28 e28 h28 => ?_)
            rw [show v28 = v25 from Option.some.inj (e28.symm.trans (((kr_c p27_0 (by decide)).trans e25)))]
            refine lv_iload hx hb dX10_ways_101 (lv_at hl 5 rfl) ?_
            refine lv_i2l hx hb dX10_ways_103 rfl ?_
            refine lv_topl (fun v29 e29 => ?_)
            refine o_cv hw (oRunV cx hA hw q_X4_put k_m_X10_295 rfl h25 (by decide) (As := [.long v29]) (c_X4_put v25 h25 v29) (by decide) rfl hl.1 rfl (Nat.le_of_ble_eq_true rfl) dX10_ways_104 (by decide)) (fun σ30 H locs hp hw => ?_)
            have p31_0 := hp
            have fr := oFr_tr fr p31_0 (by decide)
            refine lv_aload_n hx hb dX10_ways_107 rfl (lv_at hl 0 rfl) ?_
            refine g_584 cx hw ha0 k_f_X10_68 dX10_ways_108 (fun v32 e32 h32 => ?_)
            rw [show v32 = v22 from Option.some.inj (e32.symm.trans (((kr_c p31_0 (by decide)).trans ((kr_c p27_0 (by decide)).trans ((kr_c p24_0 (by decide)).trans e22)))))]
            refine g_449 cx hw h22 k_f_X10_431 dX10_ways_111 (fun v33 e33 h33 => ?_)
            refine lv_iload_n hx hb dX10_ways_114 rfl (lv_at hl 1 rfl) ?_
            refine o_lald cx hw h33 (by decide) rfl (iv_in i7 (by decide)) dX10_ways_115 (fun v34 e34 => ?_)
            refine lv_l2i hx hb dX10_ways_116 rfl ?_
            refine lv_topi (fun v35 e35 => ?_)
            rw [← hQ]
            exact o_ri cx rx hw dX10_ways_117 fr
          refine lv_if_le (tgt := 79) hx hb dX10_ways_44 (by decide) (fun c36 => ?_) (fun c36 => ?_)
          · --
            have i37 : Iv a3 0 0 := iv_le1 c36 i19 (⟨by decide, by decide⟩ : Iv 0 0 0) (by decide)
            exact J_79 (-1) (iv_w (⟨by decide, by decide⟩ : Iv (-1) (-1) (-1)) (by decide)) σ _ _ hw fr _ (lv_sub hl [2, 3, 4, 5, 1, 0] rfl)
          · --
            have i38 : Iv a3 1 20 := iv_lt2 (iv_nle c36) (⟨by decide, by decide⟩ : Iv 0 0 0) i19 (by decide)
            refine lv_lload hx hb dX10_ways_47 (lv_at hl 1 rfl) ?_
            refine lv_iload_n hx hb dX10_ways_49 rfl (lv_at hl 3 rfl) ?_
            refine o_ci hw (oRunS cx hA hw q_X0_has k_m_X10_321 (As := [.long v21, .int a1]) (c_X0_has v21 a1) (by decide) rfl hl.1 rfl (Nat.le_of_ble_eq_true rfl) dX10_ways_50 (by decide)) (fun v40 σ39 H locs hp hw => ?_)
            obtain ⟨p40_0, p40_1, p40_2⟩ := hp
            rw [p40_0] at hw
            refine lv_if_eq (tgt := 79) hx hb dX10_ways_53 (by decide) (fun c41 => ?_) (fun c41 => ?_)
            · --
              have i42 : Iv v40 0 0 := iv_eq1 c41 p40_1 (⟨by decide, by decide⟩ : Iv 0 0 0) (by decide)
              exact J_79 (-1) (iv_w (⟨by decide, by decide⟩ : Iv (-1) (-1) (-1)) (by decide)) σ _ _ hw fr _ (lv_sub hl [2, 3, 4, 5, 1, 0] rfl)
            · --
              have i43 : Iv v40 1 1 := iv_ne1 c41 p40_1 (⟨by decide, by decide⟩ : Iv 0 0 0) (by decide)
              have i44 : Iv a1 0 63 := p40_2 c41
              refine lv_aload_n hx hb dX10_ways_56 rfl (lv_at hl 2 rfl) ?_
              refine g_584 cx hw ha0 k_f_X10_68 dX10_ways_57 (fun v45 e45 h45 => ?_)
              refine lv_lload hx hb dX10_ways_60 (lv_at hl 1 rfl) ?_
              refine lv_iload_n hx hb dX10_ways_62 rfl (lv_at hl 4 rfl) ?_
              refine lv_iload_n hx hb dX10_ways_63 rfl (lv_at hl 5 rfl) ?_
              refine lv_iconst (v := 1) hx hb dX10_ways_64 (by decide) ?_
              refine lv_isub hx hb dX10_ways_65 ?_
              refine lv_topi (fun v46 e46 => ?_)
              have i46 : Iv v46 0 19 := iv_sub e46 i38 (⟨by decide, by decide⟩ : Iv 1 1 1) (by decide)
              have x46 : v46.toInt = a3.toInt + (-1) := ex_sub e46 i38 (⟨by decide, by decide⟩ : Iv 1 1 1) (by decide)
              refine o_cv hw (oRunV cx hA hw q_X8_countWays k_m_X10_424 rfl h45 (by decide) (As := [.long v21, .int a2, .int v46]) (c_X8_countWays v45 h45 v21 a2 v46) (by decide) rfl hl.1 rfl (Nat.le_of_ble_eq_true rfl) dX10_ways_66 (by decide)) (fun σ47 H locs hp hw => ?_)
              have p48_0 := hp
              have fr := oFr_tr fr p48_0 (by decide)
              refine lv_aload_n hx hb dX10_ways_69 rfl (lv_at hl 2 rfl) ?_
              refine g_584 cx hw ha0 k_f_X10_68 dX10_ways_70 (fun v49 e49 h49 => ?_)
              rw [show v49 = v45 from Option.some.inj (e49.symm.trans (((kr_c p48_0 (by decide)).trans e45)))]
              refine lv_iload_n hx hb dX10_ways_73 rfl (lv_at hl 3 rfl) ?_
              refine o_ci hw (oRunV cx hA hw q_X8_leastWithWay k_m_X10_428 rfl h45 (by decide) (As := [.int a1]) (c_X8_leastWithWay v45 h45 a1) (by decide) rfl hl.1 rfl (Nat.le_of_ble_eq_true rfl) dX10_ways_74 (by decide)) (fun v51 σ50 H locs hp hw => ?_)
              obtain ⟨p51_0, p51_1⟩ := hp
              rw [p51_0] at hw
              refine lv_istore (lv' := [(6, .int v51), (4, .long v21), (0, .ref a0), (1, .int a1), (2, .int a2), (3, .int a3)]) hx hb dX10_ways_77 hl (by decide) rfl (fun ls hl => ?_)
              exact J_79 v51 p51_1 σ47 _ _ hw fr _ (lv_sub hl [2, 3, 4, 5, 1, 0] rfl)
        · --
          have i52 : Iv a3 21 2147483647 := iv_lt2 (iv_nle c18) (⟨by decide, by decide⟩ : Iv 20 20 20) i17 (by decide)
          refine lv_iconst (v := (-1)) hx hb dX10_ways_32 (by decide) ?_
          rw [← hQ]
          exact o_ri cx rx hw dX10_ways_33 fr
abbrev fs_X10_bride : List Nat := [193, 385, 386, 387]
abbrev ts_X10_bride : List Nat := [32, 36, 39]
set_option maxHeartbeats 4000000 in
set_option maxRecDepth 100000 in
theorem c_X10_bride (a0 : Nat) (ha0 : oA L τ a0 9) : oMet l A L τ cy D K yX10_bride cX10_bride 3 (some .int) 5 140 [.ref a0] σ (va_Qi (fun r σ1 => oFr τ fs_X10_bride ts_X10_bride σ σ1 ∧ (∀ b, σ.2.2.2.2 576 a0 = some b → Iv (σ1.1 385 b) 0 0)) (oPo A L τ cy D) A) := by
  refine oMk (by decide) (Nat.le_of_ble_eq_true rfl) rfl ?_
  intro p e s m args below meth c ls cx rx hA hw hl
  generalize hQ : MQ below _ args s 0 0 A = Q
  have hx := cx.1.1
  have hb := cx.1.2.1
  have hml := cx.1.2.2.1
  have hown := cx.1.2.2.2.1
  have hts := cx.1.2.2.2.2
  have hl : lv_has ls 3 [(0, .ref a0)] := hl
  have fr : oFr τ fs_X10_bride ts_X10_bride σ σ := oFr_rf
  obtain ⟨b576, hF576, hb576⟩ := hw.2.2.2.2.2 576 a0 6 (by rw [ha0.2]; rfl) ha0.1
  refine lv_aload_n hx hb dX10_bride_0 rfl (lv_at hl 0 rfl) ?_
  refine g_576 cx hw ha0 k_f_X10_10 dX10_bride_1 (fun v1 e1 h1 => ?_)
  rw [show v1 = b576 from Option.some.inj (e1.symm.trans (hF576))]
  refine lv_bipush (v := 80) hx hb dX10_bride_4 (by decide) ?_
  refine o_cv hw (oRunV cx hA hw q_X7_begin k_m_X10_220 rfl hb576 (by decide) (As := [.int 80]) (c_X7_begin b576 hb576 80) (by decide) rfl hl.1 rfl (Nat.le_of_ble_eq_true rfl) dX10_bride_6 (by decide)) (fun σ2 H locs hp hw => ?_)
  have p3_0 := hp
  have fr := oFr_tr fr p3_0 (by decide)
  refine lv_aload_n hx hb dX10_bride_9 rfl (lv_at hl 0 rfl) ?_
  refine o_ci hw (oRunV cx hA hw q_X10_faultOfSightings k_m_X10_435 rfl ha0 (by decide) (As := []) (c_X10_faultOfSightings a0 ha0) (by decide) rfl hl.1 rfl (Nat.le_of_ble_eq_true rfl) dX10_bride_10 (by decide)) (fun v5 σ4 H locs hp hw => ?_)
  have p5_0 := hp
  have fr := oFr_tr fr p5_0 (by decide)
  refine lv_istore_n (lv' := [(1, .int v5), (0, .ref a0)]) hx hb dX10_bride_13 rfl hl (by decide) rfl (fun ls hl => ?_)
  refine lv_iload_n hx hb dX10_bride_14 rfl (lv_at hl 0 rfl) ?_
  have frE_26 := fr
  have J_26 : ∀ (k26_0 : Int32), ∀ (σ_26 : oSt) (H : Heap) (locs : List Loc), oI A L τ cy D s.heap σ_26 H locs → oFr τ fs_X10_bride ts_X10_bride σ σ_26 → ∀ (ls : Array Slot), lv_has ls 3 [(0, .ref a0), (1, .int v5)] → W p l e ({ frames := 5, cells := 0, slots := 0, locals := 140 } : Room) s m args below meth c H locs 0 0 Q (F0 m 26 ls [.int k26_0]) := by
    intro k26_0 σ_26 H locs hw fr      ls hl
    have fr_26 := fr
    refine lv_istore_n (lv' := [(2, .int k26_0), (0, .ref a0), (1, .int v5)]) hx hb dX10_bride_26 rfl hl (by decide) rfl (fun ls hl => ?_)
    refine lv_aload_n hx hb dX10_bride_27 rfl (lv_at hl 1 rfl) ?_
    refine g_576 cx hw ha0 k_f_X10_10 dX10_bride_28 (fun v6 e6 h6 => ?_)
    rw [show v6 = b576 from Option.some.inj (e6.symm.trans (((kr_c fr_26 (by decide)).trans hF576)))]
    refine o_cv hw (oRunV cx hA hw q_X7_empty k_m_X10_93 rfl hb576 (by decide) (As := []) (c_X7_empty b576 hb576) (by decide) rfl hl.1 rfl (Nat.le_of_ble_eq_true rfl) dX10_bride_31 (by decide)) (fun σ7 H locs hp hw => ?_)
    obtain ⟨p8_0, p8_1⟩ := hp
    have fr := oFr_tr fr p8_0 (by decide)
    refine lv_iload_n hx hb dX10_bride_34 rfl (lv_at hl 0 rfl) ?_
    rw [← hQ]
    exact o_ri cx rx hw dX10_bride_35 ⟨fr, (by intro b hb9; rw [show b = b576 from Option.some.inj (hb9.symm.trans ((kr_c fr (by decide)).symm.trans (((kr_c p8_0 (by decide)).trans ((kr_c fr_26 (by decide)).trans hF576)))))]; exact (kn_iv (rfl) (iv_w p8_1 (by decide))))⟩
  refine lv_if_ne (tgt := 25) hx hb dX10_bride_15 (by decide) (fun c9 => ?_) (fun c9 => ?_)
  · --
    refine lv_iload_n hx hb dX10_bride_25 rfl (lv_at hl 0 rfl) ?_
    exact J_26 v5 σ4 _ _ hw fr _ (lv_sub hl [1, 0] rfl)
  · --
    have i10 : Iv v5 0 0 := iv_eq1 c9 (iv_top v5) (⟨by decide, by decide⟩ : Iv 0 0 0) (by decide)
    refine lv_aload_n hx hb dX10_bride_18 rfl (lv_at hl 1 rfl) ?_
    refine o_ci hw (oRunV cx hA hw q_X10_followSightings k_m_X10_438 rfl ha0 (by decide) (As := []) (c_X10_followSightings a0 ha0) (by decide) rfl hl.1 rfl (Nat.le_of_ble_eq_true rfl) dX10_bride_19 (by decide)) (fun v12 σ11 H locs hp hw => ?_)
    have p12_0 := hp
    have fr := oFr_tr fr p12_0 (by decide)
    refine lv_goto (tgt := 26) hx hb dX10_bride_22 (by decide) ?_
    exact J_26 v12 σ11 _ _ hw fr _ (lv_sub hl [1, 0] rfl)
abbrev fs_X10_lost : List Nat := [193]
abbrev ts_X10_lost : List Nat := [36, 39]
set_option maxHeartbeats 4000000 in
set_option maxRecDepth 100000 in
theorem c_X10_lost (a0 : Nat) (ha0 : oA L τ a0 9) (a1 : Int32) (a2 : Int32) (a3 : Int32) : oMet l A L τ cy D K yX10_lost cX10_lost 6 (some .int) 3 86 [.ref a0, .int a1, .int a2, .int a3] σ (va_Qi (fun r σ1 => oFr τ fs_X10_lost ts_X10_lost σ σ1) (oPo A L τ cy D) A) := by
  refine oMk (by decide) (Nat.le_of_ble_eq_true rfl) rfl ?_
  intro p e s m args below meth c ls cx rx hA hw hl
  generalize hQ : MQ below _ args s 0 0 A = Q
  have hx := cx.1.1
  have hb := cx.1.2.1
  have hml := cx.1.2.2.1
  have hown := cx.1.2.2.2.1
  have hts := cx.1.2.2.2.2
  have hl : lv_has ls 6 [(0, .ref a0), (1, .int a1), (2, .int a2), (3, .int a3)] := hl
  have fr : oFr τ fs_X10_lost ts_X10_lost σ σ := oFr_rf
  refine lv_aload_n hx hb dX10_lost_0 rfl (lv_at hl 0 rfl) ?_
  refine g_578 cx hw ha0 k_f_X10_26 dX10_lost_1 (fun v1 e1 h1 => ?_)
  refine lv_iload_n hx hb dX10_lost_4 rfl (lv_at hl 1 rfl) ?_
  refine o_ci hw (oRunV cx hA hw q_X2_isThere k_m_X10_135 rfl h1 (by decide) (As := [.int a1]) (c_X2_isThere v1 h1 a1) (by decide) rfl hl.1 rfl (Nat.le_of_ble_eq_true rfl) dX10_lost_5 (by decide)) (fun v3 σ2 H locs hp hw => ?_)
  obtain ⟨p3_0, p3_1, p3_2⟩ := hp
  rw [p3_0] at hw
  refine lv_if_eq (tgt := 32) hx hb dX10_lost_8 (by decide) (fun c4 => ?_) (fun c4 => ?_)
  · --
    have i5 : Iv v3 0 0 := iv_eq1 c4 p3_1 (⟨by decide, by decide⟩ : Iv 0 0 0) (by decide)
    refine lv_iconst (v := (-1)) hx hb dX10_lost_32 (by decide) ?_
    rw [← hQ]
    exact o_ri cx rx hw dX10_lost_33 fr
  · --
    have i6 : Iv v3 1 1 := iv_ne1 c4 p3_1 (⟨by decide, by decide⟩ : Iv 0 0 0) (by decide)
    have i7 : Iv a1 0 63 := p3_2 c4
    refine lv_aload_n hx hb dX10_lost_11 rfl (lv_at hl 0 rfl) ?_
    refine g_578 cx hw ha0 k_f_X10_26 dX10_lost_12 (fun v8 e8 h8 => ?_)
    rw [show v8 = v1 from Option.some.inj (e8.symm.trans (e1))]
    refine lv_iload_n hx hb dX10_lost_15 rfl (lv_at hl 2 rfl) ?_
    refine o_ci hw (oRunV cx hA hw q_X2_isThere k_m_X10_135 rfl h1 (by decide) (As := [.int a2]) (c_X2_isThere v1 h1 a2) (by decide) rfl hl.1 rfl (Nat.le_of_ble_eq_true rfl) dX10_lost_16 (by decide)) (fun v10 σ9 H locs hp hw => ?_)
    obtain ⟨p10_0, p10_1, p10_2⟩ := hp
    rw [p10_0] at hw
    refine lv_if_eq (tgt := 32) hx hb dX10_lost_19 (by decide) (fun c11 => ?_) (fun c11 => ?_)
    · --
      have i12 : Iv v10 0 0 := iv_eq1 c11 p10_1 (⟨by decide, by decide⟩ : Iv 0 0 0) (by decide)
      refine lv_iconst (v := (-1)) hx hb dX10_lost_32 (by decide) ?_
      rw [← hQ]
      exact o_ri cx rx hw dX10_lost_33 fr
    · --
      have i13 : Iv v10 1 1 := iv_ne1 c11 p10_1 (⟨by decide, by decide⟩ : Iv 0 0 0) (by decide)
      have i14 : Iv a2 0 63 := p10_2 c11
      refine lv_iload_n hx hb dX10_lost_22 rfl (lv_at hl 3 rfl) ?_
      refine lv_if_lt (tgt := 32) hx hb dX10_lost_23 (by decide) (fun c15 => ?_) (fun c15 => ?_)
      · --
        have i16 : Iv a3 (-2147483648) (-1) := iv_lt1 c15 (iv_top a3) (⟨by decide, by decide⟩ : Iv 0 0 0) (by decide)
        refine lv_iconst (v := (-1)) hx hb dX10_lost_32 (by decide) ?_
        rw [← hQ]
        exact o_ri cx rx hw dX10_lost_33 fr
      · --
        have i17 : Iv a3 0 2147483647 := iv_le2 (iv_nlt c15) (⟨by decide, by decide⟩ : Iv 0 0 0) (iv_top a3) (by decide)
        refine lv_iload_n hx hb dX10_lost_26 rfl (lv_at hl 3 rfl) ?_
        refine lv_bipush (v := 40) hx hb dX10_lost_27 (by decide) ?_
        refine lv_icmp_le (tgt := 34) hx hb dX10_lost_29 (by decide) (fun c18 => ?_) (fun c18 => ?_)
        · --
          have i19 : Iv a3 0 40 := iv_le1 c18 i17 (⟨by decide, by decide⟩ : Iv 40 40 40) (by decide)
          refine lv_aload_n hx hb dX10_lost_34 rfl (lv_at hl 0 rfl) ?_
          refine g_578 cx hw ha0 k_f_X10_26 dX10_lost_35 (fun v20 e20 h20 => ?_)
          rw [show v20 = v1 from Option.some.inj (e20.symm.trans (e1))]
          refine lv_aload_n hx hb dX10_lost_38 rfl (lv_at hl 0 rfl) ?_
          refine g_581 cx hw ha0 k_f_X10_49 dX10_lost_39 (fun v21 e21 h21 => ?_)
          refine g_330 cx hw h21 k_f_X10_154 dX10_lost_42 (fun v22 e22 => ?_)
          refine o_cl hw (oRunV cx hA hw q_X2_openTo k_m_X10_195 rfl h1 (by decide) (As := [.int v22]) (c_X2_openTo v1 h1 v22) (by decide) rfl hl.1 rfl (Nat.le_of_ble_eq_true rfl) dX10_lost_45 (by decide)) (fun v24 σ23 H locs hp hw => ?_)
          have p24_0 := hp
          rw [p24_0] at hw
          refine lv_lstore (lv' := [(4, .long v24), (0, .ref a0), (1, .int a1), (2, .int a2), (3, .int a3)]) hx hb dX10_lost_48 hl (by decide) rfl (fun ls hl => ?_)
          refine lv_lload hx hb dX10_lost_50 (lv_at hl 0 rfl) ?_
          refine lv_iload_n hx hb dX10_lost_52 rfl (lv_at hl 2 rfl) ?_
          refine o_ci hw (oRunS cx hA hw q_X0_has k_m_X10_321 (As := [.long v24, .int a1]) (c_X0_has v24 a1) (by decide) rfl hl.1 rfl (Nat.le_of_ble_eq_true rfl) dX10_lost_53 (by decide)) (fun v26 σ25 H locs hp hw => ?_)
          obtain ⟨p26_0, p26_1, p26_2⟩ := hp
          rw [p26_0] at hw
          refine lv_if_ne (tgt := 61) hx hb dX10_lost_56 (by decide) (fun c27 => ?_) (fun c27 => ?_)
          · --
            have i28 : Iv v26 1 1 := iv_ne1 c27 p26_1 (⟨by decide, by decide⟩ : Iv 0 0 0) (by decide)
            have i29 : Iv a1 0 63 := p26_2 c27
            refine lv_aload_n hx hb dX10_lost_61 rfl (lv_at hl 1 rfl) ?_
            refine g_584 cx hw ha0 k_f_X10_68 dX10_lost_62 (fun v30 e30 h30 => ?_)
            refine lv_lload hx hb dX10_lost_65 (lv_at hl 0 rfl) ?_
            refine lv_iload_n hx hb dX10_lost_67 rfl (lv_at hl 2 rfl) ?_
            refine lv_iload_n hx hb dX10_lost_68 rfl (lv_at hl 4 rfl) ?_
            refine o_cv hw (oRunV cx hA hw q_X8_stray k_m_X10_441 rfl h30 (by decide) (As := [.long v24, .int a1, .int a3]) (c_X8_stray v30 h30 v24 a1 a3) (by decide) rfl hl.1 rfl (Nat.le_of_ble_eq_true rfl) dX10_lost_69 (by decide)) (fun σ31 H locs hp hw => ?_)
            have p32_0 := hp
            have fr := oFr_tr fr p32_0 (by decide)
            refine lv_aload_n hx hb dX10_lost_72 rfl (lv_at hl 1 rfl) ?_
            refine g_577 cx hw ha0 k_f_X10_19 dX10_lost_73 (fun v33 e33 h33 => ?_)
            refine o_cv hw (oRunV cx hA hw q_X4_start k_m_X10_292 rfl h33 (by decide) (As := []) (c_X4_start v33 h33) (by decide) rfl hl.1 rfl (Nat.le_of_ble_eq_true rfl) dX10_lost_76 (by decide)) (fun σ34 H locs hp hw => ?_)
            have p35_0 := hp
            have fr := oFr_tr fr p35_0 (by decide)
            refine lv_aload_n hx hb dX10_lost_79 rfl (lv_at hl 1 rfl) ?_
            refine g_577 cx hw ha0 k_f_X10_19 dX10_lost_80 (fun v36 e36 h36 => ?_)
            rw [show v36 = v33 from Option.some.inj (e36.symm.trans (((kr_c p35_0 (by decide)).trans e33)))]
            refine lv_aload_n hx hb dX10_lost_83 rfl (lv_at hl 1 rfl) ?_
            refine g_584 cx hw ha0 k_f_X10_68 dX10_lost_84 (fun v37 e37 h37 => ?_)
            rw [show v37 = v30 from Option.some.inj (e37.symm.trans (((kr_c p35_0 (by decide)).trans ((kr_c p32_0 (by decide)).trans e30))))]
            refine o_ci hw (oRunV cx hA hw q_X8_likeliest k_m_X10_444 rfl h30 (by decide) (As := []) (c_X8_likeliest v30 h30) (by decide) rfl hl.1 rfl (Nat.le_of_ble_eq_true rfl) dX10_lost_87 (by decide)) (fun v39 σ38 H locs hp hw => ?_)
            obtain ⟨p39_0, p39_1⟩ := hp
            rw [p39_0] at hw
            refine lv_i2l hx hb dX10_lost_90 rfl ?_
            refine lv_topl (fun v40 e40 => ?_)
            refine o_cv hw (oRunV cx hA hw q_X4_put k_m_X10_295 rfl h33 (by decide) (As := [.long v40]) (c_X4_put v33 h33 v40) (by decide) rfl hl.1 rfl (Nat.le_of_ble_eq_true rfl) dX10_lost_91 (by decide)) (fun σ41 H locs hp hw => ?_)
            have p42_0 := hp
            have fr := oFr_tr fr p42_0 (by decide)
            refine lv_aload_n hx hb dX10_lost_94 rfl (lv_at hl 1 rfl) ?_
            refine g_584 cx hw ha0 k_f_X10_68 dX10_lost_95 (fun v43 e43 h43 => ?_)
            rw [show v43 = v30 from Option.some.inj (e43.symm.trans (((kr_c p42_0 (by decide)).trans ((kr_c p35_0 (by decide)).trans ((kr_c p32_0 (by decide)).trans e30)))))]
            refine g_449 cx hw h30 k_f_X10_431 dX10_lost_98 (fun v44 e44 h44 => ?_)
            refine lv_iload_n hx hb dX10_lost_101 rfl (lv_at hl 3 rfl) ?_
            refine o_lald cx hw h44 (by decide) rfl (iv_in i14 (by decide)) dX10_lost_102 (fun v45 e45 => ?_)
            refine lv_l2i hx hb dX10_lost_103 rfl ?_
            refine lv_topi (fun v46 e46 => ?_)
            rw [← hQ]
            exact o_ri cx rx hw dX10_lost_104 fr
          · --
            have i47 : Iv v26 0 0 := iv_eq1 c27 p26_1 (⟨by decide, by decide⟩ : Iv 0 0 0) (by decide)
            refine lv_iconst (v := (-1)) hx hb dX10_lost_59 (by decide) ?_
            rw [← hQ]
            exact o_ri cx rx hw dX10_lost_60 fr
        · --
          have i48 : Iv a3 41 2147483647 := iv_lt2 (iv_nle c18) (⟨by decide, by decide⟩ : Iv 40 40 40) i17 (by decide)
          refine lv_iconst (v := (-1)) hx hb dX10_lost_32 (by decide) ?_
          rw [← hQ]
          exact o_ri cx rx hw dX10_lost_33 fr
abbrev fs_X10_letter : List Nat := [193, 327, 328, 329, 330, 331, 517]
abbrev ts_X10_letter : List Nat := [32, 33, 34, 36, 37, 38]
set_option maxHeartbeats 4000000 in
set_option maxRecDepth 100000 in
theorem c_X10_letter (a0 : Nat) (ha0 : oA L τ a0 9) (a1 : Int32) : oMet l A L τ cy D K yX10_letter cX10_letter 5 (some .int) 4 106 [.ref a0, .int a1] σ (va_Qi (fun r σ1 => oFr τ fs_X10_letter ts_X10_letter σ σ1 ∧ Iv r (-2) 100) (oPo A L τ cy D) A) := by
  refine oMk (by decide) (Nat.le_of_ble_eq_true rfl) rfl ?_
  intro p e s m args below meth c ls cx rx hA hw hl
  generalize hQ : MQ below _ args s 0 0 A = Q
  have hx := cx.1.1
  have hb := cx.1.2.1
  have hml := cx.1.2.2.1
  have hown := cx.1.2.2.2.1
  have hts := cx.1.2.2.2.2
  have hl : lv_has ls 5 [(0, .ref a0), (1, .int a1)] := hl
  have fr : oFr τ fs_X10_letter ts_X10_letter σ σ := oFr_rf
  refine lv_aload_n hx hb dX10_letter_0 rfl (lv_at hl 0 rfl) ?_
  refine g_578 cx hw ha0 k_f_X10_26 dX10_letter_1 (fun v1 e1 h1 => ?_)
  refine lv_iload_n hx hb dX10_letter_4 rfl (lv_at hl 1 rfl) ?_
  refine o_ci hw (oRunV cx hA hw q_X2_isThere k_m_X10_135 rfl h1 (by decide) (As := [.int a1]) (c_X2_isThere v1 h1 a1) (by decide) rfl hl.1 rfl (Nat.le_of_ble_eq_true rfl) dX10_letter_5 (by decide)) (fun v3 σ2 H locs hp hw => ?_)
  obtain ⟨p3_0, p3_1, p3_2⟩ := hp
  rw [p3_0] at hw
  refine lv_if_ne (tgt := 13) hx hb dX10_letter_8 (by decide) (fun c4 => ?_) (fun c4 => ?_)
  · --
    have i5 : Iv v3 1 1 := iv_ne1 c4 p3_1 (⟨by decide, by decide⟩ : Iv 0 0 0) (by decide)
    have i6 : Iv a1 0 63 := p3_2 c4
    refine lv_aload_n hx hb dX10_letter_13 rfl (lv_at hl 0 rfl) ?_
    refine g_583 cx hw ha0 k_f_X10_61 dX10_letter_14 (fun v7 e7 h7 => ?_)
    refine o_cr hw (oRunV cx hA hw q_X1_begin k_m_X10_377 rfl h7 (by decide) (As := []) (c_X1_begin v7 h7) (by decide) rfl hl.1 rfl (Nat.le_of_ble_eq_true rfl) dX10_letter_17 (by decide)) (fun v9 σ8 H locs hp hw => ?_)
    obtain ⟨p9_0, p9_1⟩ := hp
    have fr := oFr_tr fr p9_0 (by decide)
    refine lv_astore_n (lv' := [(2, .ref v9), (0, .ref a0), (1, .int a1)]) hx hb dX10_letter_20 rfl hl (by decide) rfl (fun ls hl => ?_)
    refine lv_aload_n hx hb dX10_letter_21 rfl (lv_at hl 0 rfl) ?_
    refine lv_iload_n hx hb dX10_letter_22 rfl (lv_at hl 2 rfl) ?_
    refine o_ci hw (oRunV cx hA hw q_X6_firstHerdAt k_m_X10_383 rfl p9_1 (by decide) (As := [.int a1]) (c_X6_firstHerdAt v9 p9_1 a1) (by decide) rfl hl.1 rfl (Nat.le_of_ble_eq_true rfl) dX10_letter_23 (by decide)) (fun v11 σ10 H locs hp hw => ?_)
    obtain ⟨p11_0, p11_1⟩ := hp
    rw [p11_0] at hw
    refine lv_istore_n (lv' := [(3, .int v11), (2, .ref v9), (0, .ref a0), (1, .int a1)]) hx hb dX10_letter_26 rfl hl (by decide) rfl (fun ls hl => ?_)
    refine lv_iconst (v := 1) hx hb dX10_letter_27 (by decide) ?_
    refine lv_istore (lv' := [(4, .int 1), (3, .int v11), (2, .ref v9), (0, .ref a0), (1, .int a1)]) hx hb dX10_letter_28 hl (by decide) rfl (fun ls hl => ?_)
    have frE_30 := fr
    have J_30 : ∀ n30 : Nat, ∀ (j30_3 : Int32) (ij30_3 : Iv j30_3 (-1) 5) (j30_4 : Int32) (ij30_4 : Iv j30_4 1 101), ∀ (σ_30 : oSt) (H : Heap) (locs : List Loc), oI A L τ cy D s.heap σ_30 H locs → oFr τ fs_X10_letter ts_X10_letter σ σ_30 → (101 - j30_4.toInt).toNat < n30 → ∀ (ls : Array Slot), lv_has ls 5 [(0, .ref a0), (1, .int a1), (2, .ref v9), (3, .int j30_3), (4, .int j30_4)] → W p l e ({ frames := 4, cells := 0, slots := 0, locals := 106 } : Room) s m args below meth c H locs 0 0 Q (F0 m 30 ls []) := by
      intro n30
      induction n30 with
      | zero => intro j30_3 ij30_3 j30_4 ij30_4 σ_30 H locs hw fr   hn_30   ls hl; exact absurd hn_30 (Nat.not_lt_zero _)
      | succ n30 ih_30 =>
        intro j30_3 ij30_3 j30_4 ij30_4 σ_30 H locs hw fr   hn_30   ls hl
        have fr_30 := fr
        refine lv_iload hx hb dX10_letter_30 (lv_at hl 4 rfl) ?_
        refine lv_bipush (v := 100) hx hb dX10_letter_32 (by decide) ?_
        refine lv_icmp_gt (tgt := 110) hx hb dX10_letter_34 (by decide) (fun c12 => ?_) (fun c12 => ?_)
        · --
          have i13 : Iv j30_4 101 101 := iv_lt2 c12 (⟨by decide, by decide⟩ : Iv 100 100 100) ij30_4 (by decide)
          refine lv_bipush (v := (-2)) hx hb dX10_letter_110 (by decide) ?_
          rw [← hQ]
          exact o_ri cx rx hw dX10_letter_112 ⟨fr, (iv_w (⟨by decide, by decide⟩ : Iv (-2) (-2) (-2)) (by decide))⟩
        · --
          have i14 : Iv j30_4 1 100 := iv_le1 (iv_nlt c12) ij30_4 (⟨by decide, by decide⟩ : Iv 100 100 100) (by decide)
          refine lv_aload_n hx hb dX10_letter_37 rfl (lv_at hl 0 rfl) ?_
          refine g_580 cx hw ha0 k_f_X10_42 dX10_letter_38 (fun v15 e15 h15 => ?_)
          refine lv_aload_n hx hb dX10_letter_41 rfl (lv_at hl 2 rfl) ?_
          refine o_ci hw (oRunV cx hA hw q_X9_pass k_m_X10_269 rfl h15 (by decide) (As := [.ref v9]) (c_X9_pass v15 h15 v9 p9_1) (by decide) rfl hl.1 rfl (Nat.le_of_ble_eq_true rfl) dX10_letter_42 (by decide)) (fun v17 σ16 H locs hp hw => ?_)
          have p17_0 := hp
          have fr := oFr_tr fr p17_0 (by decide)
          refine lv_pop hx hb dX10_letter_45 rfl ?_
          refine lv_iload_n hx hb dX10_letter_46 rfl (lv_at hl 3 rfl) ?_
          refine lv_iconst (v := (-1)) hx hb dX10_letter_47 (by decide) ?_
          have J_104 : ∀ (j104_3 : Int32) (ij104_3 : Iv j104_3 (-1) 5), ∀ (H : Heap) (locs : List Loc), oI A L τ cy D s.heap σ16 H locs → ∀ (ls : Array Slot), lv_has ls 5 [(0, .ref a0), (1, .int a1), (2, .ref v9), (3, .int j104_3), (4, .int j30_4)] → W p l e ({ frames := 4, cells := 0, slots := 0, locals := 106 } : Room) s m args below meth c H locs 0 0 Q (F0 m 104 ls []) := by
            intro j104_3 ij104_3 H locs hw     ls hl
            obtain ⟨v18, e18⟩ : ∃ y : Int32, y = j30_4 + 1 := ⟨_, rfl⟩
            have i18 : Iv v18 2 101 := iv_add e18 i14 (⟨by decide, by decide⟩ : Iv 1 1 1) (by decide)
            have x18 : v18.toInt = j30_4.toInt + 1 := ex_add e18 i14 (⟨by decide, by decide⟩ : Iv 1 1 1) (by decide)
            refine lv_iinc (v := v18) (lv' := [(4, .int v18), (0, .ref a0), (1, .int a1), (2, .ref v9), (3, .int j104_3)]) hx hb dX10_letter_104 hl (k := 4) rfl (by rw [e18]; rfl) (by decide) rfl (fun ls hl => ?_)
            refine lv_goto (tgt := 30) hx hb dX10_letter_107 (by decide) ?_
            exact ih_30 j104_3 ij104_3 v18 (iv_w i18 (by decide)) σ16 _ _ hw fr (ms_up x18 (by decide) (iv_w (a' := 1) (b' := 101) i18 (by decide)).2 hn_30) _ (lv_sub hl [1, 2, 3, 4, 0] rfl)
          refine lv_icmp_ne (tgt := 60) hx hb dX10_letter_48 (by decide) (fun c19 => ?_) (fun c19 => ?_)
          · --
            have i20 : Iv j30_3 0 5 := iv_ne1 c19 ij30_3 (⟨by decide, by decide⟩ : Iv (-1) (-1) (-1)) (by decide)
            refine lv_aload_n hx hb dX10_letter_60 rfl (lv_at hl 2 rfl) ?_
            refine g_329 cx hw p9_1 k_f_X10_192 dX10_letter_61 (fun v21 e21 => ?_)
            refine lv_iload_n hx hb dX10_letter_64 rfl (lv_at hl 3 rfl) ?_
            refine lv_ishr hx hb dX10_letter_65 ?_
            refine lv_topi (fun v22 e22 => ?_)
            refine lv_iconst (v := 1) hx hb dX10_letter_66 (by decide) ?_
            refine lv_iand hx hb dX10_letter_67 ?_
            refine lv_topi (fun v23 e23 => ?_)
            have i23 : Iv v23 0 1 := iv_and e23 (⟨by decide, by decide⟩ : Iv 1 1 1) (by decide)
            refine lv_if_eq (tgt := 104) hx hb dX10_letter_68 (by decide) (fun c24 => ?_) (fun c24 => ?_)
            · --
              have i25 : Iv v23 0 0 := iv_eq1 c24 i23 (⟨by decide, by decide⟩ : Iv 0 0 0) (by decide)
              exact J_104 j30_3 (iv_w i20 (by decide)) _ _ hw _ (lv_sub hl [0, 1, 2, 3, 4] rfl)
            · --
              have i26 : Iv v23 1 1 := iv_ne1 c24 i23 (⟨by decide, by decide⟩ : Iv 0 0 0) (by decide)
              refine lv_aload_n hx hb dX10_letter_71 rfl (lv_at hl 0 rfl) ?_
              refine g_577 cx hw ha0 k_f_X10_19 dX10_letter_72 (fun v27 e27 h27 => ?_)
              refine o_cv hw (oRunV cx hA hw q_X4_start k_m_X10_292 rfl h27 (by decide) (As := []) (c_X4_start v27 h27) (by decide) rfl hl.1 rfl (Nat.le_of_ble_eq_true rfl) dX10_letter_75 (by decide)) (fun σ28 H locs hp hw => ?_)
              have p29_0 := hp
              have fr := oFr_tr fr p29_0 (by decide)
              refine lv_aload_n hx hb dX10_letter_78 rfl (lv_at hl 0 rfl) ?_
              refine g_577 cx hw ha0 k_f_X10_19 dX10_letter_79 (fun v30 e30 h30 => ?_)
              rw [show v30 = v27 from Option.some.inj (e30.symm.trans (((kr_c p29_0 (by decide)).trans e27)))]
              refine lv_iload_n hx hb dX10_letter_82 rfl (lv_at hl 3 rfl) ?_
              refine lv_i2l hx hb dX10_letter_83 rfl ?_
              refine lv_topl (fun v31 e31 => ?_)
              refine o_cv hw (oRunV cx hA hw q_X4_put k_m_X10_295 rfl h27 (by decide) (As := [.long v31]) (c_X4_put v27 h27 v31) (by decide) rfl hl.1 rfl (Nat.le_of_ble_eq_true rfl) dX10_letter_84 (by decide)) (fun σ32 H locs hp hw => ?_)
              have p33_0 := hp
              have fr := oFr_tr fr p33_0 (by decide)
              refine lv_aload_n hx hb dX10_letter_87 rfl (lv_at hl 0 rfl) ?_
              refine g_577 cx hw ha0 k_f_X10_19 dX10_letter_88 (fun v34 e34 h34 => ?_)
              rw [show v34 = v27 from Option.some.inj (e34.symm.trans (((kr_c p33_0 (by decide)).trans ((kr_c p29_0 (by decide)).trans e27))))]
              refine lv_aload_n hx hb dX10_letter_91 rfl (lv_at hl 2 rfl) ?_
              refine g_325 cx hw p9_1 k_f_X10_183 dX10_letter_92 (fun v35 e35 h35 => ?_)
              refine lv_iload_n hx hb dX10_letter_95 rfl (lv_at hl 3 rfl) ?_
              refine o_iald cx hw h35 (by decide) rfl (iv_in i20 (by decide)) dX10_letter_96 (fun v36 e36 b36 => ?_)
              have i36 : Iv v36 0 63 := b36
              refine lv_i2l hx hb dX10_letter_97 rfl ?_
              refine lv_topl (fun v37 e37 => ?_)
              refine o_cv hw (oRunV cx hA hw q_X4_put k_m_X10_295 rfl h27 (by decide) (As := [.long v37]) (c_X4_put v27 h27 v37) (by decide) rfl hl.1 rfl (Nat.le_of_ble_eq_true rfl) dX10_letter_98 (by decide)) (fun σ38 H locs hp hw => ?_)
              have p39_0 := hp
              have fr := oFr_tr fr p39_0 (by decide)
              refine lv_iload hx hb dX10_letter_101 (lv_at hl 4 rfl) ?_
              rw [← hQ]
              exact o_ri cx rx hw dX10_letter_103 ⟨fr, (iv_w i14 (by decide))⟩
          · --
            have i40 : Iv j30_3 (-1) (-1) := iv_eq1 c19 ij30_3 (⟨by decide, by decide⟩ : Iv (-1) (-1) (-1)) (by decide)
            refine lv_aload_n hx hb dX10_letter_51 rfl (lv_at hl 2 rfl) ?_
            refine lv_iload_n hx hb dX10_letter_52 rfl (lv_at hl 1 rfl) ?_
            refine o_ci hw (oRunV cx hA hw q_X6_firstHerdAt k_m_X10_383 rfl p9_1 (by decide) (As := [.int a1]) (c_X6_firstHerdAt v9 p9_1 a1) (by decide) rfl hl.1 rfl (Nat.le_of_ble_eq_true rfl) dX10_letter_53 (by decide)) (fun v42 σ41 H locs hp hw => ?_)
            obtain ⟨p42_0, p42_1⟩ := hp
            rw [p42_0] at hw
            refine lv_istore_n (lv' := [(3, .int v42), (0, .ref a0), (1, .int a1), (2, .ref v9), (4, .int j30_4)]) hx hb dX10_letter_56 rfl hl (by decide) rfl (fun ls hl => ?_)
            refine lv_goto (tgt := 104) hx hb dX10_letter_57 (by decide) ?_
            exact J_104 v42 p42_1 _ _ hw _ (lv_sub hl [1, 2, 3, 0, 4] rfl)
    exact J_30 _ v11 p11_1 1 (iv_w (⟨by decide, by decide⟩ : Iv 1 1 1) (by decide)) σ8 _ _ hw fr (Nat.lt_succ_self _) _ (lv_sub hl [3, 4, 2, 1, 0] rfl)
  · --
    have i43 : Iv v3 0 0 := iv_eq1 c4 p3_1 (⟨by decide, by decide⟩ : Iv 0 0 0) (by decide)
    refine lv_iconst (v := (-1)) hx hb dX10_letter_11 (by decide) ?_
    rw [← hQ]
    exact o_ri cx rx hw dX10_letter_12 ⟨fr, (iv_w (⟨by decide, by decide⟩ : Iv (-1) (-1) (-1)) (by decide))⟩
abbrev fs_X10_snow : List Nat := [588, 589]
abbrev ts_X10_snow : List Nat := []
set_option maxHeartbeats 4000000 in
set_option maxRecDepth 100000 in
theorem c_X10_snow (a0 : Nat) (ha0 : oA L τ a0 9) : oMet l A L τ cy D K yX10_snow cX10_snow 1 (some .int) 3 66 [.ref a0] σ (va_Qi (fun r σ1 => oFr τ fs_X10_snow ts_X10_snow σ σ1 ∧ Iv r 0 127) (oPo A L τ cy D) A) := by
  refine oMk (by decide) (Nat.le_of_ble_eq_true rfl) rfl ?_
  intro p e s m args below meth c ls cx rx hA hw hl
  generalize hQ : MQ below _ args s 0 0 A = Q
  have hx := cx.1.1
  have hb := cx.1.2.1
  have hml := cx.1.2.2.1
  have hown := cx.1.2.2.2.1
  have hts := cx.1.2.2.2.2
  have hl : lv_has ls 1 [(0, .ref a0)] := hl
  have fr : oFr τ fs_X10_snow ts_X10_snow σ σ := oFr_rf
  refine lv_aload_n hx hb dX10_snow_0 rfl (lv_at hl 0 rfl) ?_
  refine lv_iconst (v := 1) hx hb dX10_snow_1 (by decide) ?_
  refine p_588 cx hw ha0 (iv_w (⟨by decide, by decide⟩ : Iv 1 1 1) (by decide)) k_f_X10_117 dX10_snow_2 (fun σ1 H locs eσ1 hw => ?_)
  have fr := oFr_i fr eσ1 (by decide)
  refine lv_aload_n hx hb dX10_snow_5 rfl (lv_at hl 0 rfl) ?_
  refine lv_aload_n hx hb dX10_snow_6 rfl (lv_at hl 0 rfl) ?_
  refine o_cl hw (oRunV cx hA hw q_X10_roadNow k_m_X10_335 rfl ha0 (by decide) (As := []) (c_X10_roadNow a0 ha0) (by decide) rfl hl.1 rfl (Nat.le_of_ble_eq_true rfl) dX10_snow_7 (by decide)) (fun v3 σ2 H locs hp hw => ?_)
  have p3_0 := hp
  rw [p3_0] at hw
  refine p_589 cx hw ha0 k_f_X10_452 dX10_snow_10 (fun σ4 H locs eσ4 hw => ?_)
  have fr := oFr_l fr eσ4 (by decide)
  refine lv_aload_n hx hb dX10_snow_13 rfl (lv_at hl 0 rfl) ?_
  refine g_589 cx hw ha0 k_f_X10_452 dX10_snow_14 (fun v5 e5 => ?_)
  refine o_ci hw (oRunS cx hA hw q_J13_bitCount_95d88 k_m_X10_349 (As := [.long v5]) (c_J13_bitCount_95d88 v5) (by decide) rfl hl.1 rfl (Nat.le_of_ble_eq_true rfl) dX10_snow_17 (by decide)) (fun v7 σ6 H locs hp hw => ?_)
  obtain ⟨p7_0, p7_1⟩ := hp
  rw [p7_0] at hw
  rw [← hQ]
  exact o_ri cx rx hw dX10_snow_20 ⟨fr, (iv_w p7_1 (by decide))⟩
abbrev fs_X10_thaw : List Nat := [193]
abbrev ts_X10_thaw : List Nat := [36]
set_option maxHeartbeats 4000000 in
set_option maxRecDepth 100000 in
theorem c_X10_thaw (a0 : Nat) (ha0 : oA L τ a0 9) : oMet l A L τ cy D K yX10_thaw cX10_thaw 3 (some .int) 3 66 [.ref a0] σ (va_Qi (fun r σ1 => oFr τ fs_X10_thaw ts_X10_thaw σ σ1 ∧ Iv r (-2) 127) (oPo A L τ cy D) A) := by
  refine oMk (by decide) (Nat.le_of_ble_eq_true rfl) rfl ?_
  intro p e s m args below meth c ls cx rx hA hw hl
  generalize hQ : MQ below _ args s 0 0 A = Q
  have hx := cx.1.1
  have hb := cx.1.2.1
  have hml := cx.1.2.2.1
  have hown := cx.1.2.2.2.1
  have hts := cx.1.2.2.2.2
  have hl : lv_has ls 3 [(0, .ref a0)] := hl
  have fr : oFr τ fs_X10_thaw ts_X10_thaw σ σ := oFr_rf
  refine lv_aload_n hx hb dX10_thaw_0 rfl (lv_at hl 0 rfl) ?_
  refine g_588 cx hw ha0 k_f_X10_117 dX10_thaw_1 (fun v1 e1 => ?_)
  refine lv_if_ne (tgt := 10) hx hb dX10_thaw_4 (by decide) (fun c2 => ?_) (fun c2 => ?_)
  · --
    refine lv_aload_n hx hb dX10_thaw_10 rfl (lv_at hl 0 rfl) ?_
    refine o_cl hw (oRunV cx hA hw q_X10_roadNow k_m_X10_335 rfl ha0 (by decide) (As := []) (c_X10_roadNow a0 ha0) (by decide) rfl hl.1 rfl (Nat.le_of_ble_eq_true rfl) dX10_thaw_11 (by decide)) (fun v4 σ3 H locs hp hw => ?_)
    have p4_0 := hp
    rw [p4_0] at hw
    refine lv_lstore_n (lv' := [(1, .long v4), (0, .ref a0)]) hx hb dX10_thaw_14 rfl hl (by decide) rfl (fun ls hl => ?_)
    refine lv_aload_n hx hb dX10_thaw_15 rfl (lv_at hl 1 rfl) ?_
    refine g_577 cx hw ha0 k_f_X10_19 dX10_thaw_16 (fun v5 e5 h5 => ?_)
    refine o_cv hw (oRunV cx hA hw q_X4_start k_m_X10_292 rfl h5 (by decide) (As := []) (c_X4_start v5 h5) (by decide) rfl hl.1 rfl (Nat.le_of_ble_eq_true rfl) dX10_thaw_19 (by decide)) (fun σ6 H locs hp hw => ?_)
    have p7_0 := hp
    have fr := oFr_tr fr p7_0 (by decide)
    refine lv_aload_n hx hb dX10_thaw_22 rfl (lv_at hl 1 rfl) ?_
    refine g_577 cx hw ha0 k_f_X10_19 dX10_thaw_23 (fun v8 e8 h8 => ?_)
    rw [show v8 = v5 from Option.some.inj (e8.symm.trans (((kr_c p7_0 (by decide)).trans e5)))]
    refine lv_aload_n hx hb dX10_thaw_26 rfl (lv_at hl 1 rfl) ?_
    refine g_589 cx hw ha0 k_f_X10_452 dX10_thaw_27 (fun v9 e9 => ?_)
    refine lv_lload_n hx hb dX10_thaw_30 rfl (lv_at hl 0 rfl) ?_
    refine lv_ldc2 (v := (-1)) hx hb hown (hts _ k_k_X10_347) dX10_thaw_31 ?_
    refine lv_lxor hx hb dX10_thaw_34 ?_
    refine lv_topl (fun v10 e10 => ?_)
    refine lv_land hx hb dX10_thaw_35 ?_
    refine lv_topl (fun v11 e11 => ?_)
    refine o_cv hw (oRunV cx hA hw q_X4_put k_m_X10_295 rfl h5 (by decide) (As := [.long v11]) (c_X4_put v5 h5 v11) (by decide) rfl hl.1 rfl (Nat.le_of_ble_eq_true rfl) dX10_thaw_36 (by decide)) (fun σ12 H locs hp hw => ?_)
    have p13_0 := hp
    have fr := oFr_tr fr p13_0 (by decide)
    refine lv_aload_n hx hb dX10_thaw_39 rfl (lv_at hl 1 rfl) ?_
    refine g_577 cx hw ha0 k_f_X10_19 dX10_thaw_40 (fun v14 e14 h14 => ?_)
    rw [show v14 = v5 from Option.some.inj (e14.symm.trans (((kr_c p13_0 (by decide)).trans ((kr_c p7_0 (by decide)).trans e5))))]
    refine lv_lload_n hx hb dX10_thaw_43 rfl (lv_at hl 0 rfl) ?_
    refine lv_aload_n hx hb dX10_thaw_44 rfl (lv_at hl 1 rfl) ?_
    refine g_589 cx hw ha0 k_f_X10_452 dX10_thaw_45 (fun v15 e15 => ?_)
    refine lv_ldc2 (v := (-1)) hx hb hown (hts _ k_k_X10_347) dX10_thaw_48 ?_
    refine lv_lxor hx hb dX10_thaw_51 ?_
    refine lv_topl (fun v16 e16 => ?_)
    refine lv_land hx hb dX10_thaw_52 ?_
    refine lv_topl (fun v17 e17 => ?_)
    refine o_cv hw (oRunV cx hA hw q_X4_put k_m_X10_295 rfl h5 (by decide) (As := [.long v17]) (c_X4_put v5 h5 v17) (by decide) rfl hl.1 rfl (Nat.le_of_ble_eq_true rfl) dX10_thaw_53 (by decide)) (fun σ18 H locs hp hw => ?_)
    have p19_0 := hp
    have fr := oFr_tr fr p19_0 (by decide)
    refine lv_aload_n hx hb dX10_thaw_56 rfl (lv_at hl 1 rfl) ?_
    refine g_589 cx hw ha0 k_f_X10_452 dX10_thaw_57 (fun v20 e20 => ?_)
    refine lv_lload_n hx hb dX10_thaw_60 rfl (lv_at hl 0 rfl) ?_
    refine lv_ldc2 (v := (-1)) hx hb hown (hts _ k_k_X10_347) dX10_thaw_61 ?_
    refine lv_lxor hx hb dX10_thaw_64 ?_
    refine lv_topl (fun v21 e21 => ?_)
    refine lv_land hx hb dX10_thaw_65 ?_
    refine lv_topl (fun v22 e22 => ?_)
    refine o_ci hw (oRunS cx hA hw q_J13_bitCount_95d88 k_m_X10_349 (As := [.long v22]) (c_J13_bitCount_95d88 v22) (by decide) rfl hl.1 rfl (Nat.le_of_ble_eq_true rfl) dX10_thaw_66 (by decide)) (fun v24 σ23 H locs hp hw => ?_)
    obtain ⟨p24_0, p24_1⟩ := hp
    rw [p24_0] at hw
    rw [← hQ]
    exact o_ri cx rx hw dX10_thaw_69 ⟨fr, (iv_w p24_1 (by decide))⟩
  · --
    have i25 : Iv v1 0 0 := iv_eq1 c2 (iv_top v1) (⟨by decide, by decide⟩ : Iv 0 0 0) (by decide)
    refine lv_bipush (v := (-2)) hx hb dX10_thaw_7 (by decide) ?_
    rw [← hQ]
    exact o_ri cx rx hw dX10_thaw_9 ⟨fr, (iv_w (⟨by decide, by decide⟩ : Iv (-2) (-2) (-2)) (by decide))⟩
abbrev fs_X10_season : List Nat := [193, 327, 328, 329, 330, 331, 517]
abbrev ts_X10_season : List Nat := [32, 33, 34, 36, 37, 38]
set_option maxHeartbeats 4000000 in
set_option maxRecDepth 100000 in
theorem c_X10_season (a0 : Nat) (ha0 : oA L τ a0 9) (a1 : Int32) (a2 : Int32) : oMet l A L τ cy D K yX10_season cX10_season 8 (some .int) 5 130 [.ref a0, .int a1, .int a2] σ (va_Qi (fun r σ1 => oFr τ fs_X10_season ts_X10_season σ σ1) (oPo A L τ cy D) A) := by
  refine oMk (by decide) (Nat.le_of_ble_eq_true rfl) rfl ?_
  intro p e s m args below meth c ls cx rx hA hw hl
  generalize hQ : MQ below _ args s 0 0 A = Q
  have hx := cx.1.1
  have hb := cx.1.2.1
  have hml := cx.1.2.2.1
  have hown := cx.1.2.2.2.1
  have hts := cx.1.2.2.2.2
  have hl : lv_has ls 8 [(0, .ref a0), (1, .int a1), (2, .int a2)] := hl
  have fr : oFr τ fs_X10_season ts_X10_season σ σ := oFr_rf
  refine lv_aload_n hx hb dX10_season_0 rfl (lv_at hl 0 rfl) ?_
  refine g_578 cx hw ha0 k_f_X10_26 dX10_season_1 (fun v1 e1 h1 => ?_)
  refine g_64 cx hw h1 k_f_X10_121 dX10_season_4 (fun v2 e2 => ?_)
  refine lv_aload_n hx hb dX10_season_7 rfl (lv_at hl 0 rfl) ?_
  refine g_578 cx hw ha0 k_f_X10_26 dX10_season_8 (fun v3 e3 h3 => ?_)
  rw [show v3 = v1 from Option.some.inj (e3.symm.trans (e1))]
  refine g_65 cx hw h1 k_f_X10_124 dX10_season_11 (fun v4 e4 => ?_)
  refine lv_imul hx hb dX10_season_14 ?_
  refine lv_topi (fun v5 e5 => ?_)
  refine lv_istore_n (lv' := [(3, .int v5), (0, .ref a0), (1, .int a1), (2, .int a2)]) hx hb dX10_season_15 rfl hl (by decide) rfl (fun ls hl => ?_)
  refine lv_iload_n hx hb dX10_season_16 rfl (lv_at hl 3 rfl) ?_
  refine lv_iconst (v := 1) hx hb dX10_season_17 (by decide) ?_
  refine lv_icmp_lt (tgt := 32) hx hb dX10_season_18 (by decide) (fun c6 => ?_) (fun c6 => ?_)
  · --
    have i7 : Iv a2 (-2147483648) 0 := iv_lt1 c6 (iv_top a2) (⟨by decide, by decide⟩ : Iv 1 1 1) (by decide)
    refine lv_iconst (v := (-1)) hx hb dX10_season_32 (by decide) ?_
    rw [← hQ]
    exact o_ri cx rx hw dX10_season_33 fr
  · --
    have i8 : Iv a2 1 2147483647 := iv_le2 (iv_nlt c6) (⟨by decide, by decide⟩ : Iv 1 1 1) (iv_top a2) (by decide)
    refine lv_iload_n hx hb dX10_season_21 rfl (lv_at hl 3 rfl) ?_
    refine lv_bipush (v := 60) hx hb dX10_season_22 (by decide) ?_
    refine lv_icmp_gt (tgt := 32) hx hb dX10_season_24 (by decide) (fun c9 => ?_) (fun c9 => ?_)
    · --
      have i10 : Iv a2 61 2147483647 := iv_lt2 c9 (⟨by decide, by decide⟩ : Iv 60 60 60) i8 (by decide)
      refine lv_iconst (v := (-1)) hx hb dX10_season_32 (by decide) ?_
      rw [← hQ]
      exact o_ri cx rx hw dX10_season_33 fr
    · --
      have i11 : Iv a2 1 60 := iv_le1 (iv_nlt c9) i8 (⟨by decide, by decide⟩ : Iv 60 60 60) (by decide)
      refine lv_iload_n hx hb dX10_season_27 rfl (lv_at hl 0 rfl) ?_
      refine lv_iconst (v := 1) hx hb dX10_season_28 (by decide) ?_
      refine lv_icmp_ge (tgt := 34) hx hb dX10_season_29 (by decide) (fun c12 => ?_) (fun c12 => ?_)
      · --
        have i13 : Iv v5 1 2147483647 := iv_le2 c12 (⟨by decide, by decide⟩ : Iv 1 1 1) (iv_top v5) (by decide)
        refine lv_aload_n hx hb dX10_season_34 rfl (lv_at hl 1 rfl) ?_
        refine g_583 cx hw ha0 k_f_X10_61 dX10_season_35 (fun v14 e14 h14 => ?_)
        refine o_cr hw (oRunV cx hA hw q_X1_begin k_m_X10_377 rfl h14 (by decide) (As := []) (c_X1_begin v14 h14) (by decide) rfl hl.1 rfl (Nat.le_of_ble_eq_true rfl) dX10_season_38 (by decide)) (fun v16 σ15 H locs hp hw => ?_)
        obtain ⟨p16_0, p16_1⟩ := hp
        have fr := oFr_tr fr p16_0 (by decide)
        refine lv_astore (lv' := [(4, .ref v16), (3, .int v5), (0, .ref a0), (1, .int a1), (2, .int a2)]) hx hb dX10_season_41 hl (by decide) rfl (fun ls hl => ?_)
        refine lv_iload_n hx hb dX10_season_43 rfl (lv_at hl 3 rfl) ?_
        refine lv_istore (lv' := [(5, .int a1), (4, .ref v16), (3, .int v5), (0, .ref a0), (1, .int a1), (2, .int a2)]) hx hb dX10_season_44 hl (by decide) rfl (fun ls hl => ?_)
        refine lv_iconst (v := 0) hx hb dX10_season_46 (by decide) ?_
        refine lv_istore (lv' := [(6, .int 0), (5, .int a1), (4, .ref v16), (3, .int v5), (0, .ref a0), (1, .int a1), (2, .int a2)]) hx hb dX10_season_47 hl (by decide) rfl (fun ls hl => ?_)
        refine lv_iconst (v := 0) hx hb dX10_season_49 (by decide) ?_
        refine lv_istore (lv' := [(7, .int 0), (6, .int 0), (5, .int a1), (4, .ref v16), (3, .int v5), (0, .ref a0), (1, .int a1), (2, .int a2)]) hx hb dX10_season_50 hl (by decide) rfl (fun ls hl => ?_)
        have frE_52 := fr
        have J_52 : ∀ n52 : Nat, ∀ (j52_5 : Int32) (j52_6 : Int32) (j52_7 : Int32) (ij52_7 : Iv j52_7 0 60), ∀ (σ_52 : oSt) (H : Heap) (locs : List Loc), oI A L τ cy D s.heap σ_52 H locs → oFr τ fs_X10_season ts_X10_season σ σ_52 → (60 - j52_7.toInt).toNat < n52 → ∀ (ls : Array Slot), lv_has ls 8 [(0, .ref a0), (1, .int a1), (2, .int a2), (3, .int v5), (4, .ref v16), (5, .int j52_5), (6, .int j52_6), (7, .int j52_7)] → W p l e ({ frames := 5, cells := 0, slots := 0, locals := 130 } : Room) s m args below meth c H locs 0 0 Q (F0 m 52 ls []) := by
          intro n52
          induction n52 with
          | zero => intro j52_5 j52_6 j52_7 ij52_7 σ_52 H locs hw fr   hn_52   ls hl; exact absurd hn_52 (Nat.not_lt_zero _)
          | succ n52 ih_52 =>
            intro j52_5 j52_6 j52_7 ij52_7 σ_52 H locs hw fr   hn_52   ls hl
            have fr_52 := fr
            refine lv_iload hx hb dX10_season_52 (lv_at hl 7 rfl) ?_
            refine lv_iload_n hx hb dX10_season_54 rfl (lv_at hl 2 rfl) ?_
            refine lv_icmp_ge (tgt := 101) hx hb dX10_season_55 (by decide) (fun c17 => ?_) (fun c17 => ?_)
            · --
              have i18 : Iv j52_7 1 60 := iv_le2 c17 i11 ij52_7 (by decide)
              refine lv_aload_n hx hb dX10_season_101 rfl (lv_at hl 0 rfl) ?_
              refine lv_aload hx hb dX10_season_102 (lv_at hl 4 rfl) ?_
              refine o_cv hw (oRunV cx hA hw q_X10_tellPlaces k_m_X10_273 rfl ha0 (by decide) (As := [.ref v16]) (c_X10_tellPlaces a0 ha0 v16 p16_1) (by decide) rfl hl.1 rfl (Nat.le_of_ble_eq_true rfl) dX10_season_104 (by decide)) (fun σ19 H locs hp hw => ?_)
              have p20_0 := hp
              have fr := oFr_tr fr p20_0 (by decide)
              refine lv_iload hx hb dX10_season_107 (lv_at hl 6 rfl) ?_
              rw [← hQ]
              exact o_ri cx rx hw dX10_season_109 fr
            · --
              have i21 : Iv j52_7 0 59 := iv_lt1 (iv_nle c17) ij52_7 i11 (by decide)
              refine lv_iload hx hb dX10_season_58 (lv_at hl 5 rfl) ?_
              refine lv_ldcw (v := 1103515245) hx hb hown (hts _ k_k_X10_456) dX10_season_60 ?_
              refine lv_imul hx hb dX10_season_63 ?_
              refine lv_topi (fun v22 e22 => ?_)
              refine lv_sipush (v := 12345) hx hb dX10_season_64 (by decide) ?_
              refine lv_iadd hx hb dX10_season_67 ?_
              refine lv_topi (fun v23 e23 => ?_)
              refine lv_istore (lv' := [(5, .int v23), (0, .ref a0), (1, .int a1), (2, .int a2), (3, .int v5), (4, .ref v16), (6, .int j52_6), (7, .int j52_7)]) hx hb dX10_season_68 hl (by decide) rfl (fun ls hl => ?_)
              refine lv_iload hx hb dX10_season_70 (lv_at hl 6 rfl) ?_
              refine lv_aload_n hx hb dX10_season_72 rfl (lv_at hl 1 rfl) ?_
              refine lv_aload hx hb dX10_season_73 (lv_at hl 5 rfl) ?_
              refine lv_aload_n hx hb dX10_season_75 rfl (lv_at hl 1 rfl) ?_
              refine g_578 cx hw ha0 k_f_X10_26 dX10_season_76 (fun v24 e24 h24 => ?_)
              rw [show v24 = v1 from Option.some.inj (e24.symm.trans (((kr_c fr_52 (by decide)).trans ((kr_c frE_52 (by decide)).symm.trans (((kr_c p16_0 (by decide)).trans e1))))))]
              refine lv_iload hx hb dX10_season_79 (lv_at hl 0 rfl) ?_
              refine lv_bipush (v := 16) hx hb dX10_season_81 (by decide) ?_
              refine lv_iushr hx hb dX10_season_83 rfl ?_
              refine lv_topi (fun v25 e25 => ?_)
              have i25 : Iv v25 0 65535 := iv_ushr16 e25
              refine lv_iload_n hx hb dX10_season_84 rfl (lv_at hl 4 rfl) ?_
              refine lv_irem hx hb dX10_season_85 (iv_nz i13 (by decide)) ?_
              refine lv_topi (fun v26 e26 => ?_)
              have i26 : Iv v26 0 2147483646 := iv_rem e26 i25 i13 (by decide)
              refine o_ci hw (oRunV cx hA hw q_X2_cellToldAs k_m_X10_457 rfl h1 (by decide) (As := [.int v26]) (c_X2_cellToldAs v1 h1 v26) (by decide) rfl hl.1 rfl (Nat.le_of_ble_eq_true rfl) dX10_season_86 (by decide)) (fun v28 σ27 H locs hp hw => ?_)
              have p28_0 := hp
              rw [p28_0] at hw
              refine o_ci hw (oRunV cx hA hw q_X10_passWithFlies k_m_X10_460 rfl ha0 (by decide) (As := [.ref v16, .int v28]) (c_X10_passWithFlies a0 ha0 v16 p16_1 v28) (by decide) rfl hl.1 rfl (Nat.le_of_ble_eq_true rfl) dX10_season_89 (by decide)) (fun v30 σ29 H locs hp hw => ?_)
              have p30_0 := hp
              have fr := oFr_tr fr p30_0 (by decide)
              refine lv_iadd hx hb dX10_season_92 ?_
              refine lv_topi (fun v31 e31 => ?_)
              refine lv_istore (lv' := [(6, .int v31), (5, .int v23), (0, .ref a0), (1, .int a1), (2, .int a2), (3, .int v5), (4, .ref v16), (7, .int j52_7)]) hx hb dX10_season_93 hl (by decide) rfl (fun ls hl => ?_)
              obtain ⟨v32, e32⟩ : ∃ y : Int32, y = j52_7 + 1 := ⟨_, rfl⟩
              have i32 : Iv v32 1 60 := iv_add e32 i21 (⟨by decide, by decide⟩ : Iv 1 1 1) (by decide)
              have x32 : v32.toInt = j52_7.toInt + 1 := ex_add e32 i21 (⟨by decide, by decide⟩ : Iv 1 1 1) (by decide)
              refine lv_iinc (v := v32) (lv' := [(7, .int v32), (6, .int v31), (5, .int v23), (0, .ref a0), (1, .int a1), (2, .int a2), (3, .int v5), (4, .ref v16)]) hx hb dX10_season_95 hl (k := 7) rfl (by rw [e32]; rfl) (by decide) rfl (fun ls hl => ?_)
              refine lv_goto (tgt := 52) hx hb dX10_season_98 (by decide) ?_
              exact ih_52 v23 v31 v32 (iv_w i32 (by decide)) σ29 _ _ hw fr (ms_up x32 (by decide) (iv_w (a' := 0) (b' := 60) i32 (by decide)).2 hn_52) _ (lv_sub hl [3, 4, 5, 6, 7, 2, 1, 0] rfl)
        exact J_52 _ a1 0 0 (iv_w (⟨by decide, by decide⟩ : Iv 0 0 0) (by decide)) σ15 _ _ hw fr (Nat.lt_succ_self _) _ (lv_sub hl [5, 6, 7, 4, 3, 2, 1, 0] rfl)
      · --
        have i33 : Iv v5 (-2147483648) 0 := iv_lt1 (iv_nle c12) (iv_top v5) (⟨by decide, by decide⟩ : Iv 1 1 1) (by decide)
        refine lv_iconst (v := (-1)) hx hb dX10_season_32 (by decide) ?_
        rw [← hQ]
        exact o_ri cx rx hw dX10_season_33 fr
abbrev fs_X10_keep : List Nat := [327, 328, 329, 330, 331, 587]
abbrev ts_X10_keep : List Nat := [32, 33, 34]
set_option maxHeartbeats 4000000 in
set_option maxRecDepth 100000 in
theorem c_X10_keep (a0 : Nat) (ha0 : oA L τ a0 9) (a1 : Int32) : oMet l A L τ cy D K yX10_keep cX10_keep 2 (some .boolean) 2 81 [.ref a0, .int a1] σ (va_Qi (fun r σ1 => oFr τ fs_X10_keep ts_X10_keep σ σ1 ∧ Iv r 0 1 ∧ ((0 ≤ a1.toInt ∧ a1.toInt ≤ 1 ∧ r.toInt = 1) ∨ ((a1.toInt < 0 ∨ 1 < a1.toInt) ∧ r.toInt = 0))) (oPo A L τ cy D) A) := by
  refine oMk (by decide) (Nat.le_of_ble_eq_true rfl) rfl ?_
  intro p e s m args below meth c ls cx rx hA hw hl
  generalize hQ : MQ below _ args s 0 0 A = Q
  have hx := cx.1.1
  have hb := cx.1.2.1
  have hml := cx.1.2.2.1
  have hown := cx.1.2.2.2.1
  have hts := cx.1.2.2.2.2
  have hl : lv_has ls 2 [(0, .ref a0), (1, .int a1)] := hl
  have fr : oFr τ fs_X10_keep ts_X10_keep σ σ := oFr_rf
  refine lv_iload_n hx hb dX10_keep_0 rfl (lv_at hl 1 rfl) ?_
  refine lv_if_lt (tgt := 9) hx hb dX10_keep_1 (by decide) (fun c1 => ?_) (fun c1 => ?_)
  · --
    have i2 : Iv a1 (-2147483648) (-1) := iv_lt1 c1 (iv_top a1) (⟨by decide, by decide⟩ : Iv 0 0 0) (by decide)
    refine lv_iconst (v := 0) hx hb dX10_keep_9 (by decide) ?_
    rw [← hQ]
    exact o_rz cx rx hw (iv_nz01 (iv_w (⟨by decide, by decide⟩ : Iv 0 0 0) (by decide))) dX10_keep_10 ⟨fr, (iv_w (⟨by decide, by decide⟩ : Iv 0 0 0) (by decide)), (by exact (by have := (i2).1; have := (i2).2; have : (a1 : Int32).toInt < (0 : Int32).toInt := iv_lt.mp c1; have : (0 : Int32).toInt = 0 := (by decide); omega))⟩
  · --
    have i3 : Iv a1 0 2147483647 := iv_le2 (iv_nlt c1) (⟨by decide, by decide⟩ : Iv 0 0 0) (iv_top a1) (by decide)
    refine lv_iload_n hx hb dX10_keep_4 rfl (lv_at hl 1 rfl) ?_
    refine lv_iconst (v := 2) hx hb dX10_keep_5 (by decide) ?_
    refine lv_icmp_lt (tgt := 11) hx hb dX10_keep_6 (by decide) (fun c4 => ?_) (fun c4 => ?_)
    · --
      have i5 : Iv a1 0 1 := iv_lt1 c4 i3 (⟨by decide, by decide⟩ : Iv 2 2 2) (by decide)
      refine lv_aload_n hx hb dX10_keep_11 rfl (lv_at hl 0 rfl) ?_
      refine g_586 cx hw ha0 k_f_X10_79 dX10_keep_12 (fun v6 e6 h6 => ?_)
      refine lv_iload_n hx hb dX10_keep_15 rfl (lv_at hl 1 rfl) ?_
      refine o_aald cx hw h6 (by decide) rfl (iv_in i5 (by decide)) (by decide) dX10_keep_16 (fun v7 e7 h7 => ?_)
      refine lv_aload_n hx hb dX10_keep_17 rfl (lv_at hl 0 rfl) ?_
      refine g_581 cx hw ha0 k_f_X10_49 dX10_keep_18 (fun v8 e8 h8 => ?_)
      refine o_cv hw (oRunV cx hA hw q_X6_copyFrom k_m_X10_131 rfl h7 (by decide) (As := [.ref v8]) (c_X6_copyFrom v7 h7 v8 h8) (by decide) rfl hl.1 rfl (Nat.le_of_ble_eq_true rfl) dX10_keep_21 (by decide)) (fun σ9 H locs hp hw => ?_)
      have p10_0 := hp
      have fr := oFr_tr fr p10_0 (by decide)
      refine lv_aload_n hx hb dX10_keep_24 rfl (lv_at hl 0 rfl) ?_
      refine lv_dup hx hb dX10_keep_25 rfl ?_
      refine g_587 cx hw ha0 k_f_X10_114 dX10_keep_26 (fun v11 e11 => ?_)
      have z11 : v11.toInt = (σ9.1 587 a0).toInt := congrArg Int32.toInt e11
      refine lv_iconst (v := 1) hx hb dX10_keep_29 (by decide) ?_
      refine lv_iload_n hx hb dX10_keep_30 rfl (lv_at hl 1 rfl) ?_
      refine lv_ishl hx hb dX10_keep_31 ?_
      refine lv_topi (fun v12 e12 => ?_)
      have i12 : Iv v12 1 32 := iv_shl1 e12 i5 (by decide)
      refine lv_ior hx hb dX10_keep_32 ?_
      refine lv_topi (fun v13 e13 => ?_)
      refine p_587 cx hw ha0 k_f_X10_114 dX10_keep_33 (fun σ14 H locs eσ14 hw => ?_)
      have fr := oFr_i fr eσ14 (by decide)
      refine lv_iconst (v := 1) hx hb dX10_keep_36 (by decide) ?_
      rw [← hQ]
      exact o_rz cx rx hw (iv_nz01 (iv_w (⟨by decide, by decide⟩ : Iv 1 1 1) (by decide))) dX10_keep_37 ⟨fr, (iv_w (⟨by decide, by decide⟩ : Iv 1 1 1) (by decide)), (by exact (by have := (i5).1; have := (i5).2; have := (i12).1; have := (i12).2; have : (σ14.1 587 a0).toInt = (v13 : Int32).toInt := congrArg Int32.toInt (show σ14.1 587 a0 = v13 from (kp_s eσ14)); have : (0 : Int32).toInt ≤ (a1 : Int32).toInt := iv_le.mp (iv_nlt c1); have : (a1 : Int32).toInt < (2 : Int32).toInt := iv_lt.mp c4; have : (0 : Int32).toInt = 0 := (by decide); have : (1 : Int32).toInt = 1 := (by decide); have : (2 : Int32).toInt = 2 := (by decide); omega))⟩
    · --
      have i15 : Iv a1 2 2147483647 := iv_le2 (iv_nlt c4) (⟨by decide, by decide⟩ : Iv 2 2 2) i3 (by decide)
      refine lv_iconst (v := 0) hx hb dX10_keep_9 (by decide) ?_
      rw [← hQ]
      exact o_rz cx rx hw (iv_nz01 (iv_w (⟨by decide, by decide⟩ : Iv 0 0 0) (by decide))) dX10_keep_10 ⟨fr, (iv_w (⟨by decide, by decide⟩ : Iv 0 0 0) (by decide)), (by exact (by have := (i15).1; have := (i15).2; have : (0 : Int32).toInt ≤ (a1 : Int32).toInt := iv_le.mp (iv_nlt c1); have : (2 : Int32).toInt ≤ (a1 : Int32).toInt := iv_le.mp (iv_nlt c4); have : (0 : Int32).toInt = 0 := (by decide); have : (2 : Int32).toInt = 2 := (by decide); omega))⟩
abbrev fs_X10_again : List Nat := [130, 327, 328, 329, 330, 331]
abbrev ts_X10_again : List Nat := [32, 33, 34]
set_option maxHeartbeats 4000000 in
set_option maxRecDepth 100000 in
theorem c_X10_again (a0 : Nat) (ha0 : oA L τ a0 9) (a1 : Int32) : oMet l A L τ cy D K yX10_again cX10_again 2 (some .boolean) 2 81 [.ref a0, .int a1] σ (va_Qi (fun r σ1 => oFr τ fs_X10_again ts_X10_again σ σ1 ∧ Iv r 0 1) (oPo A L τ cy D) A) := by
  refine oMk (by decide) (Nat.le_of_ble_eq_true rfl) rfl ?_
  intro p e s m args below meth c ls cx rx hA hw hl
  generalize hQ : MQ below _ args s 0 0 A = Q
  have hx := cx.1.1
  have hb := cx.1.2.1
  have hml := cx.1.2.2.1
  have hown := cx.1.2.2.2.1
  have hts := cx.1.2.2.2.2
  have hl : lv_has ls 2 [(0, .ref a0), (1, .int a1)] := hl
  have fr : oFr τ fs_X10_again ts_X10_again σ σ := oFr_rf
  refine lv_iload_n hx hb dX10_again_0 rfl (lv_at hl 1 rfl) ?_
  refine lv_if_lt (tgt := 20) hx hb dX10_again_1 (by decide) (fun c1 => ?_) (fun c1 => ?_)
  · --
    have i2 : Iv a1 (-2147483648) (-1) := iv_lt1 c1 (iv_top a1) (⟨by decide, by decide⟩ : Iv 0 0 0) (by decide)
    refine lv_iconst (v := 0) hx hb dX10_again_20 (by decide) ?_
    rw [← hQ]
    exact o_rz cx rx hw (iv_nz01 (iv_w (⟨by decide, by decide⟩ : Iv 0 0 0) (by decide))) dX10_again_21 ⟨fr, (iv_w (⟨by decide, by decide⟩ : Iv 0 0 0) (by decide))⟩
  · --
    have i3 : Iv a1 0 2147483647 := iv_le2 (iv_nlt c1) (⟨by decide, by decide⟩ : Iv 0 0 0) (iv_top a1) (by decide)
    refine lv_iload_n hx hb dX10_again_4 rfl (lv_at hl 1 rfl) ?_
    refine lv_iconst (v := 2) hx hb dX10_again_5 (by decide) ?_
    refine lv_icmp_ge (tgt := 20) hx hb dX10_again_6 (by decide) (fun c4 => ?_) (fun c4 => ?_)
    · --
      have i5 : Iv a1 2 2147483647 := iv_le2 c4 (⟨by decide, by decide⟩ : Iv 2 2 2) i3 (by decide)
      refine lv_iconst (v := 0) hx hb dX10_again_20 (by decide) ?_
      rw [← hQ]
      exact o_rz cx rx hw (iv_nz01 (iv_w (⟨by decide, by decide⟩ : Iv 0 0 0) (by decide))) dX10_again_21 ⟨fr, (iv_w (⟨by decide, by decide⟩ : Iv 0 0 0) (by decide))⟩
    · --
      have i6 : Iv a1 0 1 := iv_lt1 (iv_nle c4) i3 (⟨by decide, by decide⟩ : Iv 2 2 2) (by decide)
      refine lv_aload_n hx hb dX10_again_9 rfl (lv_at hl 0 rfl) ?_
      refine g_587 cx hw ha0 k_f_X10_114 dX10_again_10 (fun v7 e7 => ?_)
      refine lv_iload_n hx hb dX10_again_13 rfl (lv_at hl 1 rfl) ?_
      refine lv_ishr hx hb dX10_again_14 ?_
      refine lv_topi (fun v8 e8 => ?_)
      refine lv_iconst (v := 1) hx hb dX10_again_15 (by decide) ?_
      refine lv_iand hx hb dX10_again_16 ?_
      refine lv_topi (fun v9 e9 => ?_)
      have i9 : Iv v9 0 1 := iv_and e9 (⟨by decide, by decide⟩ : Iv 1 1 1) (by decide)
      refine lv_if_ne (tgt := 22) hx hb dX10_again_17 (by decide) (fun c10 => ?_) (fun c10 => ?_)
      · --
        have i11 : Iv v9 1 1 := iv_ne1 c10 i9 (⟨by decide, by decide⟩ : Iv 0 0 0) (by decide)
        refine lv_aload_n hx hb dX10_again_22 rfl (lv_at hl 0 rfl) ?_
        refine g_581 cx hw ha0 k_f_X10_49 dX10_again_23 (fun v12 e12 h12 => ?_)
        refine lv_aload_n hx hb dX10_again_26 rfl (lv_at hl 0 rfl) ?_
        refine g_586 cx hw ha0 k_f_X10_79 dX10_again_27 (fun v13 e13 h13 => ?_)
        refine lv_iload_n hx hb dX10_again_30 rfl (lv_at hl 1 rfl) ?_
        refine o_aald cx hw h13 (by decide) rfl (iv_in i6 (by decide)) (by decide) dX10_again_31 (fun v14 e14 h14 => ?_)
        refine o_cv hw (oRunV cx hA hw q_X6_copyFrom k_m_X10_131 rfl h12 (by decide) (As := [.ref v14]) (c_X6_copyFrom v12 h12 v14 h14) (by decide) rfl hl.1 rfl (Nat.le_of_ble_eq_true rfl) dX10_again_32 (by decide)) (fun σ15 H locs hp hw => ?_)
        have p16_0 := hp
        have fr := oFr_tr fr p16_0 (by decide)
        refine lv_aload_n hx hb dX10_again_35 rfl (lv_at hl 0 rfl) ?_
        refine g_585 cx hw ha0 k_f_X10_75 dX10_again_36 (fun v17 e17 h17 => ?_)
        refine o_cv hw (oRunV cx hA hw q_X3_forget k_m_X10_111 rfl h17 (by decide) (As := []) (c_X3_forget v17 h17) (by decide) rfl hl.1 rfl (Nat.le_of_ble_eq_true rfl) dX10_again_39 (by decide)) (fun σ18 H locs hp hw => ?_)
        have p19_0 := hp
        have fr := oFr_tr fr p19_0 (by decide)
        refine lv_iconst (v := 1) hx hb dX10_again_42 (by decide) ?_
        rw [← hQ]
        exact o_rz cx rx hw (iv_nz01 (iv_w (⟨by decide, by decide⟩ : Iv 1 1 1) (by decide))) dX10_again_43 ⟨fr, (iv_w (⟨by decide, by decide⟩ : Iv 1 1 1) (by decide))⟩
      · --
        have i20 : Iv v9 0 0 := iv_eq1 c10 i9 (⟨by decide, by decide⟩ : Iv 0 0 0) (by decide)
        refine lv_iconst (v := 0) hx hb dX10_again_20 (by decide) ?_
        rw [← hQ]
        exact o_rz cx rx hw (iv_nz01 (iv_w (⟨by decide, by decide⟩ : Iv 0 0 0) (by decide))) dX10_again_21 ⟨fr, (iv_w (⟨by decide, by decide⟩ : Iv 0 0 0) (by decide))⟩
set_option maxHeartbeats 4000000 in
set_option maxRecDepth 100000 in
theorem c_X10_count (a0 : Nat) (ha0 : oA L τ a0 9) (a1 : Int32) : oMet l A L τ cy D K yX10_count cX10_count 2 (some .int) 1 22 [.ref a0, .int a1] σ (va_Qi (fun r σ1 => σ1 = σ) (oPo A L τ cy D) A) := by
  refine oMk (by decide) (Nat.le_of_ble_eq_true rfl) rfl ?_
  intro p e s m args below meth c ls cx rx hA hw hl
  generalize hQ : MQ below _ args s 0 0 A = Q
  have hx := cx.1.1
  have hb := cx.1.2.1
  have hml := cx.1.2.2.1
  have hown := cx.1.2.2.2.1
  have hts := cx.1.2.2.2.2
  have hl : lv_has ls 2 [(0, .ref a0), (1, .int a1)] := hl
  refine lv_iload_n hx hb dX10_count_0 rfl (lv_at hl 1 rfl) ?_
  by_cases q1 : a1 = 0
  · --
    refine lv_tableIn (tgt := 68) hx hb dX10_count_1 (by rw [q1]; decide) (by rw [q1]; decide) (by rw [q1]; rfl) (by decide) ?_
    have i2 : Iv a1 0 0 := iv_eq1 q1 (iv_top a1) (⟨by decide, by decide⟩ : Iv 0 0 0) (by decide)
    refine lv_aload_n hx hb dX10_count_68 rfl (lv_at hl 0 rfl) ?_
    refine g_578 cx hw ha0 k_f_X10_26 dX10_count_69 (fun v3 e3 h3 => ?_)
    refine g_64 cx hw h3 k_f_X10_121 dX10_count_72 (fun v4 e4 => ?_)
    rw [← hQ]
    exact o_ri cx rx hw dX10_count_75 rfl
  by_cases q5 : a1 = 1
  · --
    refine lv_tableIn (tgt := 76) hx hb dX10_count_1 (by rw [q5]; decide) (by rw [q5]; decide) (by rw [q5]; rfl) (by decide) ?_
    have i6 : Iv a1 1 1 := iv_eq1 q5 (iv_top a1) (⟨by decide, by decide⟩ : Iv 1 1 1) (by decide)
    refine lv_aload_n hx hb dX10_count_76 rfl (lv_at hl 0 rfl) ?_
    refine g_578 cx hw ha0 k_f_X10_26 dX10_count_77 (fun v7 e7 h7 => ?_)
    refine g_65 cx hw h7 k_f_X10_124 dX10_count_80 (fun v8 e8 => ?_)
    rw [← hQ]
    exact o_ri cx rx hw dX10_count_83 rfl
  by_cases q9 : a1 = 2
  · --
    refine lv_tableIn (tgt := 84) hx hb dX10_count_1 (by rw [q9]; decide) (by rw [q9]; decide) (by rw [q9]; rfl) (by decide) ?_
    have i10 : Iv a1 2 2 := iv_eq1 q9 (iv_top a1) (⟨by decide, by decide⟩ : Iv 2 2 2) (by decide)
    refine lv_aload_n hx hb dX10_count_84 rfl (lv_at hl 0 rfl) ?_
    refine g_578 cx hw ha0 k_f_X10_26 dX10_count_85 (fun v11 e11 h11 => ?_)
    refine g_66 cx hw h11 k_f_X10_306 dX10_count_88 (fun v12 e12 i12 => ?_)
    rw [← hQ]
    exact o_ri cx rx hw dX10_count_91 rfl
  by_cases q13 : a1 = 3
  · --
    refine lv_tableIn (tgt := 92) hx hb dX10_count_1 (by rw [q13]; decide) (by rw [q13]; decide) (by rw [q13]; rfl) (by decide) ?_
    have i14 : Iv a1 3 3 := iv_eq1 q13 (iv_top a1) (⟨by decide, by decide⟩ : Iv 3 3 3) (by decide)
    refine lv_aload_n hx hb dX10_count_92 rfl (lv_at hl 0 rfl) ?_
    refine g_581 cx hw ha0 k_f_X10_49 dX10_count_93 (fun v15 e15 h15 => ?_)
    refine g_330 cx hw h15 k_f_X10_154 dX10_count_96 (fun v16 e16 => ?_)
    rw [← hQ]
    exact o_ri cx rx hw dX10_count_99 rfl
  by_cases q17 : a1 = 4
  · --
    refine lv_tableIn (tgt := 100) hx hb dX10_count_1 (by rw [q17]; decide) (by rw [q17]; decide) (by rw [q17]; rfl) (by decide) ?_
    have i18 : Iv a1 4 4 := iv_eq1 q17 (iv_top a1) (⟨by decide, by decide⟩ : Iv 4 4 4) (by decide)
    refine lv_aload_n hx hb dX10_count_100 rfl (lv_at hl 0 rfl) ?_
    refine g_581 cx hw ha0 k_f_X10_49 dX10_count_101 (fun v19 e19 h19 => ?_)
    refine g_327 cx hw h19 k_f_X10_206 dX10_count_104 (fun v20 e20 i20 => ?_)
    rw [← hQ]
    exact o_ri cx rx hw dX10_count_107 rfl
  by_cases q21 : a1 = 5
  · --
    refine lv_tableIn (tgt := 108) hx hb dX10_count_1 (by rw [q21]; decide) (by rw [q21]; decide) (by rw [q21]; rfl) (by decide) ?_
    have i22 : Iv a1 5 5 := iv_eq1 q21 (iv_top a1) (⟨by decide, by decide⟩ : Iv 5 5 5) (by decide)
    refine lv_aload_n hx hb dX10_count_108 rfl (lv_at hl 0 rfl) ?_
    refine g_581 cx hw ha0 k_f_X10_49 dX10_count_109 (fun v23 e23 h23 => ?_)
    refine g_329 cx hw h23 k_f_X10_192 dX10_count_112 (fun v24 e24 => ?_)
    rw [← hQ]
    exact o_ri cx rx hw dX10_count_115 rfl
  by_cases q25 : a1 = 6
  · --
    refine lv_tableIn (tgt := 116) hx hb dX10_count_1 (by rw [q25]; decide) (by rw [q25]; decide) (by rw [q25]; rfl) (by decide) ?_
    have i26 : Iv a1 6 6 := iv_eq1 q25 (iv_top a1) (⟨by decide, by decide⟩ : Iv 6 6 6) (by decide)
    refine lv_aload_n hx hb dX10_count_116 rfl (lv_at hl 0 rfl) ?_
    refine g_581 cx hw ha0 k_f_X10_49 dX10_count_117 (fun v27 e27 h27 => ?_)
    refine g_331 cx hw h27 k_f_X10_463 dX10_count_120 (fun v28 e28 => ?_)
    rw [← hQ]
    exact o_ri cx rx hw dX10_count_123 rfl
  by_cases q29 : a1 = 7
  · --
    refine lv_tableIn (tgt := 124) hx hb dX10_count_1 (by rw [q29]; decide) (by rw [q29]; decide) (by rw [q29]; rfl) (by decide) ?_
    have i30 : Iv a1 7 7 := iv_eq1 q29 (iv_top a1) (⟨by decide, by decide⟩ : Iv 7 7 7) (by decide)
    refine lv_aload_n hx hb dX10_count_124 rfl (lv_at hl 0 rfl) ?_
    refine g_580 cx hw ha0 k_f_X10_42 dX10_count_125 (fun v31 e31 h31 => ?_)
    refine g_514 cx hw h31 k_f_X10_167 dX10_count_128 (fun v32 e32 => ?_)
    rw [← hQ]
    exact o_ri cx rx hw dX10_count_131 rfl
  by_cases q33 : a1 = 8
  · --
    refine lv_tableIn (tgt := 132) hx hb dX10_count_1 (by rw [q33]; decide) (by rw [q33]; decide) (by rw [q33]; rfl) (by decide) ?_
    have i34 : Iv a1 8 8 := iv_eq1 q33 (iv_top a1) (⟨by decide, by decide⟩ : Iv 8 8 8) (by decide)
    refine lv_aload_n hx hb dX10_count_132 rfl (lv_at hl 0 rfl) ?_
    refine g_580 cx hw ha0 k_f_X10_42 dX10_count_133 (fun v35 e35 h35 => ?_)
    refine g_515 cx hw h35 k_f_X10_203 dX10_count_136 (fun v36 e36 => ?_)
    rw [← hQ]
    exact o_ri cx rx hw dX10_count_139 rfl
  by_cases q37 : a1 = 9
  · --
    refine lv_tableIn (tgt := 140) hx hb dX10_count_1 (by rw [q37]; decide) (by rw [q37]; decide) (by rw [q37]; rfl) (by decide) ?_
    have i38 : Iv a1 9 9 := iv_eq1 q37 (iv_top a1) (⟨by decide, by decide⟩ : Iv 9 9 9) (by decide)
    refine lv_aload_n hx hb dX10_count_140 rfl (lv_at hl 0 rfl) ?_
    refine g_581 cx hw ha0 k_f_X10_49 dX10_count_141 (fun v39 e39 h39 => ?_)
    refine o_ci hw (oRunV cx hA hw q_X6_grassInAll k_m_X10_466 rfl h39 (by decide) (As := []) (c_X6_grassInAll v39 h39) (by decide) rfl hl.1 rfl (Nat.le_of_ble_eq_true rfl) dX10_count_144 (by decide)) (fun v41 σ40 H locs hp hw => ?_)
    have p41_0 := hp
    rw [p41_0] at hw
    rw [← hQ]
    exact o_ri cx rx hw dX10_count_147 rfl
  by_cases q42 : a1 = 10
  · --
    refine lv_tableIn (tgt := 148) hx hb dX10_count_1 (by rw [q42]; decide) (by rw [q42]; decide) (by rw [q42]; rfl) (by decide) ?_
    have i43 : Iv a1 10 10 := iv_eq1 q42 (iv_top a1) (⟨by decide, by decide⟩ : Iv 10 10 10) (by decide)
    refine lv_aload_n hx hb dX10_count_148 rfl (lv_at hl 0 rfl) ?_
    refine g_585 cx hw ha0 k_f_X10_75 dX10_count_149 (fun v44 e44 h44 => ?_)
    refine g_130 cx hw h44 k_f_X10_303 dX10_count_152 (fun v45 e45 i45 => ?_)
    rw [← hQ]
    exact o_ri cx rx hw dX10_count_155 rfl
  by_cases q46 : a1 = 11
  · --
    refine lv_tableIn (tgt := 156) hx hb dX10_count_1 (by rw [q46]; decide) (by rw [q46]; decide) (by rw [q46]; rfl) (by decide) ?_
    have i47 : Iv a1 11 11 := iv_eq1 q46 (iv_top a1) (⟨by decide, by decide⟩ : Iv 11 11 11) (by decide)
    refine lv_aload_n hx hb dX10_count_156 rfl (lv_at hl 0 rfl) ?_
    refine g_577 cx hw ha0 k_f_X10_19 dX10_count_157 (fun v48 e48 h48 => ?_)
    refine g_193 cx hw h48 k_f_X10_469 dX10_count_160 (fun v49 e49 i49 => ?_)
    rw [← hQ]
    exact o_ri cx rx hw dX10_count_163 rfl
  by_cases q50 : a1 = 12
  · --
    refine lv_tableIn (tgt := 164) hx hb dX10_count_1 (by rw [q50]; decide) (by rw [q50]; decide) (by rw [q50]; rfl) (by decide) ?_
    have i51 : Iv a1 12 12 := iv_eq1 q50 (iv_top a1) (⟨by decide, by decide⟩ : Iv 12 12 12) (by decide)
    refine lv_aload_n hx hb dX10_count_164 rfl (lv_at hl 0 rfl) ?_
    refine g_576 cx hw ha0 k_f_X10_10 dX10_count_165 (fun v52 e52 h52 => ?_)
    refine g_385 cx hw h52 k_f_X10_100 dX10_count_168 (fun v53 e53 i53 => ?_)
    rw [← hQ]
    exact o_ri cx rx hw dX10_count_171 rfl
  have q1 := iv_nt q1 (k := 0) (by decide)
  have q5 := iv_nt q5 (k := 1) (by decide)
  have q9 := iv_nt q9 (k := 2) (by decide)
  have q13 := iv_nt q13 (k := 3) (by decide)
  have q17 := iv_nt q17 (k := 4) (by decide)
  have q21 := iv_nt q21 (k := 5) (by decide)
  have q25 := iv_nt q25 (k := 6) (by decide)
  have q29 := iv_nt q29 (k := 7) (by decide)
  have q33 := iv_nt q33 (k := 8) (by decide)
  have q37 := iv_nt q37 (k := 9) (by decide)
  have q42 := iv_nt q42 (k := 10) (by decide)
  have q46 := iv_nt q46 (k := 11) (by decide)
  have q50 := iv_nt q50 (k := 12) (by decide)
  refine lv_tableOut (tgt := 172) hx hb dX10_count_1 (by omega) (by decide) ?_
  refine lv_iconst (v := (-1)) hx hb dX10_count_172 (by decide) ?_
  rw [← hQ]
  exact o_ri cx rx hw dX10_count_173 rfl
abbrev fs_X11_sign : List Nat := [655, 658]
abbrev ts_X11_sign : List Nat := [51]
set_option maxHeartbeats 4000000 in
set_option maxRecDepth 100000 in
theorem c_X11_sign (a0 : Nat) (ha0 : oA L τ a0 10) (a1 : Int32) : oMet l A L τ cy D K yX11_sign cX11_sign 3 (some .int) 0 0 [.ref a0, .int a1] σ (va_Qi (fun r σ1 => oFr τ fs_X11_sign ts_X11_sign σ σ1 ∧ Iv r (-1) 80 ∧ (((σ.1 655 a0).toInt + 4 ≤ 80 ∧ r.toInt = (σ.1 655 a0).toInt + 4 ∧ (σ1.1 655 a0).toInt = (σ.1 655 a0).toInt + 4) ∨ (80 < (σ.1 655 a0).toInt + 4 ∧ r.toInt = -1 ∧ (σ1.1 655 a0).toInt = (σ.1 655 a0).toInt))) (oPo A L τ cy D) A) := by
  refine oMk (by decide) (Nat.le_of_ble_eq_true rfl) rfl ?_
  intro p e s m args below meth c ls cx rx hA hw hl
  generalize hQ : MQ below _ args s 0 0 A = Q
  have hx := cx.1.1
  have hb := cx.1.2.1
  have hml := cx.1.2.2.1
  have hown := cx.1.2.2.2.1
  have hts := cx.1.2.2.2.2
  have hl : lv_has ls 3 [(0, .ref a0), (1, .int a1)] := hl
  have fr : oFr τ fs_X11_sign ts_X11_sign σ σ := oFr_rf
  have iz655 : Iv (σ.1 655 a0) (0) 80 := o_fb (j := 655) hw ha0 rfl
  refine lv_aload_n hx hb dX11_sign_0 rfl (lv_at hl 0 rfl) ?_
  refine lv_iconst (v := 0) hx hb dX11_sign_1 (by decide) ?_
  refine p_658 cx hw ha0 k_f_X11_89 dX11_sign_2 (fun σ1 H locs eσ1 hw => ?_)
  have fr := oFr_i fr eσ1 (by decide)
  refine lv_aload_n hx hb dX11_sign_5 rfl (lv_at hl 0 rfl) ?_
  refine g_655 cx hw ha0 k_f_X11_108 dX11_sign_6 (fun v2 e2 i2 => ?_)
  rw [show v2 = (σ.1 655 a0) from e2.trans ((kp_i eσ1 (by decide)).trans rfl)]
  refine lv_iconst (v := 4) hx hb dX11_sign_9 (by decide) ?_
  refine lv_iadd hx hb dX11_sign_10 ?_
  refine lv_topi (fun v3 e3 => ?_)
  have i3 : Iv v3 4 84 := iv_add e3 iz655 (⟨by decide, by decide⟩ : Iv 4 4 4) (by decide)
  have x3 : v3.toInt = (σ.1 655 a0).toInt + 4 := ex_add e3 iz655 (⟨by decide, by decide⟩ : Iv 4 4 4) (by decide)
  refine lv_bipush (v := 80) hx hb dX11_sign_11 (by decide) ?_
  refine lv_icmp_le (tgt := 18) hx hb dX11_sign_13 (by decide) (fun c4 => ?_) (fun c4 => ?_)
  · --
    have i5 : Iv v3 4 80 := iv_le1 c4 i3 (⟨by decide, by decide⟩ : Iv 80 80 80) (by decide)
    have i6 : Iv (σ.1 655 a0) 0 76 := iv_lin x3 i5 iz655 (by decide)
    refine lv_iconst (v := 3) hx hb dX11_sign_18 (by decide) ?_
    refine lv_istore_n (lv' := [(2, .int 3), (0, .ref a0), (1, .int a1)]) hx hb dX11_sign_19 rfl hl (by decide) rfl (fun ls hl => ?_)
    refine lv_iload_n hx hb dX11_sign_20 rfl (lv_at hl 0 rfl) ?_
    refine lv_if_lt (tgt := 53) hx hb dX11_sign_21 (by decide) (fun c7 => ?_) (fun c7 => ?_)
    · --
      exact iv_no (iv_lt1 (b' := 2) c7 (⟨by decide, by decide⟩ : Iv 3 3 3) (⟨by decide, by decide⟩ : Iv 0 0 0) (by decide)) (by decide)
    · --
      refine lv_aload_n hx hb dX11_sign_24 rfl (lv_at hl 1 rfl) ?_
      refine g_654 cx hw ha0 k_f_X11_32 dX11_sign_25 (fun v8 e8 h8 => ?_)
      refine lv_aload_n hx hb dX11_sign_28 rfl (lv_at hl 1 rfl) ?_
      refine lv_dup hx hb dX11_sign_29 rfl ?_
      refine g_655 cx hw ha0 k_f_X11_108 dX11_sign_30 (fun v9 e9 i9 => ?_)
      rw [show v9 = (σ.1 655 a0) from e9.trans ((kp_i eσ1 (by decide)).trans rfl)]
      refine lv_dup_x1 hx hb dX11_sign_33 rfl rfl ?_
      refine lv_iconst (v := 1) hx hb dX11_sign_34 (by decide) ?_
      refine lv_iadd hx hb dX11_sign_35 ?_
      refine lv_topi (fun v10 e10 => ?_)
      have i10 : Iv v10 1 77 := iv_add e10 i6 (⟨by decide, by decide⟩ : Iv 1 1 1) (by decide)
      have x10 : v10.toInt = (σ.1 655 a0).toInt + 1 := ex_add e10 i6 (⟨by decide, by decide⟩ : Iv 1 1 1) (by decide)
      refine p_655 cx hw ha0 (iv_w i10 (by decide)) k_f_X11_108 dX11_sign_36 (fun σ11 H locs eσ11 hw => ?_)
      have fr := oFr_i fr eσ11 (by decide)
      refine lv_iload_n hx hb dX11_sign_39 rfl (lv_at hl 2 rfl) ?_
      refine lv_bipush (v := 8) hx hb dX11_sign_40 (by decide) ?_
      refine lv_iload_n hx hb dX11_sign_42 rfl (lv_at hl 0 rfl) ?_
      refine lv_imul hx hb dX11_sign_43 ?_
      refine lv_topi (fun v12 e12 => ?_)
      have i12 : Iv v12 24 24 := iv_mul e12 (⟨by decide, by decide⟩ : Iv 8 8 8) (⟨by decide, by decide⟩ : Iv 3 3 3) (by decide)
      refine lv_ishr hx hb dX11_sign_44 ?_
      refine lv_topi (fun v13 e13 => ?_)
      refine lv_i2b hx hb dX11_sign_45 rfl ?_
      refine lv_topi (fun v14 e14 => ?_)
      refine o_bast cx hw h8 (by decide) rfl (iv_in i6 (by decide)) (rb_byte _) dX11_sign_46 (fun σ15 H locs eσ15 hw => ?_)
      have fr := oFr_p fr eσ15 h8 (by decide)
      refine lv_iinc (v := 2) (lv' := [(2, .int 2), (0, .ref a0), (1, .int a1)]) hx hb dX11_sign_47 hl (k := 0) rfl (by decide) (by decide) rfl (fun ls hl => ?_)
      refine lv_goto (tgt := 20) hx hb dX11_sign_50 (by decide) ?_
      refine lv_iload_n hx hb dX11_sign_20 rfl (lv_at hl 0 rfl) ?_
      refine lv_if_lt (tgt := 53) hx hb dX11_sign_21 (by decide) (fun c17 => ?_) (fun c17 => ?_)
      · --
        exact iv_no (iv_lt1 (b' := 1) c17 (⟨by decide, by decide⟩ : Iv 2 2 2) (⟨by decide, by decide⟩ : Iv 0 0 0) (by decide)) (by decide)
      · --
        refine lv_aload_n hx hb dX11_sign_24 rfl (lv_at hl 1 rfl) ?_
        refine g_654 cx hw ha0 k_f_X11_32 dX11_sign_25 (fun v18 e18 h18 => ?_)
        rw [show v18 = v8 from Option.some.inj (e18.symm.trans (((kr_p eσ15).trans ((kr_i eσ11).trans e8))))]
        refine lv_aload_n hx hb dX11_sign_28 rfl (lv_at hl 1 rfl) ?_
        refine lv_dup hx hb dX11_sign_29 rfl ?_
        refine g_655 cx hw ha0 k_f_X11_108 dX11_sign_30 (fun v19 e19 i19 => ?_)
        rw [show v19 = v10 from e19.trans ((kp_p eσ15).trans (kp_s eσ11))]
        refine lv_dup_x1 hx hb dX11_sign_33 rfl rfl ?_
        refine lv_iconst (v := 1) hx hb dX11_sign_34 (by decide) ?_
        refine lv_iadd hx hb dX11_sign_35 ?_
        refine lv_topi (fun v20 e20 => ?_)
        have i20 : Iv v20 2 78 := iv_add e20 i10 (⟨by decide, by decide⟩ : Iv 1 1 1) (by decide)
        have x20 : v20.toInt = v10.toInt + 1 := ex_add e20 i10 (⟨by decide, by decide⟩ : Iv 1 1 1) (by decide)
        refine p_655 cx hw ha0 (iv_w i20 (by decide)) k_f_X11_108 dX11_sign_36 (fun σ21 H locs eσ21 hw => ?_)
        have fr := oFr_i fr eσ21 (by decide)
        refine lv_iload_n hx hb dX11_sign_39 rfl (lv_at hl 2 rfl) ?_
        refine lv_bipush (v := 8) hx hb dX11_sign_40 (by decide) ?_
        refine lv_iload_n hx hb dX11_sign_42 rfl (lv_at hl 0 rfl) ?_
        refine lv_imul hx hb dX11_sign_43 ?_
        refine lv_topi (fun v22 e22 => ?_)
        have i22 : Iv v22 16 16 := iv_mul e22 (⟨by decide, by decide⟩ : Iv 8 8 8) (⟨by decide, by decide⟩ : Iv 2 2 2) (by decide)
        refine lv_ishr hx hb dX11_sign_44 ?_
        refine lv_topi (fun v23 e23 => ?_)
        refine lv_i2b hx hb dX11_sign_45 rfl ?_
        refine lv_topi (fun v24 e24 => ?_)
        refine o_bast cx hw h8 (by decide) rfl (iv_in i10 (by decide)) (rb_byte _) dX11_sign_46 (fun σ25 H locs eσ25 hw => ?_)
        have fr := oFr_p fr eσ25 h8 (by decide)
        refine lv_iinc (v := 1) (lv' := [(2, .int 1), (0, .ref a0), (1, .int a1)]) hx hb dX11_sign_47 hl (k := 0) rfl (by decide) (by decide) rfl (fun ls hl => ?_)
        refine lv_goto (tgt := 20) hx hb dX11_sign_50 (by decide) ?_
        refine lv_iload_n hx hb dX11_sign_20 rfl (lv_at hl 0 rfl) ?_
        refine lv_if_lt (tgt := 53) hx hb dX11_sign_21 (by decide) (fun c27 => ?_) (fun c27 => ?_)
        · --
          exact iv_no (iv_lt1 (b' := 0) c27 (⟨by decide, by decide⟩ : Iv 1 1 1) (⟨by decide, by decide⟩ : Iv 0 0 0) (by decide)) (by decide)
        · --
          refine lv_aload_n hx hb dX11_sign_24 rfl (lv_at hl 1 rfl) ?_
          refine g_654 cx hw ha0 k_f_X11_32 dX11_sign_25 (fun v28 e28 h28 => ?_)
          rw [show v28 = v8 from Option.some.inj (e28.symm.trans (((kr_p eσ25).trans ((kr_i eσ21).trans ((kr_p eσ15).trans ((kr_i eσ11).trans e8))))))]
          refine lv_aload_n hx hb dX11_sign_28 rfl (lv_at hl 1 rfl) ?_
          refine lv_dup hx hb dX11_sign_29 rfl ?_
          refine g_655 cx hw ha0 k_f_X11_108 dX11_sign_30 (fun v29 e29 i29 => ?_)
          rw [show v29 = v20 from e29.trans ((kp_p eσ25).trans (kp_s eσ21))]
          refine lv_dup_x1 hx hb dX11_sign_33 rfl rfl ?_
          refine lv_iconst (v := 1) hx hb dX11_sign_34 (by decide) ?_
          refine lv_iadd hx hb dX11_sign_35 ?_
          refine lv_topi (fun v30 e30 => ?_)
          have i30 : Iv v30 3 79 := iv_add e30 i20 (⟨by decide, by decide⟩ : Iv 1 1 1) (by decide)
          have x30 : v30.toInt = v20.toInt + 1 := ex_add e30 i20 (⟨by decide, by decide⟩ : Iv 1 1 1) (by decide)
          refine p_655 cx hw ha0 (iv_w i30 (by decide)) k_f_X11_108 dX11_sign_36 (fun σ31 H locs eσ31 hw => ?_)
          have fr := oFr_i fr eσ31 (by decide)
          refine lv_iload_n hx hb dX11_sign_39 rfl (lv_at hl 2 rfl) ?_
          refine lv_bipush (v := 8) hx hb dX11_sign_40 (by decide) ?_
          refine lv_iload_n hx hb dX11_sign_42 rfl (lv_at hl 0 rfl) ?_
          refine lv_imul hx hb dX11_sign_43 ?_
          refine lv_topi (fun v32 e32 => ?_)
          have i32 : Iv v32 8 8 := iv_mul e32 (⟨by decide, by decide⟩ : Iv 8 8 8) (⟨by decide, by decide⟩ : Iv 1 1 1) (by decide)
          refine lv_ishr hx hb dX11_sign_44 ?_
          refine lv_topi (fun v33 e33 => ?_)
          refine lv_i2b hx hb dX11_sign_45 rfl ?_
          refine lv_topi (fun v34 e34 => ?_)
          refine o_bast cx hw h8 (by decide) rfl (iv_in i20 (by decide)) (rb_byte _) dX11_sign_46 (fun σ35 H locs eσ35 hw => ?_)
          have fr := oFr_p fr eσ35 h8 (by decide)
          refine lv_iinc (v := 0) (lv' := [(2, .int 0), (0, .ref a0), (1, .int a1)]) hx hb dX11_sign_47 hl (k := 0) rfl (by decide) (by decide) rfl (fun ls hl => ?_)
          refine lv_goto (tgt := 20) hx hb dX11_sign_50 (by decide) ?_
          refine lv_iload_n hx hb dX11_sign_20 rfl (lv_at hl 0 rfl) ?_
          refine lv_if_lt (tgt := 53) hx hb dX11_sign_21 (by decide) (fun c37 => ?_) (fun c37 => ?_)
          · --
            exact iv_no (iv_lt1 (b' := (-1)) c37 (⟨by decide, by decide⟩ : Iv 0 0 0) (⟨by decide, by decide⟩ : Iv 0 0 0) (by decide)) (by decide)
          · --
            refine lv_aload_n hx hb dX11_sign_24 rfl (lv_at hl 1 rfl) ?_
            refine g_654 cx hw ha0 k_f_X11_32 dX11_sign_25 (fun v38 e38 h38 => ?_)
            rw [show v38 = v8 from Option.some.inj (e38.symm.trans (((kr_p eσ35).trans ((kr_i eσ31).trans ((kr_p eσ25).trans ((kr_i eσ21).trans ((kr_p eσ15).trans ((kr_i eσ11).trans e8))))))))]
            refine lv_aload_n hx hb dX11_sign_28 rfl (lv_at hl 1 rfl) ?_
            refine lv_dup hx hb dX11_sign_29 rfl ?_
            refine g_655 cx hw ha0 k_f_X11_108 dX11_sign_30 (fun v39 e39 i39 => ?_)
            rw [show v39 = v30 from e39.trans ((kp_p eσ35).trans (kp_s eσ31))]
            refine lv_dup_x1 hx hb dX11_sign_33 rfl rfl ?_
            refine lv_iconst (v := 1) hx hb dX11_sign_34 (by decide) ?_
            refine lv_iadd hx hb dX11_sign_35 ?_
            refine lv_topi (fun v40 e40 => ?_)
            have i40 : Iv v40 4 80 := iv_add e40 i30 (⟨by decide, by decide⟩ : Iv 1 1 1) (by decide)
            have x40 : v40.toInt = v30.toInt + 1 := ex_add e40 i30 (⟨by decide, by decide⟩ : Iv 1 1 1) (by decide)
            refine p_655 cx hw ha0 (iv_w i40 (by decide)) k_f_X11_108 dX11_sign_36 (fun σ41 H locs eσ41 hw => ?_)
            have fr := oFr_i fr eσ41 (by decide)
            refine lv_iload_n hx hb dX11_sign_39 rfl (lv_at hl 2 rfl) ?_
            refine lv_bipush (v := 8) hx hb dX11_sign_40 (by decide) ?_
            refine lv_iload_n hx hb dX11_sign_42 rfl (lv_at hl 0 rfl) ?_
            refine lv_imul hx hb dX11_sign_43 ?_
            refine lv_topi (fun v42 e42 => ?_)
            have i42 : Iv v42 0 0 := iv_mul e42 (⟨by decide, by decide⟩ : Iv 8 8 8) (⟨by decide, by decide⟩ : Iv 0 0 0) (by decide)
            refine lv_ishr hx hb dX11_sign_44 ?_
            refine lv_topi (fun v43 e43 => ?_)
            refine lv_i2b hx hb dX11_sign_45 rfl ?_
            refine lv_topi (fun v44 e44 => ?_)
            refine o_bast cx hw h8 (by decide) rfl (iv_in i30 (by decide)) (rb_byte _) dX11_sign_46 (fun σ45 H locs eσ45 hw => ?_)
            have fr := oFr_p fr eσ45 h8 (by decide)
            refine lv_iinc (v := (-1)) (lv' := [(2, .int (-1)), (0, .ref a0), (1, .int a1)]) hx hb dX11_sign_47 hl (k := 0) rfl (by decide) (by decide) rfl (fun ls hl => ?_)
            refine lv_goto (tgt := 20) hx hb dX11_sign_50 (by decide) ?_
            refine lv_iload_n hx hb dX11_sign_20 rfl (lv_at hl 0 rfl) ?_
            refine lv_if_lt (tgt := 53) hx hb dX11_sign_21 (by decide) (fun c47 => ?_) (fun c47 => ?_)
            · --
              refine lv_aload_n hx hb dX11_sign_53 rfl (lv_at hl 1 rfl) ?_
              refine g_655 cx hw ha0 k_f_X11_108 dX11_sign_54 (fun v48 e48 i48 => ?_)
              rw [show v48 = v40 from e48.trans ((kp_p eσ45).trans (kp_s eσ41))]
              rw [← hQ]
              exact o_ri cx rx hw dX11_sign_57 ⟨fr, (iv_w i40 (by decide)), (by exact (by have := (i40).1; have := (i40).2; have := (i6).1; have := (i6).2; have := (i5).1; have := (i5).2; have := (i10).1; have := (i10).2; have := (i12).1; have := (i12).2; have := (i20).1; have := (i20).2; have := (i22).1; have := (i22).2; have := (i30).1; have := (i30).2; have := (i32).1; have := (i32).2; have := (i42).1; have := (i42).2; have : (σ45.1 658 a0).toInt = (0 : Int32).toInt := congrArg Int32.toInt (show σ45.1 658 a0 = 0 from ((kp_p eσ45).trans ((kp_i eσ41 (by decide)).trans ((kp_p eσ35).trans ((kp_i eσ31 (by decide)).trans ((kp_p eσ25).trans ((kp_i eσ21 (by decide)).trans ((kp_p eσ15).trans ((kp_i eσ11 (by decide)).trans (kp_s eσ1)))))))))); have : (σ45.1 655 a0).toInt = (v40 : Int32).toInt := congrArg Int32.toInt (show σ45.1 655 a0 = v40 from ((kp_p eσ45).trans (kp_s eσ41))); have : (v3 : Int32).toInt ≤ (80 : Int32).toInt := iv_le.mp c4; have : (0 : Int32).toInt ≤ (3 : Int32).toInt := iv_le.mp (iv_nlt c7); have : (0 : Int32).toInt ≤ (2 : Int32).toInt := iv_le.mp (iv_nlt c17); have : (0 : Int32).toInt ≤ (1 : Int32).toInt := iv_le.mp (iv_nlt c27); have : (0 : Int32).toInt ≤ (0 : Int32).toInt := iv_le.mp (iv_nlt c37); have : ((-1) : Int32).toInt < (0 : Int32).toInt := iv_lt.mp c47; have : ((-1) : Int32).toInt = (-1) := (by decide); have : (0 : Int32).toInt = 0 := (by decide); have : (1 : Int32).toInt = 1 := (by decide); have : (2 : Int32).toInt = 2 := (by decide); have : (3 : Int32).toInt = 3 := (by decide); have : (80 : Int32).toInt = 80 := (by decide); omega))⟩
            · --
              exact iv_no (iv_le1 (b' := (-1)) (iv_nlt c47) (⟨by decide, by decide⟩ : Iv 0 0 0) (⟨by decide, by decide⟩ : Iv (-1) (-1) (-1)) (by decide)) (by decide)
  · --
    have i49 : Iv v3 81 84 := iv_lt2 (iv_nle c4) (⟨by decide, by decide⟩ : Iv 80 80 80) i3 (by decide)
    have i50 : Iv (σ.1 655 a0) 77 80 := iv_lin x3 i49 iz655 (by decide)
    refine lv_iconst (v := (-1)) hx hb dX11_sign_16 (by decide) ?_
    rw [← hQ]
    exact o_ri cx rx hw dX11_sign_17 ⟨fr, (iv_w (⟨by decide, by decide⟩ : Iv (-1) (-1) (-1)) (by decide)), (by exact (by have := (i50).1; have := (i50).2; have := (i49).1; have := (i49).2; have : (σ1.1 655 a0).toInt = ((σ.1 655 a0) : Int32).toInt := congrArg Int32.toInt (show σ1.1 655 a0 = (σ.1 655 a0) from ((kp_i eσ1 (by decide)).trans rfl)); have : (σ1.1 658 a0).toInt = (0 : Int32).toInt := congrArg Int32.toInt (show σ1.1 658 a0 = 0 from (kp_s eσ1)); have : (80 : Int32).toInt < (v3 : Int32).toInt := iv_lt.mp (iv_nle c4); have : ((-1) : Int32).toInt = (-1) := (by decide); have : (0 : Int32).toInt = 0 := (by decide); have : (80 : Int32).toInt = 80 := (by decide); omega))⟩
abbrev fs_X11_end : List Nat := [655, 658]
abbrev ts_X11_end : List Nat := []
set_option maxHeartbeats 4000000 in
set_option maxRecDepth 100000 in
theorem c_X11_end (a0 : Nat) (ha0 : oA L τ a0 10) (a1 : Int32) : oMet l A L τ cy D K yX11_end cX11_end 2 (some .boolean) 1 22 [.ref a0, .int a1] σ (va_Qi (fun r σ1 => oFr τ fs_X11_end ts_X11_end σ σ1 ∧ Iv r 0 1 ∧ ((0 ≤ a1.toInt ∧ a1.toInt ≤ (σ.1 655 a0).toInt ∧ r.toInt = 1 ∧ (σ1.1 655 a0).toInt = a1.toInt) ∨ ((a1.toInt < 0 ∨ (σ.1 655 a0).toInt < a1.toInt) ∧ r.toInt = 0 ∧ (σ1.1 655 a0).toInt = (σ.1 655 a0).toInt))) (oPo A L τ cy D) A) := by
  refine oMk (by decide) (Nat.le_of_ble_eq_true rfl) rfl ?_
  intro p e s m args below meth c ls cx rx hA hw hl
  generalize hQ : MQ below _ args s 0 0 A = Q
  have hx := cx.1.1
  have hb := cx.1.2.1
  have hml := cx.1.2.2.1
  have hown := cx.1.2.2.2.1
  have hts := cx.1.2.2.2.2
  have hl : lv_has ls 2 [(0, .ref a0), (1, .int a1)] := hl
  have fr : oFr τ fs_X11_end ts_X11_end σ σ := oFr_rf
  have iz655 : Iv (σ.1 655 a0) (0) 80 := o_fb (j := 655) hw ha0 rfl
  refine lv_aload_n hx hb dX11_end_0 rfl (lv_at hl 0 rfl) ?_
  refine lv_iconst (v := 0) hx hb dX11_end_1 (by decide) ?_
  refine p_658 cx hw ha0 k_f_X11_89 dX11_end_2 (fun σ1 H locs eσ1 hw => ?_)
  have fr := oFr_i fr eσ1 (by decide)
  refine lv_iload_n hx hb dX11_end_5 rfl (lv_at hl 1 rfl) ?_
  refine lv_iconst (v := 0) hx hb dX11_end_6 (by decide) ?_
  refine lv_aload_n hx hb dX11_end_7 rfl (lv_at hl 0 rfl) ?_
  refine g_655 cx hw ha0 k_f_X11_108 dX11_end_8 (fun v2 e2 i2 => ?_)
  rw [show v2 = (σ.1 655 a0) from e2.trans ((kp_i eσ1 (by decide)).trans rfl)]
  refine o_ci hw (oRunS cx hA hw q_X11_in k_m_X11_95 (As := [.int a1, .int 0, .int (σ.1 655 a0)]) (c_X11_in a1 0 (σ.1 655 a0)) (by decide) rfl hl.1 rfl (Nat.le_of_ble_eq_true rfl) dX11_end_11 (by decide)) (fun v4 σ3 H locs hp hw => ?_)
  obtain ⟨p4_0, p4_1, p4_2, p4_3, p4_4⟩ := hp
  rw [p4_0] at hw
  refine lv_if_ne (tgt := 19) hx hb dX11_end_14 (by decide) (fun c5 => ?_) (fun c5 => ?_)
  · --
    have i6 : Iv v4 1 1 := iv_ne1 c5 p4_1 (⟨by decide, by decide⟩ : Iv 0 0 0) (by decide)
    have l7 : a1.toInt ≤ (σ.1 655 a0).toInt + 0 := le_of (p4_2 c5).2
    have i8 : Iv a1 0 80 := (fun h => iv_rel (p4_2 h) (⟨by decide, by decide⟩ : Iv 0 0 0) iz655) c5
    refine lv_aload_n hx hb dX11_end_19 rfl (lv_at hl 0 rfl) ?_
    refine lv_iload_n hx hb dX11_end_20 rfl (lv_at hl 1 rfl) ?_
    refine p_655 cx hw ha0 (iv_w i8 (by decide)) k_f_X11_108 dX11_end_21 (fun σ9 H locs eσ9 hw => ?_)
    have fr := oFr_i fr eσ9 (by decide)
    refine lv_iconst (v := 1) hx hb dX11_end_24 (by decide) ?_
    rw [← hQ]
    exact o_rz cx rx hw (iv_nz01 (iv_w (⟨by decide, by decide⟩ : Iv 1 1 1) (by decide))) dX11_end_25 ⟨fr, (iv_w (⟨by decide, by decide⟩ : Iv 1 1 1) (by decide)), (by exact (by have := (i8).1; have := (i8).2; have := (iz655).1; have := (iz655).2; have := (i6).1; have := (i6).2; have : (σ9.1 658 a0).toInt = (0 : Int32).toInt := congrArg Int32.toInt (show σ9.1 658 a0 = 0 from ((kp_i eσ9 (by decide)).trans (kp_s eσ1))); have : (σ9.1 655 a0).toInt = (a1 : Int32).toInt := congrArg Int32.toInt (show σ9.1 655 a0 = a1 from (kp_s eσ9)); have : (0 : Int32).toInt = 0 := (by decide); have : (1 : Int32).toInt = 1 := (by decide); omega))⟩
  · --
    have i10 : Iv v4 0 0 := iv_eq1 c5 p4_1 (⟨by decide, by decide⟩ : Iv 0 0 0) (by decide)
    refine lv_iconst (v := 0) hx hb dX11_end_17 (by decide) ?_
    rw [← hQ]
    exact o_rz cx rx hw (iv_nz01 (iv_w (⟨by decide, by decide⟩ : Iv 0 0 0) (by decide))) dX11_end_18 ⟨fr, (iv_w (⟨by decide, by decide⟩ : Iv 0 0 0) (by decide)), (by exact (by have := (iz655).1; have := (iz655).2; have := (i10).1; have := (i10).2; have : (σ1.1 655 a0).toInt = ((σ.1 655 a0) : Int32).toInt := congrArg Int32.toInt (show σ1.1 655 a0 = (σ.1 655 a0) from ((kp_i eσ1 (by decide)).trans rfl)); have : (σ1.1 658 a0).toInt = (0 : Int32).toInt := congrArg Int32.toInt (show σ1.1 658 a0 = 0 from (kp_s eσ1)); have : (v4 : Int32).toInt = (0 : Int32).toInt := congrArg Int32.toInt c5; have : (0 : Int32).toInt = 0 := (by decide); omega))⟩
abbrev fs_X11_herds : List Nat := [647, 649, 655, 658, 659, 660, 661, 662, 663, 672, 681]
abbrev ts_X11_herds : List Nat := [48, 53, 69]
set_option maxHeartbeats 4000000 in
set_option maxRecDepth 100000 in
theorem c_X11_herds (a0 : Nat) (ha0 : oA L τ a0 10) : oMet l A L τ cy D K yX11_herds cX11_herds 4 (some .int) 4 87 [.ref a0] σ (va_Qi (fun r σ1 => oFr τ fs_X11_herds ts_X11_herds σ σ1 ∧ Iv r (-201) 6 ∧ Iv (σ1.1 655 a0) 0 0) (oPo A L τ cy D) A) := by
  refine oMk (by decide) (Nat.le_of_ble_eq_true rfl) rfl ?_
  intro p e s m args below meth c ls cx rx hA hw hl
  generalize hQ : MQ below _ args s 0 0 A = Q
  have hx := cx.1.1
  have hb := cx.1.2.1
  have hml := cx.1.2.2.1
  have hown := cx.1.2.2.2.1
  have hts := cx.1.2.2.2.2
  have hl : lv_has ls 4 [(0, .ref a0)] := hl
  have fr : oFr τ fs_X11_herds ts_X11_herds σ σ := oFr_rf
  refine lv_aload_n hx hb dX11_herds_0 rfl (lv_at hl 0 rfl) ?_
  refine lv_iconst (v := 0) hx hb dX11_herds_1 (by decide) ?_
  refine p_658 cx hw ha0 k_f_X11_89 dX11_herds_2 (fun σ1 H locs eσ1 hw => ?_)
  have fr := oFr_i fr eσ1 (by decide)
  refine lv_aload_n hx hb dX11_herds_5 rfl (lv_at hl 0 rfl) ?_
  refine lv_aload_n hx hb dX11_herds_6 rfl (lv_at hl 0 rfl) ?_
  refine g_654 cx hw ha0 k_f_X11_32 dX11_herds_7 (fun v2 e2 h2 => ?_)
  refine lv_aload_n hx hb dX11_herds_10 rfl (lv_at hl 0 rfl) ?_
  refine g_655 cx hw ha0 k_f_X11_108 dX11_herds_11 (fun v3 e3 i3 => ?_)
  have z3 : v3.toInt = (σ1.1 655 a0).toInt := congrArg Int32.toInt e3
  refine lv_bipush (v := 76) hx hb dX11_herds_14 (by decide) ?_
  have i4 : Iv (σ1.1 660 a0) 0 80 := o_fb (j := 660) hw ha0 rfl
  have i5 : Iv (σ1.1 661 a0) 0 80 := o_fb (j := 661) hw ha0 rfl
  refine o_cv hw (oRunV cx hA hw q_X11_begin k_m_X11_142 rfl ha0 (by decide) (As := [.ref v2, .int v3, .int 76]) (c_X11_beginT a0 ha0 v2 h2 v3 (iv_w i3 (by decide)) 76 (iv_w (⟨by decide, by decide⟩ : Iv 76 76 76) (by decide))) (by decide) rfl hl.1 rfl (Nat.le_of_ble_eq_true rfl) dX11_herds_16 (by decide)) (fun σ6 H locs hp hw => ?_)
  obtain ⟨p7_0, p7_1, p7_2, p7_3, p7_4, p7_5, p7_6⟩ := hp
  have fr := oFr_tr fr p7_0 (by decide)
  refine lv_aload_n hx hb dX11_herds_19 rfl (lv_at hl 0 rfl) ?_
  refine lv_iconst (v := 0) hx hb dX11_herds_20 (by decide) ?_
  refine p_655 cx hw ha0 (iv_w (⟨by decide, by decide⟩ : Iv 0 0 0) (by decide)) k_f_X11_108 dX11_herds_21 (fun σ8 H locs eσ8 hw => ?_)
  have fr := oFr_i fr eσ8 (by decide)
  refine lv_aload_n hx hb dX11_herds_24 rfl (lv_at hl 0 rfl) ?_
  refine g_660 cx hw ha0 k_f_X11_114 dX11_herds_25 (fun v9 e9 i9 => ?_)
  rw [show v9 = (σ6.1 660 a0) from e9.trans ((kp_i eσ8 (by decide)).trans rfl)]
  refine lv_if_ne (tgt := 33) hx hb dX11_herds_28 (by decide) (fun c10 => ?_) (fun c10 => ?_)
  · --
    have i11 : Iv (σ6.1 660 a0) 1 80 := iv_ne1 c10 p7_2 (⟨by decide, by decide⟩ : Iv 0 0 0) (by decide)
    refine lv_iconst (v := 0) hx hb dX11_herds_33 (by decide) ?_
    refine lv_istore_n (lv' := [(1, .int 0), (0, .ref a0)]) hx hb dX11_herds_34 rfl hl (by decide) rfl (fun ls hl => ?_)
    refine lv_iconst (v := 1) hx hb dX11_herds_35 (by decide) ?_
    refine lv_istore_n (lv' := [(2, .int 1), (1, .int 0), (0, .ref a0)]) hx hb dX11_herds_36 rfl hl (by decide) rfl (fun ls hl => ?_)
    refine lv_iload_n hx hb dX11_herds_37 rfl (lv_at hl 0 rfl) ?_
    refine lv_if_eq (tgt := 90) hx hb dX11_herds_38 (by decide) (fun c12 => ?_) (fun c12 => ?_)
    · --
      exact iv_no (iv_eq1 (lo := 1) (hi := 0) c12 (⟨by decide, by decide⟩ : Iv 1 1 1) (⟨by decide, by decide⟩ : Iv 0 0 0) (by decide)) (by decide)
    · --
      refine lv_aload_n hx hb dX11_herds_41 rfl (lv_at hl 2 rfl) ?_
      have z13 : (σ8.1 663 a0).toInt = ((σ6.1 663 a0) : Int32).toInt := congrArg Int32.toInt (show σ8.1 663 a0 = (σ6.1 663 a0) from ((kp_i eσ8 (by decide)).trans rfl))
      refine o_ci hw (oRunV cx hA hw q_X11_fine k_m_X11_126 rfl ha0 (by decide) (As := []) (c_X11_fine a0 ha0) (by decide) rfl hl.1 rfl (Nat.le_of_ble_eq_true rfl) dX11_herds_42 (by decide)) (fun v15 σ14 H locs hp hw => ?_)
      obtain ⟨p15_0, p15_1, p15_2⟩ := hp
      rw [p15_0] at hw
      have i16 : Iv v15 1 1 := (by have := (p15_1).1; have := (p15_1).2; have := (i11).1; have := (i11).2; have := (p7_3).1; have := (p7_3).2; have := (p7_4).1; have := (p7_4).2; have := (p7_5).1; have := (p7_5).2; have := (i4).1; have := (i4).2; have := (i5).1; have := (i5).2; have : (σ8.1 658 a0).toInt = (0 : Int32).toInt := congrArg Int32.toInt (show σ8.1 658 a0 = 0 from ((kp_i eσ8 (by decide)).trans ((kp_c p7_0 (by decide)).trans (kp_s eσ1)))); have : (σ8.1 660 a0).toInt = ((σ6.1 660 a0) : Int32).toInt := congrArg Int32.toInt (show σ8.1 660 a0 = (σ6.1 660 a0) from ((kp_i eσ8 (by decide)).trans rfl)); have : (σ8.1 661 a0).toInt = ((σ6.1 661 a0) : Int32).toInt := congrArg Int32.toInt (show σ8.1 661 a0 = (σ6.1 661 a0) from ((kp_i eσ8 (by decide)).trans rfl)); have : (σ8.1 662 a0).toInt = ((σ6.1 662 a0) : Int32).toInt := congrArg Int32.toInt (show σ8.1 662 a0 = (σ6.1 662 a0) from ((kp_i eσ8 (by decide)).trans rfl)); have : (σ8.1 663 a0).toInt = ((σ6.1 663 a0) : Int32).toInt := congrArg Int32.toInt (show σ8.1 663 a0 = (σ6.1 663 a0) from ((kp_i eσ8 (by decide)).trans rfl)); have : (σ8.1 655 a0).toInt = (0 : Int32).toInt := congrArg Int32.toInt (show σ8.1 655 a0 = 0 from (kp_s eσ8)); have : (0 : Int32).toInt = 0 := (by decide); have : (1 : Int32).toInt = 1 := (by decide); have : (76 : Int32).toInt = 76 := (by decide); exact ⟨by omega, by omega⟩)
      have frE_48 := fr
      have J_48 : ∀ n48 : Nat, ∀ (j48_1 : Int32) (ij48_1 : Iv j48_1 0 6) (j48_2 : Int32) (ij48_2 : Iv j48_2 1 1), ∀ (σ_48 : oSt) (H : Heap) (locs : List Loc), oI A L τ cy D s.heap σ_48 H locs → oFr τ fs_X11_herds ts_X11_herds σ σ_48 → Iv (σ_48.1 655 a0) 0 0 → Iv (σ_48.1 660 a0) 1 80 → Iv (σ_48.1 661 a0) 0 80 → Iv (σ_48.1 662 a0) 0 80 → Iv (σ_48.1 663 a0) (-1) (-1) → σ_48.2.2.2.2 659 a0 = some v2 → (6 - j48_1.toInt).toNat < n48 → ((j48_1 : Int32).toInt + (σ_48.1 647 a0).toInt ≤ 6) → ∀ (ls : Array Slot), lv_has ls 4 [(0, .ref a0), (1, .int j48_1), (2, .int j48_2)] → W p l e ({ frames := 4, cells := 0, slots := 0, locals := 87 } : Room) s m args below meth c H locs 0 0 Q (F0 m 48 ls []) := by
        intro n48
        induction n48 with
        | zero => intro j48_1 ij48_1 j48_2 ij48_2 σ_48 H locs hw fr f48_655_a0 f48_660_a0 f48_661_a0 f48_662_a0 f48_663_a0 r48_659  hn_48 h6  ls hl; exact absurd hn_48 (Nat.not_lt_zero _)
        | succ n48 ih_48 =>
          intro j48_1 ij48_1 j48_2 ij48_2 σ_48 H locs hw fr f48_655_a0 f48_660_a0 f48_661_a0 f48_662_a0 f48_663_a0 r48_659  hn_48 h6  ls hl
          have fr_48 := fr
          refine lv_aload_n hx hb dX11_herds_48 rfl (lv_at hl 0 rfl) ?_
          refine g_647 cx hw ha0 k_f_X11_105 dX11_herds_49 (fun v17 e17 i17 => ?_)
          have z17 : v17.toInt = (σ_48.1 647 a0).toInt := congrArg Int32.toInt e17
          refine lv_iload_n hx hb dX11_herds_52 rfl (lv_at hl 1 rfl) ?_
          refine lv_iadd hx hb dX11_herds_53 ?_
          refine lv_topi (fun v18 e18 => ?_)
          have i18 : Iv v18 0 12 := iv_add e18 i17 ij48_1 (by decide)
          have x18 : v18.toInt = v17.toInt + j48_1.toInt := ex_add e18 i17 ij48_1 (by decide)
          refine lv_bipush (v := 6) hx hb dX11_herds_54 (by decide) ?_
          refine lv_icmp_ne (tgt := 70) hx hb dX11_herds_56 (by decide) (fun c19 => ?_) (fun c19 => ?_)
          · --
            have i20 : Iv j48_1 0 5 := (by have := (ij48_1).1; have := (ij48_1).2; have := (ij48_2).1; have := (ij48_2).2; have := (f48_660_a0).1; have := (f48_660_a0).2; have := (f48_661_a0).1; have := (f48_661_a0).2; have := (f48_662_a0).1; have := (f48_662_a0).2; have := (f48_663_a0).1; have := (f48_663_a0).2; have := (f48_655_a0).1; have := (f48_655_a0).2; have := (i17).1; have := (i17).2; have := (i4).1; have := (i4).2; have := (i5).1; have := (i5).2; have := (i11).1; have := (i11).2; have := (p7_3).1; have := (p7_3).2; have := (p7_4).1; have := (p7_4).2; have := (p7_5).1; have := (p7_5).2; have := (i16).1; have := (i16).2; have := (i18).1; have := (i18).2; have : (σ_48.1 647 a0).toInt = (v17 : Int32).toInt := congrArg Int32.toInt (show σ_48.1 647 a0 = v17 from e17.symm); have : (v18 : Int32).toInt ≠ (6 : Int32).toInt := fun q => c19 (Int32.toInt_inj.mp q); have : (6 : Int32).toInt = 6 := (by decide); have : (76 : Int32).toInt = 76 := (by decide); exact ⟨by omega, by omega⟩)
            refine lv_aload_n hx hb dX11_herds_70 rfl (lv_at hl 0 rfl) ?_
            refine lv_iconst (v := 3) hx hb dX11_herds_71 (by decide) ?_
            refine lv_iload_n hx hb dX11_herds_72 rfl (lv_at hl 1 rfl) ?_
            refine lv_imul hx hb dX11_herds_73 ?_
            refine lv_topi (fun v21 e21 => ?_)
            have i21 : Iv v21 0 15 := iv_mul e21 (⟨by decide, by decide⟩ : Iv 3 3 3) i20 (by decide)
            refine o_cv hw (oRunV cx hA hw q_X11_readHerd k_m_X11_175 rfl ha0 (by decide) (As := [.int v21]) (c_X11_readHerd a0 ha0 v21 (iv_w i21 (by decide)) v2 (r48_659) h2 (kn_iv (rfl) (iv_w f48_660_a0 (by decide)))) (by decide) rfl hl.1 rfl (Nat.le_of_ble_eq_true rfl) dX11_herds_74 (by decide)) (fun σ22 H locs hp hw => ?_)
            obtain ⟨p23_0, p23_1, p23_2⟩ := hp
            have fr := oFr_tr fr p23_0 (by decide)
            have i24 : Iv (σ22.1 662 a0) 0 200 := o_fb (j := 662) hw ha0 rfl
            have i25 : Iv (σ22.1 663 a0) (-1) 200 := o_fb (j := 663) hw ha0 rfl
            obtain ⟨v26, e26⟩ : ∃ y : Int32, y = j48_1 + 1 := ⟨_, rfl⟩
            have i26 : Iv v26 1 6 := iv_add e26 i20 (⟨by decide, by decide⟩ : Iv 1 1 1) (by decide)
            have x26 : v26.toInt = j48_1.toInt + 1 := ex_add e26 i20 (⟨by decide, by decide⟩ : Iv 1 1 1) (by decide)
            refine lv_iinc (v := v26) (lv' := [(1, .int v26), (0, .ref a0), (2, .int j48_2)]) hx hb dX11_herds_77 hl (k := 1) rfl (by rw [e26]; rfl) (by decide) rfl (fun ls hl => ?_)
            refine lv_aload_n hx hb dX11_herds_80 rfl (lv_at hl 1 rfl) ?_
            refine lv_bipush (v := 59) hx hb dX11_herds_81 (by decide) ?_
            have z27 : (σ22.1 660 a0).toInt = ((σ_48.1 660 a0) : Int32).toInt := congrArg Int32.toInt (show σ22.1 660 a0 = (σ_48.1 660 a0) from ((kp_c p23_0 (by decide)).trans rfl))
            have z28 : (σ22.1 661 a0).toInt = ((σ_48.1 661 a0) : Int32).toInt := congrArg Int32.toInt (show σ22.1 661 a0 = (σ_48.1 661 a0) from ((kp_c p23_0 (by decide)).trans rfl))
            refine o_ci hw (oRunV cx hA hw q_X11_passes k_m_X11_134 rfl ha0 (by decide) (As := [.int 59]) (c_X11_passesT a0 ha0 59 (iv_w (⟨by decide, by decide⟩ : Iv 59 59 59) (by decide)) v2 (((kr_c p23_0 (by decide)).trans r48_659)) h2 (kn_iv (((kp_c p23_0 (by decide)).trans rfl)) (iv_w f48_660_a0 (by decide)))) (by decide) rfl hl.1 rfl (Nat.le_of_ble_eq_true rfl) dX11_herds_83 (by decide)) (fun v30 σ29 H locs hp hw => ?_)
            obtain ⟨p30_0, p30_1, p30_2, p30_3, p30_4⟩ := hp
            have fr := oFr_tr fr p30_0 (by decide)
            have i31 : Iv (σ29.1 662 a0) 0 200 := o_fb (j := 662) hw ha0 rfl
            refine lv_istore_n (lv' := [(2, .int v30), (1, .int v26), (0, .ref a0)]) hx hb dX11_herds_86 rfl hl (by decide) rfl (fun ls hl => ?_)
            refine lv_goto (tgt := 37) hx hb dX11_herds_87 (by decide) ?_
            refine lv_iload_n hx hb dX11_herds_37 rfl (lv_at hl 0 rfl) ?_
            refine lv_if_eq (tgt := 90) hx hb dX11_herds_38 (by decide) (fun c32 => ?_) (fun c32 => ?_)
            · --
              have i33 : Iv v30 0 0 := iv_eq1 c32 p30_1 (⟨by decide, by decide⟩ : Iv 0 0 0) (by decide)
              refine lv_aload_n hx hb dX11_herds_90 rfl (lv_at hl 2 rfl) ?_
              refine g_662 cx hw ha0 k_f_X11_120 dX11_herds_91 (fun v34 e34 i34 => ?_)
              rw [show v34 = (σ29.1 662 a0) from e34.trans rfl]
              refine lv_aload_n hx hb dX11_herds_94 rfl (lv_at hl 2 rfl) ?_
              refine g_660 cx hw ha0 k_f_X11_114 dX11_herds_95 (fun v35 e35 i35 => ?_)
              rw [show v35 = (σ_48.1 660 a0) from e35.trans ((kp_c p30_0 (by decide)).trans ((kp_c p23_0 (by decide)).trans rfl))]
              refine lv_icmp_ge (tgt := 109) hx hb dX11_herds_98 (by decide) (fun c36 => ?_) (fun c36 => ?_)
              · --
                have i37 : Iv (σ29.1 662 a0) 1 200 := iv_le2 c36 f48_660_a0 i31 (by decide)
                refine lv_aload_n hx hb dX11_herds_109 rfl (lv_at hl 2 rfl) ?_
                have z38 : (σ29.1 663 a0).toInt = ((σ22.1 663 a0) : Int32).toInt := congrArg Int32.toInt (show σ29.1 663 a0 = (σ22.1 663 a0) from ((kp_c p30_0 (by decide)).trans rfl))
                refine o_ci hw (oRunV cx hA hw q_X11_fine k_m_X11_126 rfl ha0 (by decide) (As := []) (c_X11_fine a0 ha0) (by decide) rfl hl.1 rfl (Nat.le_of_ble_eq_true rfl) dX11_herds_110 (by decide)) (fun v40 σ39 H locs hp hw => ?_)
                obtain ⟨p40_0, p40_1, p40_2⟩ := hp
                rw [p40_0] at hw
                refine lv_if_ne (tgt := 123) hx hb dX11_herds_113 (by decide) (fun c41 => ?_) (fun c41 => ?_)
                · --
                  have i42 : Iv v40 1 1 := iv_ne1 c41 p40_1 (⟨by decide, by decide⟩ : Iv 0 0 0) (by decide)
                  have i43 : Iv (σ22.1 663 a0) (-1) (-1) := (fun h => (by have := nz_ti h; have := (i26).1; have := (i26).2; have := (i33).1; have := (i33).2; have := (p40_1).1; have := (p40_1).2; have := (f48_660_a0).1; have := (f48_660_a0).2; have := (f48_661_a0).1; have := (f48_661_a0).2; have := (f48_655_a0).1; have := (f48_655_a0).2; have := (i17).1; have := (i17).2; have := (i25).1; have := (i25).2; have := (i37).1; have := (i37).2; have := (i4).1; have := (i4).2; have := (i5).1; have := (i5).2; have := (i11).1; have := (i11).2; have := (p7_3).1; have := (p7_3).2; have := (p7_4).1; have := (p7_4).2; have := (p7_5).1; have := (p7_5).2; have := (i16).1; have := (i16).2; have := (i18).1; have := (i18).2; have := (i20).1; have := (i20).2; have := (i21).1; have := (i21).2; have := (i24).1; have := (i24).2; have : (σ29.1 660 a0).toInt = ((σ_48.1 660 a0) : Int32).toInt := congrArg Int32.toInt (show σ29.1 660 a0 = (σ_48.1 660 a0) from ((kp_c p30_0 (by decide)).trans ((kp_c p23_0 (by decide)).trans rfl))); have : (σ29.1 661 a0).toInt = ((σ_48.1 661 a0) : Int32).toInt := congrArg Int32.toInt (show σ29.1 661 a0 = (σ_48.1 661 a0) from ((kp_c p30_0 (by decide)).trans ((kp_c p23_0 (by decide)).trans rfl))); have : (σ29.1 655 a0).toInt = ((σ_48.1 655 a0) : Int32).toInt := congrArg Int32.toInt (show σ29.1 655 a0 = (σ_48.1 655 a0) from ((kp_c p30_0 (by decide)).trans ((kp_c p23_0 (by decide)).trans rfl))); have : (σ29.1 647 a0).toInt = (v17 : Int32).toInt := congrArg Int32.toInt (show σ29.1 647 a0 = v17 from ((kp_c p30_0 (by decide)).trans ((kp_c p23_0 (by decide)).trans e17.symm))); have : (σ29.1 663 a0).toInt = ((σ22.1 663 a0) : Int32).toInt := congrArg Int32.toInt (show σ29.1 663 a0 = (σ22.1 663 a0) from ((kp_c p30_0 (by decide)).trans rfl)); have : (v18 : Int32).toInt ≠ (6 : Int32).toInt := fun q => c19 (Int32.toInt_inj.mp q); have : (v30 : Int32).toInt = (0 : Int32).toInt := congrArg Int32.toInt c32; have : ((σ_48.1 660 a0) : Int32).toInt ≤ ((σ29.1 662 a0) : Int32).toInt := iv_le.mp c36; have : (0 : Int32).toInt = 0 := (by decide); have : (59 : Int32).toInt = 59 := (by decide); have : (6 : Int32).toInt = 6 := (by decide); have : (76 : Int32).toInt = 76 := (by decide); exact ⟨by omega, by omega⟩)) c41
                  refine lv_iconst (v := 0) hx hb dX11_herds_123 (by decide) ?_
                  refine lv_istore_n (lv' := [(3, .int 0), (2, .int v30), (1, .int v26), (0, .ref a0)]) hx hb dX11_herds_124 rfl hl (by decide) rfl (fun ls hl => ?_)
                  have frE_125 := fr
                  have J_125 : ∀ n125 : Nat, ∀ (j125_3 : Int32) (ij125_3 : Iv j125_3 0 6), ∀ (σ_125 : oSt) (H : Heap) (locs : List Loc), oI A L τ cy D s.heap σ_125 H locs → oFr τ fs_X11_herds ts_X11_herds σ σ_125 → Iv (σ_125.1 647 a0) 0 6 → Iv (σ_125.1 655 a0) 0 0 → Iv (σ_125.1 660 a0) 1 80 → Iv (σ_125.1 661 a0) 0 80 → Iv (σ_125.1 662 a0) 1 200 → Iv (σ_125.1 663 a0) (-1) (-1) → σ_125.2.2.2.2 659 a0 = some v2 → (6 - j125_3.toInt).toNat < n125 → ((v26 : Int32).toInt + (σ_125.1 647 a0).toInt ≤ 6 + (j125_3 : Int32).toInt) → ∀ (ls : Array Slot), lv_has ls 4 [(0, .ref a0), (1, .int v26), (2, .int v30), (3, .int j125_3)] → W p l e ({ frames := 4, cells := 0, slots := 0, locals := 87 } : Room) s m args below meth c H locs 0 0 Q (F0 m 125 ls []) := by
                    intro n125
                    induction n125 with
                    | zero => intro j125_3 ij125_3 σ_125 H locs hw fr f125_647_a0 f125_655_a0 f125_660_a0 f125_661_a0 f125_662_a0 f125_663_a0 r125_659  hn_125 h7  ls hl; exact absurd hn_125 (Nat.not_lt_zero _)
                    | succ n125 ih_125 =>
                      intro j125_3 ij125_3 σ_125 H locs hw fr f125_647_a0 f125_655_a0 f125_660_a0 f125_661_a0 f125_662_a0 f125_663_a0 r125_659  hn_125 h7  ls hl
                      have fr_125 := fr
                      refine lv_iload_n hx hb dX11_herds_125 rfl (lv_at hl 3 rfl) ?_
                      refine lv_iload_n hx hb dX11_herds_126 rfl (lv_at hl 1 rfl) ?_
                      refine lv_icmp_ge (tgt := 235) hx hb dX11_herds_127 (by decide) (fun c44 => ?_) (fun c44 => ?_)
                      · --
                        have i45 : Iv j125_3 1 6 := iv_le2 c44 i26 ij125_3 (by decide)
                        refine lv_aload_n hx hb dX11_herds_235 rfl (lv_at hl 0 rfl) ?_
                        refine lv_iconst (v := 0) hx hb dX11_herds_236 (by decide) ?_
                        refine p_672 cx hw ha0 (iv_w (⟨by decide, by decide⟩ : Iv 0 0 0) (by decide)) k_f_X11_168 dX11_herds_237 (fun σ46 H locs eσ46 hw => ?_)
                        have fr := oFr_i fr eσ46 (by decide)
                        refine lv_aload_n hx hb dX11_herds_240 rfl (lv_at hl 0 rfl) ?_
                        refine lv_dup hx hb dX11_herds_241 rfl ?_
                        refine g_681 cx hw ha0 k_f_X11_182 dX11_herds_242 (fun v47 e47 => ?_)
                        have z47 : v47.toInt = (σ46.1 681 a0).toInt := congrArg Int32.toInt e47
                        refine lv_iconst (v := 1) hx hb dX11_herds_245 (by decide) ?_
                        refine lv_iadd hx hb dX11_herds_246 ?_
                        refine lv_topi (fun v48 e48 => ?_)
                        refine p_681 cx hw ha0 k_f_X11_182 dX11_herds_247 (fun σ49 H locs eσ49 hw => ?_)
                        have fr := oFr_i fr eσ49 (by decide)
                        refine lv_iload_n hx hb dX11_herds_250 rfl (lv_at hl 1 rfl) ?_
                        rw [← hQ]
                        exact o_ri cx rx hw dX11_herds_251 ⟨fr, (iv_w i26 (by decide)), (kn_iv (((kp_i eσ49 (by decide)).trans ((kp_i eσ46 (by decide)).trans rfl))) (iv_w f125_655_a0 (by decide)))⟩
                      · --
                        have i50 : Iv j125_3 0 5 := iv_lt1 (iv_nle c44) ij125_3 i26 (by decide)
                        have i51 : Iv (σ_125.1 647 a0) 0 5 := (by have := (i26).1; have := (i26).2; have := (i33).1; have := (i33).2; have := (i50).1; have := (i50).2; have := (f125_660_a0).1; have := (f125_660_a0).2; have := (f125_661_a0).1; have := (f125_661_a0).2; have := (f125_655_a0).1; have := (f125_655_a0).2; have := (f125_647_a0).1; have := (f125_647_a0).2; have := (f125_663_a0).1; have := (f125_663_a0).2; have := (f125_662_a0).1; have := (f125_662_a0).2; have := (i4).1; have := (i4).2; have := (i5).1; have := (i5).2; have := (i11).1; have := (i11).2; have := (p7_3).1; have := (p7_3).2; have := (p7_4).1; have := (p7_4).2; have := (p7_5).1; have := (p7_5).2; have := (i16).1; have := (i16).2; have := (i18).1; have := (i18).2; have := (i20).1; have := (i20).2; have := (i21).1; have := (i21).2; have := (i24).1; have := (i24).2; have := (i43).1; have := (i43).2; have := (i37).1; have := (i37).2; have := (i42).1; have := (i42).2; have : (v18 : Int32).toInt ≠ (6 : Int32).toInt := fun q => c19 (Int32.toInt_inj.mp q); have : (v30 : Int32).toInt = (0 : Int32).toInt := congrArg Int32.toInt c32; have : ((σ_48.1 660 a0) : Int32).toInt ≤ ((σ29.1 662 a0) : Int32).toInt := iv_le.mp c36; have : (j125_3 : Int32).toInt < (v26 : Int32).toInt := iv_lt.mp (iv_nle c44); have : (0 : Int32).toInt = 0 := (by decide); have : (59 : Int32).toInt = 59 := (by decide); have : (6 : Int32).toInt = 6 := (by decide); have : (76 : Int32).toInt = 76 := (by decide); exact ⟨by omega, by omega⟩)
                        refine lv_aload_n hx hb dX11_herds_130 rfl (lv_at hl 0 rfl) ?_
                        refine g_648 cx hw ha0 k_f_X11_22 dX11_herds_131 (fun v52 e52 h52 => ?_)
                        refine lv_aload_n hx hb dX11_herds_134 rfl (lv_at hl 0 rfl) ?_
                        refine g_647 cx hw ha0 k_f_X11_105 dX11_herds_135 (fun v53 e53 i53 => ?_)
                        rw [show v53 = (σ_125.1 647 a0) from e53.trans rfl]
                        refine lv_aload_n hx hb dX11_herds_138 rfl (lv_at hl 0 rfl) ?_
                        refine g_666 cx hw ha0 k_f_X11_46 dX11_herds_139 (fun v54 e54 h54 => ?_)
                        refine lv_iconst (v := 3) hx hb dX11_herds_142 (by decide) ?_
                        refine lv_iload_n hx hb dX11_herds_143 rfl (lv_at hl 3 rfl) ?_
                        refine lv_imul hx hb dX11_herds_144 ?_
                        refine lv_topi (fun v55 e55 => ?_)
                        have i55 : Iv v55 0 15 := iv_mul e55 (⟨by decide, by decide⟩ : Iv 3 3 3) i50 (by decide)
                        refine lv_iconst (v := 1) hx hb dX11_herds_145 (by decide) ?_
                        refine lv_iadd hx hb dX11_herds_146 ?_
                        refine lv_topi (fun v56 e56 => ?_)
                        have i56 : Iv v56 1 16 := iv_add e56 i55 (⟨by decide, by decide⟩ : Iv 1 1 1) (by decide)
                        have x56 : v56.toInt = v55.toInt + 1 := ex_add e56 i55 (⟨by decide, by decide⟩ : Iv 1 1 1) (by decide)
                        refine o_iald cx hw h54 (by decide) rfl (iv_in i56 (by decide)) dX11_herds_147 (fun v57 e57 b57 => ?_)
                        refine o_iast cx hw h52 (by decide) rfl (iv_in i51 (by decide)) trivial dX11_herds_148 (fun σ58 H locs eσ58 hw => ?_)
                        have fr := oFr_p fr eσ58 h52 (by decide)
                        refine lv_aload_n hx hb dX11_herds_149 rfl (lv_at hl 0 rfl) ?_
                        refine lv_dup hx hb dX11_herds_150 rfl ?_
                        refine g_649 cx hw ha0 k_f_X11_161 dX11_herds_151 (fun v59 e59 => ?_)
                        have z59 : v59.toInt = (σ58.1 649 a0).toInt := congrArg Int32.toInt e59
                        refine lv_aload_n hx hb dX11_herds_154 rfl (lv_at hl 0 rfl) ?_
                        refine g_666 cx hw ha0 k_f_X11_46 dX11_herds_155 (fun v60 e60 h60 => ?_)
                        rw [show v60 = v54 from Option.some.inj (e60.symm.trans (((kr_p eσ58).trans e54)))]
                        refine lv_iconst (v := 3) hx hb dX11_herds_158 (by decide) ?_
                        refine lv_iload_n hx hb dX11_herds_159 rfl (lv_at hl 3 rfl) ?_
                        refine lv_imul hx hb dX11_herds_160 ?_
                        refine lv_topi (fun v61 e61 => ?_)
                        have i61 : Iv v61 0 15 := iv_mul e61 (⟨by decide, by decide⟩ : Iv 3 3 3) i50 (by decide)
                        refine lv_iconst (v := 2) hx hb dX11_herds_161 (by decide) ?_
                        refine lv_iadd hx hb dX11_herds_162 ?_
                        refine lv_topi (fun v62 e62 => ?_)
                        have i62 : Iv v62 2 17 := iv_add e62 i61 (⟨by decide, by decide⟩ : Iv 2 2 2) (by decide)
                        have x62 : v62.toInt = v61.toInt + 2 := ex_add e62 i61 (⟨by decide, by decide⟩ : Iv 2 2 2) (by decide)
                        refine o_iald cx hw h54 (by decide) rfl (iv_in i62 (by decide)) dX11_herds_163 (fun v63 e63 b63 => ?_)
                        refine lv_aload_n hx hb dX11_herds_164 rfl (lv_at hl 0 rfl) ?_
                        refine g_647 cx hw ha0 k_f_X11_105 dX11_herds_165 (fun v64 e64 i64 => ?_)
                        rw [show v64 = (σ_125.1 647 a0) from e64.trans ((kp_p eσ58).trans rfl)]
                        refine lv_ishl hx hb dX11_herds_168 ?_
                        refine lv_topi (fun v65 e65 => ?_)
                        refine lv_ior hx hb dX11_herds_169 ?_
                        refine lv_topi (fun v66 e66 => ?_)
                        refine p_649 cx hw ha0 k_f_X11_161 dX11_herds_170 (fun σ67 H locs eσ67 hw => ?_)
                        have fr := oFr_i fr eσ67 (by decide)
                        refine lv_aload_n hx hb dX11_herds_173 rfl (lv_at hl 0 rfl) ?_
                        refine g_640 cx hw ha0 k_f_X11_9 dX11_herds_174 (fun v68 e68 h68 => ?_)
                        refine lv_sipush (v := 320) hx hb dX11_herds_177 (by decide) ?_
                        refine lv_aload_n hx hb dX11_herds_180 rfl (lv_at hl 0 rfl) ?_
                        refine g_647 cx hw ha0 k_f_X11_105 dX11_herds_181 (fun v69 e69 i69 => ?_)
                        rw [show v69 = (σ_125.1 647 a0) from e69.trans ((kp_i eσ67 (by decide)).trans ((kp_p eσ58).trans rfl))]
                        refine lv_iadd hx hb dX11_herds_184 ?_
                        refine lv_topi (fun v70 e70 => ?_)
                        have i70 : Iv v70 320 325 := iv_add e70 (⟨by decide, by decide⟩ : Iv 320 320 320) i51 (by decide)
                        have x70 : v70.toInt = (σ_125.1 647 a0).toInt + 320 := (ex_add e70 (⟨by decide, by decide⟩ : Iv 320 320 320) i51 (by decide)).trans (Int.add_comm _ _)
                        refine lv_aload_n hx hb dX11_herds_185 rfl (lv_at hl 0 rfl) ?_
                        refine g_666 cx hw ha0 k_f_X11_46 dX11_herds_186 (fun v71 e71 h71 => ?_)
                        rw [show v71 = v54 from Option.some.inj (e71.symm.trans (((kr_i eσ67).trans ((kr_p eσ58).trans e54))))]
                        refine lv_iconst (v := 3) hx hb dX11_herds_189 (by decide) ?_
                        refine lv_iload_n hx hb dX11_herds_190 rfl (lv_at hl 3 rfl) ?_
                        refine lv_imul hx hb dX11_herds_191 ?_
                        refine lv_topi (fun v72 e72 => ?_)
                        have i72 : Iv v72 0 15 := iv_mul e72 (⟨by decide, by decide⟩ : Iv 3 3 3) i50 (by decide)
                        refine o_iald cx hw h54 (by decide) rfl (iv_in i72 (by decide)) dX11_herds_192 (fun v73 e73 b73 => ?_)
                        have i73 : Iv v73 0 63 := b73 (by have q1 := nat_of i72 (by decide); have q2 := ex_mul e72 (⟨by decide, by decide⟩ : Iv 3 3 3) i50 (by decide); have q3 : (3 : Int32).toInt = 3 := (by decide); rw [q3] at q2; omega)
                        refine o_iast cx hw h68 (by decide) rfl (iv_in i70 (by decide)) (fun _ _ => iv_w i73 (by decide)) dX11_herds_193 (fun σ74 H locs eσ74 hw => ?_)
                        have fr := oFr_p fr eσ74 h68 (by decide)
                        refine lv_aload_n hx hb dX11_herds_194 rfl (lv_at hl 0 rfl) ?_
                        refine g_640 cx hw ha0 k_f_X11_9 dX11_herds_195 (fun v75 e75 h75 => ?_)
                        rw [show v75 = v68 from Option.some.inj (e75.symm.trans (((kr_p eσ74).trans e68)))]
                        refine lv_sipush (v := 326) hx hb dX11_herds_198 (by decide) ?_
                        refine lv_aload_n hx hb dX11_herds_201 rfl (lv_at hl 0 rfl) ?_
                        refine g_647 cx hw ha0 k_f_X11_105 dX11_herds_202 (fun v76 e76 i76 => ?_)
                        rw [show v76 = (σ_125.1 647 a0) from e76.trans ((kp_p eσ74).trans ((kp_i eσ67 (by decide)).trans ((kp_p eσ58).trans rfl)))]
                        refine lv_iadd hx hb dX11_herds_205 ?_
                        refine lv_topi (fun v77 e77 => ?_)
                        have i77 : Iv v77 326 331 := iv_add e77 (⟨by decide, by decide⟩ : Iv 326 326 326) i51 (by decide)
                        have x77 : v77.toInt = (σ_125.1 647 a0).toInt + 326 := (ex_add e77 (⟨by decide, by decide⟩ : Iv 326 326 326) i51 (by decide)).trans (Int.add_comm _ _)
                        refine lv_iconst (v := 1) hx hb dX11_herds_206 (by decide) ?_
                        refine o_iast cx hw h68 (by decide) rfl (iv_in i77 (by decide)) (fun _ _ => iv_w (⟨by decide, by decide⟩ : Iv 1 1 1) (by decide)) dX11_herds_207 (fun σ78 H locs eσ78 hw => ?_)
                        have fr := oFr_p fr eσ78 h68 (by decide)
                        refine lv_aload_n hx hb dX11_herds_208 rfl (lv_at hl 0 rfl) ?_
                        refine g_640 cx hw ha0 k_f_X11_9 dX11_herds_209 (fun v79 e79 h79 => ?_)
                        rw [show v79 = v68 from Option.some.inj (e79.symm.trans (((kr_p eσ78).trans ((kr_p eσ74).trans e68))))]
                        refine lv_aload_n hx hb dX11_herds_212 rfl (lv_at hl 0 rfl) ?_
                        refine g_647 cx hw ha0 k_f_X11_105 dX11_herds_213 (fun v80 e80 i80 => ?_)
                        rw [show v80 = (σ_125.1 647 a0) from e80.trans ((kp_p eσ78).trans ((kp_p eσ74).trans ((kp_i eσ67 (by decide)).trans ((kp_p eσ58).trans rfl))))]
                        refine o_cv hw (oRunS cx hA hw q_X11_tread k_m_X11_178 (As := [.ref v68, .int (σ_125.1 647 a0)]) (c_X11_tread v68 h68 (σ_125.1 647 a0) (iv_w i51 (by decide))) (by decide) rfl hl.1 rfl (Nat.le_of_ble_eq_true rfl) dX11_herds_216 (by decide)) (fun σ81 H locs hp hw => ?_)
                        have p82_0 := hp
                        have fr := oFr_tr fr p82_0 (by decide)
                        refine lv_aload_n hx hb dX11_herds_219 rfl (lv_at hl 0 rfl) ?_
                        refine lv_dup hx hb dX11_herds_220 rfl ?_
                        refine g_647 cx hw ha0 k_f_X11_105 dX11_herds_221 (fun v83 e83 i83 => ?_)
                        rw [show v83 = (σ_125.1 647 a0) from e83.trans ((kp_c p82_0 (by decide)).trans ((kp_p eσ78).trans ((kp_p eσ74).trans ((kp_i eσ67 (by decide)).trans ((kp_p eσ58).trans rfl)))))]
                        refine lv_iconst (v := 1) hx hb dX11_herds_224 (by decide) ?_
                        refine lv_iadd hx hb dX11_herds_225 ?_
                        refine lv_topi (fun v84 e84 => ?_)
                        have i84 : Iv v84 1 6 := iv_add e84 i51 (⟨by decide, by decide⟩ : Iv 1 1 1) (by decide)
                        have x84 : v84.toInt = (σ_125.1 647 a0).toInt + 1 := ex_add e84 i51 (⟨by decide, by decide⟩ : Iv 1 1 1) (by decide)
                        refine p_647 cx hw ha0 (iv_w i84 (by decide)) k_f_X11_105 dX11_herds_226 (fun σ85 H locs eσ85 hw => ?_)
                        have fr := oFr_i fr eσ85 (by decide)
                        obtain ⟨v86, e86⟩ : ∃ y : Int32, y = j125_3 + 1 := ⟨_, rfl⟩
                        have i86 : Iv v86 1 6 := iv_add e86 i50 (⟨by decide, by decide⟩ : Iv 1 1 1) (by decide)
                        have x86 : v86.toInt = j125_3.toInt + 1 := ex_add e86 i50 (⟨by decide, by decide⟩ : Iv 1 1 1) (by decide)
                        refine lv_iinc (v := v86) (lv' := [(3, .int v86), (0, .ref a0), (1, .int v26), (2, .int v30)]) hx hb dX11_herds_229 hl (k := 3) rfl (by rw [e86]; rfl) (by decide) rfl (fun ls hl => ?_)
                        refine lv_goto (tgt := 125) hx hb dX11_herds_232 (by decide) ?_
                        exact ih_125 v86 (iv_w i86 (by decide)) σ85 _ _ hw fr (kn_iv ((kp_s eσ85)) (iv_w i84 (by decide))) (kn_iv (((kp_i eσ85 (by decide)).trans ((kp_c p82_0 (by decide)).trans ((kp_p eσ78).trans ((kp_p eσ74).trans ((kp_i eσ67 (by decide)).trans ((kp_p eσ58).trans rfl))))))) (iv_w f125_655_a0 (by decide))) (kn_iv (((kp_i eσ85 (by decide)).trans ((kp_c p82_0 (by decide)).trans ((kp_p eσ78).trans ((kp_p eσ74).trans ((kp_i eσ67 (by decide)).trans ((kp_p eσ58).trans rfl))))))) (iv_w f125_660_a0 (by decide))) (kn_iv (((kp_i eσ85 (by decide)).trans ((kp_c p82_0 (by decide)).trans ((kp_p eσ78).trans ((kp_p eσ74).trans ((kp_i eσ67 (by decide)).trans ((kp_p eσ58).trans rfl))))))) (iv_w f125_661_a0 (by decide))) (kn_iv (((kp_i eσ85 (by decide)).trans ((kp_c p82_0 (by decide)).trans ((kp_p eσ78).trans ((kp_p eσ74).trans ((kp_i eσ67 (by decide)).trans ((kp_p eσ58).trans rfl))))))) (iv_w f125_662_a0 (by decide))) (kn_iv (((kp_i eσ85 (by decide)).trans ((kp_c p82_0 (by decide)).trans ((kp_p eσ78).trans ((kp_p eσ74).trans ((kp_i eσ67 (by decide)).trans ((kp_p eσ58).trans rfl))))))) (iv_w f125_663_a0 (by decide))) (((kr_i eσ85).trans ((kr_c p82_0 (by decide)).trans ((kr_p eσ78).trans ((kr_p eσ74).trans ((kr_i eσ67).trans ((kr_p eσ58).trans r125_659))))))) (ms_up x86 (by decide) (iv_w (a' := 0) (b' := 6) i86 (by decide)).2 hn_125) (by have := (i26).1; have := (i26).2; have := (i33).1; have := (i33).2; have := (i86).1; have := (i86).2; have := (f125_660_a0).1; have := (f125_660_a0).2; have := (f125_661_a0).1; have := (f125_661_a0).2; have := (f125_655_a0).1; have := (f125_655_a0).2; have := (f125_663_a0).1; have := (f125_663_a0).2; have := (f125_662_a0).1; have := (f125_662_a0).2; have := (i84).1; have := (i84).2; have := (i4).1; have := (i4).2; have := (i5).1; have := (i5).2; have := (i11).1; have := (i11).2; have := (p7_3).1; have := (p7_3).2; have := (p7_4).1; have := (p7_4).2; have := (p7_5).1; have := (p7_5).2; have := (i16).1; have := (i16).2; have := (i18).1; have := (i18).2; have := (i20).1; have := (i20).2; have := (i21).1; have := (i21).2; have := (i24).1; have := (i24).2; have := (i43).1; have := (i43).2; have := (i37).1; have := (i37).2; have := (i42).1; have := (i42).2; have := (i50).1; have := (i50).2; have := (i51).1; have := (i51).2; have := (i55).1; have := (i55).2; have := (i56).1; have := (i56).2; have := (i61).1; have := (i61).2; have := (i62).1; have := (i62).2; have := (i70).1; have := (i70).2; have := (i72).1; have := (i72).2; have := (i73).1; have := (i73).2; have := (i77).1; have := (i77).2; have : (σ85.1 660 a0).toInt = ((σ_125.1 660 a0) : Int32).toInt := congrArg Int32.toInt (show σ85.1 660 a0 = (σ_125.1 660 a0) from ((kp_i eσ85 (by decide)).trans ((kp_c p82_0 (by decide)).trans ((kp_p eσ78).trans ((kp_p eσ74).trans ((kp_i eσ67 (by decide)).trans ((kp_p eσ58).trans rfl))))))); have : (σ85.1 661 a0).toInt = ((σ_125.1 661 a0) : Int32).toInt := congrArg Int32.toInt (show σ85.1 661 a0 = (σ_125.1 661 a0) from ((kp_i eσ85 (by decide)).trans ((kp_c p82_0 (by decide)).trans ((kp_p eσ78).trans ((kp_p eσ74).trans ((kp_i eσ67 (by decide)).trans ((kp_p eσ58).trans rfl))))))); have : (σ85.1 655 a0).toInt = ((σ_125.1 655 a0) : Int32).toInt := congrArg Int32.toInt (show σ85.1 655 a0 = (σ_125.1 655 a0) from ((kp_i eσ85 (by decide)).trans ((kp_c p82_0 (by decide)).trans ((kp_p eσ78).trans ((kp_p eσ74).trans ((kp_i eσ67 (by decide)).trans ((kp_p eσ58).trans rfl))))))); have : (σ85.1 663 a0).toInt = ((σ_125.1 663 a0) : Int32).toInt := congrArg Int32.toInt (show σ85.1 663 a0 = (σ_125.1 663 a0) from ((kp_i eσ85 (by decide)).trans ((kp_c p82_0 (by decide)).trans ((kp_p eσ78).trans ((kp_p eσ74).trans ((kp_i eσ67 (by decide)).trans ((kp_p eσ58).trans rfl))))))); have : (σ85.1 662 a0).toInt = ((σ_125.1 662 a0) : Int32).toInt := congrArg Int32.toInt (show σ85.1 662 a0 = (σ_125.1 662 a0) from ((kp_i eσ85 (by decide)).trans ((kp_c p82_0 (by decide)).trans ((kp_p eσ78).trans ((kp_p eσ74).trans ((kp_i eσ67 (by decide)).trans ((kp_p eσ58).trans rfl))))))); have : (σ85.1 649 a0).toInt = (v66 : Int32).toInt := congrArg Int32.toInt (show σ85.1 649 a0 = v66 from ((kp_i eσ85 (by decide)).trans ((kp_c p82_0 (by decide)).trans ((kp_p eσ78).trans ((kp_p eσ74).trans (kp_s eσ67)))))); have : (σ85.1 647 a0).toInt = (v84 : Int32).toInt := congrArg Int32.toInt (show σ85.1 647 a0 = v84 from (kp_s eσ85)); have : (v18 : Int32).toInt ≠ (6 : Int32).toInt := fun q => c19 (Int32.toInt_inj.mp q); have : (v30 : Int32).toInt = (0 : Int32).toInt := congrArg Int32.toInt c32; have : ((σ_48.1 660 a0) : Int32).toInt ≤ ((σ29.1 662 a0) : Int32).toInt := iv_le.mp c36; have : (j125_3 : Int32).toInt < (v26 : Int32).toInt := iv_lt.mp (iv_nle c44); have : (0 : Int32).toInt = 0 := (by decide); have : (59 : Int32).toInt = 59 := (by decide); have : (6 : Int32).toInt = 6 := (by decide); have : (76 : Int32).toInt = 76 := (by decide); omega) _ (lv_sub hl [1, 2, 3, 0] rfl)
                  exact J_125 _ 0 (iv_w (⟨by decide, by decide⟩ : Iv 0 0 0) (by decide)) σ29 _ _ hw fr (kn_iv (((kp_c p30_0 (by decide)).trans ((kp_c p23_0 (by decide)).trans e17.symm))) (iv_w i17 (by decide))) (kn_iv (((kp_c p30_0 (by decide)).trans ((kp_c p23_0 (by decide)).trans rfl))) (iv_w f48_655_a0 (by decide))) (kn_iv (((kp_c p30_0 (by decide)).trans ((kp_c p23_0 (by decide)).trans rfl))) (iv_w f48_660_a0 (by decide))) (kn_iv (((kp_c p30_0 (by decide)).trans ((kp_c p23_0 (by decide)).trans rfl))) (iv_w f48_661_a0 (by decide))) (kn_iv (rfl) (iv_w i37 (by decide))) (kn_iv (((kp_c p30_0 (by decide)).trans rfl)) (iv_w i43 (by decide))) (((kr_c p30_0 (by decide)).trans ((kr_c p23_0 (by decide)).trans r48_659))) (Nat.lt_succ_self _) (by have := (i26).1; have := (i26).2; have := (i33).1; have := (i33).2; have := (f48_660_a0).1; have := (f48_660_a0).2; have := (f48_661_a0).1; have := (f48_661_a0).2; have := (f48_655_a0).1; have := (f48_655_a0).2; have := (i17).1; have := (i17).2; have := (i43).1; have := (i43).2; have := (i37).1; have := (i37).2; have := (i4).1; have := (i4).2; have := (i5).1; have := (i5).2; have := (i11).1; have := (i11).2; have := (p7_3).1; have := (p7_3).2; have := (p7_4).1; have := (p7_4).2; have := (p7_5).1; have := (p7_5).2; have := (i16).1; have := (i16).2; have := (i18).1; have := (i18).2; have := (i20).1; have := (i20).2; have := (i21).1; have := (i21).2; have := (i24).1; have := (i24).2; have := (i42).1; have := (i42).2; have : (σ29.1 660 a0).toInt = ((σ_48.1 660 a0) : Int32).toInt := congrArg Int32.toInt (show σ29.1 660 a0 = (σ_48.1 660 a0) from ((kp_c p30_0 (by decide)).trans ((kp_c p23_0 (by decide)).trans rfl))); have : (σ29.1 661 a0).toInt = ((σ_48.1 661 a0) : Int32).toInt := congrArg Int32.toInt (show σ29.1 661 a0 = (σ_48.1 661 a0) from ((kp_c p30_0 (by decide)).trans ((kp_c p23_0 (by decide)).trans rfl))); have : (σ29.1 655 a0).toInt = ((σ_48.1 655 a0) : Int32).toInt := congrArg Int32.toInt (show σ29.1 655 a0 = (σ_48.1 655 a0) from ((kp_c p30_0 (by decide)).trans ((kp_c p23_0 (by decide)).trans rfl))); have : (σ29.1 647 a0).toInt = (v17 : Int32).toInt := congrArg Int32.toInt (show σ29.1 647 a0 = v17 from ((kp_c p30_0 (by decide)).trans ((kp_c p23_0 (by decide)).trans e17.symm))); have : (σ29.1 663 a0).toInt = ((σ22.1 663 a0) : Int32).toInt := congrArg Int32.toInt (show σ29.1 663 a0 = (σ22.1 663 a0) from ((kp_c p30_0 (by decide)).trans rfl)); have : (v18 : Int32).toInt ≠ (6 : Int32).toInt := fun q => c19 (Int32.toInt_inj.mp q); have : (v30 : Int32).toInt = (0 : Int32).toInt := congrArg Int32.toInt c32; have : ((σ_48.1 660 a0) : Int32).toInt ≤ ((σ29.1 662 a0) : Int32).toInt := iv_le.mp c36; have : (0 : Int32).toInt = 0 := (by decide); have : (59 : Int32).toInt = 59 := (by decide); have : (6 : Int32).toInt = 6 := (by decide); have : (76 : Int32).toInt = 76 := (by decide); omega) _ (lv_sub hl [3, 2, 1, 0] rfl)
                · --
                  have i87 : Iv (σ22.1 663 a0) 0 200 := (fun h => (by have := z_ti h; have := (i26).1; have := (i26).2; have := (i33).1; have := (i33).2; have := (p40_1).1; have := (p40_1).2; have := (f48_660_a0).1; have := (f48_660_a0).2; have := (f48_661_a0).1; have := (f48_661_a0).2; have := (f48_655_a0).1; have := (f48_655_a0).2; have := (i17).1; have := (i17).2; have := (i25).1; have := (i25).2; have := (i37).1; have := (i37).2; have := (i4).1; have := (i4).2; have := (i5).1; have := (i5).2; have := (i11).1; have := (i11).2; have := (p7_3).1; have := (p7_3).2; have := (p7_4).1; have := (p7_4).2; have := (p7_5).1; have := (p7_5).2; have := (i16).1; have := (i16).2; have := (i18).1; have := (i18).2; have := (i20).1; have := (i20).2; have := (i21).1; have := (i21).2; have := (i24).1; have := (i24).2; have : (σ29.1 660 a0).toInt = ((σ_48.1 660 a0) : Int32).toInt := congrArg Int32.toInt (show σ29.1 660 a0 = (σ_48.1 660 a0) from ((kp_c p30_0 (by decide)).trans ((kp_c p23_0 (by decide)).trans rfl))); have : (σ29.1 661 a0).toInt = ((σ_48.1 661 a0) : Int32).toInt := congrArg Int32.toInt (show σ29.1 661 a0 = (σ_48.1 661 a0) from ((kp_c p30_0 (by decide)).trans ((kp_c p23_0 (by decide)).trans rfl))); have : (σ29.1 655 a0).toInt = ((σ_48.1 655 a0) : Int32).toInt := congrArg Int32.toInt (show σ29.1 655 a0 = (σ_48.1 655 a0) from ((kp_c p30_0 (by decide)).trans ((kp_c p23_0 (by decide)).trans rfl))); have : (σ29.1 647 a0).toInt = (v17 : Int32).toInt := congrArg Int32.toInt (show σ29.1 647 a0 = v17 from ((kp_c p30_0 (by decide)).trans ((kp_c p23_0 (by decide)).trans e17.symm))); have : (σ29.1 663 a0).toInt = ((σ22.1 663 a0) : Int32).toInt := congrArg Int32.toInt (show σ29.1 663 a0 = (σ22.1 663 a0) from ((kp_c p30_0 (by decide)).trans rfl)); have : (v18 : Int32).toInt ≠ (6 : Int32).toInt := fun q => c19 (Int32.toInt_inj.mp q); have : (v30 : Int32).toInt = (0 : Int32).toInt := congrArg Int32.toInt c32; have : ((σ_48.1 660 a0) : Int32).toInt ≤ ((σ29.1 662 a0) : Int32).toInt := iv_le.mp c36; have : (0 : Int32).toInt = 0 := (by decide); have : (59 : Int32).toInt = 59 := (by decide); have : (6 : Int32).toInt = 6 := (by decide); have : (76 : Int32).toInt = 76 := (by decide); exact ⟨by omega, by omega⟩)) c41
                  have i88 : Iv v40 0 0 := iv_eq1 c41 p40_1 (⟨by decide, by decide⟩ : Iv 0 0 0) (by decide)
                  refine lv_iconst (v := (-1)) hx hb dX11_herds_116 (by decide) ?_
                  refine lv_aload_n hx hb dX11_herds_117 rfl (lv_at hl 2 rfl) ?_
                  refine g_663 cx hw ha0 k_f_X11_123 dX11_herds_118 (fun v89 e89 i89 => ?_)
                  rw [show v89 = (σ22.1 663 a0) from e89.trans ((kp_c p30_0 (by decide)).trans rfl)]
                  refine lv_isub hx hb dX11_herds_121 ?_
                  refine lv_topi (fun v90 e90 => ?_)
                  have i90 : Iv v90 (-201) (-1) := iv_sub e90 (⟨by decide, by decide⟩ : Iv (-1) (-1) (-1)) i87 (by decide)
                  rw [← hQ]
                  exact o_ri cx rx hw dX11_herds_122 ⟨fr, (iv_w i90 (by decide)), (kn_iv (((kp_c p30_0 (by decide)).trans ((kp_c p23_0 (by decide)).trans rfl))) (iv_w f48_655_a0 (by decide)))⟩
              · --
                have i91 : Iv (σ29.1 662 a0) 0 79 := iv_lt1 (iv_nle c36) i31 f48_660_a0 (by decide)
                refine lv_aload_n hx hb dX11_herds_101 rfl (lv_at hl 2 rfl) ?_
                refine lv_aload_n hx hb dX11_herds_102 rfl (lv_at hl 2 rfl) ?_
                refine g_662 cx hw ha0 k_f_X11_120 dX11_herds_103 (fun v92 e92 i92 => ?_)
                rw [show v92 = (σ29.1 662 a0) from e92.trans rfl]
                have z93 : (σ29.1 663 a0).toInt = ((σ22.1 663 a0) : Int32).toInt := congrArg Int32.toInt (show σ29.1 663 a0 = (σ22.1 663 a0) from ((kp_c p30_0 (by decide)).trans rfl))
                refine o_cv hw (oRunV cx hA hw q_X11_fault k_m_X11_138 rfl ha0 (by decide) (As := [.int (σ29.1 662 a0)]) (c_X11_fault a0 ha0 (σ29.1 662 a0) (iv_w i91 (by decide))) (by decide) rfl hl.1 rfl (Nat.le_of_ble_eq_true rfl) dX11_herds_106 (by decide)) (fun σ94 H locs hp hw => ?_)
                obtain ⟨p95_0, p95_1⟩ := hp
                have fr := oFr_tr fr p95_0 (by decide)
                have i96 : Iv (σ94.1 663 a0) (-1) 200 := o_fb (j := 663) hw ha0 rfl
                have i97 : Iv (σ94.1 663 a0) 0 200 := (by have := (i26).1; have := (i26).2; have := (i33).1; have := (i33).2; have := (f48_660_a0).1; have := (f48_660_a0).2; have := (f48_661_a0).1; have := (f48_661_a0).2; have := (f48_655_a0).1; have := (f48_655_a0).2; have := (i17).1; have := (i17).2; have := (i91).1; have := (i91).2; have := (i96).1; have := (i96).2; have := (i4).1; have := (i4).2; have := (i5).1; have := (i5).2; have := (i11).1; have := (i11).2; have := (p7_3).1; have := (p7_3).2; have := (p7_4).1; have := (p7_4).2; have := (p7_5).1; have := (p7_5).2; have := (i16).1; have := (i16).2; have := (i18).1; have := (i18).2; have := (i20).1; have := (i20).2; have := (i21).1; have := (i21).2; have := (i24).1; have := (i24).2; have := (i25).1; have := (i25).2; have : (σ94.1 660 a0).toInt = ((σ_48.1 660 a0) : Int32).toInt := congrArg Int32.toInt (show σ94.1 660 a0 = (σ_48.1 660 a0) from ((kp_c p95_0 (by decide)).trans ((kp_c p30_0 (by decide)).trans ((kp_c p23_0 (by decide)).trans rfl)))); have : (σ94.1 661 a0).toInt = ((σ_48.1 661 a0) : Int32).toInt := congrArg Int32.toInt (show σ94.1 661 a0 = (σ_48.1 661 a0) from ((kp_c p95_0 (by decide)).trans ((kp_c p30_0 (by decide)).trans ((kp_c p23_0 (by decide)).trans rfl)))); have : (σ94.1 655 a0).toInt = ((σ_48.1 655 a0) : Int32).toInt := congrArg Int32.toInt (show σ94.1 655 a0 = (σ_48.1 655 a0) from ((kp_c p95_0 (by decide)).trans ((kp_c p30_0 (by decide)).trans ((kp_c p23_0 (by decide)).trans rfl)))); have : (σ94.1 647 a0).toInt = (v17 : Int32).toInt := congrArg Int32.toInt (show σ94.1 647 a0 = v17 from ((kp_c p95_0 (by decide)).trans ((kp_c p30_0 (by decide)).trans ((kp_c p23_0 (by decide)).trans e17.symm)))); have : (σ94.1 662 a0).toInt = ((σ29.1 662 a0) : Int32).toInt := congrArg Int32.toInt (show σ94.1 662 a0 = (σ29.1 662 a0) from ((kp_c p95_0 (by decide)).trans rfl)); have : (v18 : Int32).toInt ≠ (6 : Int32).toInt := fun q => c19 (Int32.toInt_inj.mp q); have : (v30 : Int32).toInt = (0 : Int32).toInt := congrArg Int32.toInt c32; have : ((σ29.1 662 a0) : Int32).toInt < ((σ_48.1 660 a0) : Int32).toInt := iv_lt.mp (iv_nle c36); have : (0 : Int32).toInt = 0 := (by decide); have : (59 : Int32).toInt = 59 := (by decide); have : (6 : Int32).toInt = 6 := (by decide); have : (76 : Int32).toInt = 76 := (by decide); exact ⟨by omega, by omega⟩)
                refine lv_aload_n hx hb dX11_herds_109 rfl (lv_at hl 2 rfl) ?_
                refine o_ci hw (oRunV cx hA hw q_X11_fine k_m_X11_126 rfl ha0 (by decide) (As := []) (c_X11_fine a0 ha0) (by decide) rfl hl.1 rfl (Nat.le_of_ble_eq_true rfl) dX11_herds_110 (by decide)) (fun v99 σ98 H locs hp hw => ?_)
                obtain ⟨p99_0, p99_1, p99_2⟩ := hp
                rw [p99_0] at hw
                have i100 : Iv v99 0 0 := (by have := (i26).1; have := (i26).2; have := (i33).1; have := (i33).2; have := (p99_1).1; have := (p99_1).2; have := (f48_660_a0).1; have := (f48_660_a0).2; have := (f48_661_a0).1; have := (f48_661_a0).2; have := (f48_655_a0).1; have := (f48_655_a0).2; have := (i17).1; have := (i17).2; have := (i91).1; have := (i91).2; have := (i97).1; have := (i97).2; have := (i4).1; have := (i4).2; have := (i5).1; have := (i5).2; have := (i11).1; have := (i11).2; have := (p7_3).1; have := (p7_3).2; have := (p7_4).1; have := (p7_4).2; have := (p7_5).1; have := (p7_5).2; have := (i16).1; have := (i16).2; have := (i18).1; have := (i18).2; have := (i20).1; have := (i20).2; have := (i21).1; have := (i21).2; have := (i24).1; have := (i24).2; have := (i25).1; have := (i25).2; have : (σ94.1 660 a0).toInt = ((σ_48.1 660 a0) : Int32).toInt := congrArg Int32.toInt (show σ94.1 660 a0 = (σ_48.1 660 a0) from ((kp_c p95_0 (by decide)).trans ((kp_c p30_0 (by decide)).trans ((kp_c p23_0 (by decide)).trans rfl)))); have : (σ94.1 661 a0).toInt = ((σ_48.1 661 a0) : Int32).toInt := congrArg Int32.toInt (show σ94.1 661 a0 = (σ_48.1 661 a0) from ((kp_c p95_0 (by decide)).trans ((kp_c p30_0 (by decide)).trans ((kp_c p23_0 (by decide)).trans rfl)))); have : (σ94.1 655 a0).toInt = ((σ_48.1 655 a0) : Int32).toInt := congrArg Int32.toInt (show σ94.1 655 a0 = (σ_48.1 655 a0) from ((kp_c p95_0 (by decide)).trans ((kp_c p30_0 (by decide)).trans ((kp_c p23_0 (by decide)).trans rfl)))); have : (σ94.1 647 a0).toInt = (v17 : Int32).toInt := congrArg Int32.toInt (show σ94.1 647 a0 = v17 from ((kp_c p95_0 (by decide)).trans ((kp_c p30_0 (by decide)).trans ((kp_c p23_0 (by decide)).trans e17.symm)))); have : (σ94.1 662 a0).toInt = ((σ29.1 662 a0) : Int32).toInt := congrArg Int32.toInt (show σ94.1 662 a0 = (σ29.1 662 a0) from ((kp_c p95_0 (by decide)).trans rfl)); have : (v18 : Int32).toInt ≠ (6 : Int32).toInt := fun q => c19 (Int32.toInt_inj.mp q); have : (v30 : Int32).toInt = (0 : Int32).toInt := congrArg Int32.toInt c32; have : ((σ29.1 662 a0) : Int32).toInt < ((σ_48.1 660 a0) : Int32).toInt := iv_lt.mp (iv_nle c36); have : (0 : Int32).toInt = 0 := (by decide); have : (59 : Int32).toInt = 59 := (by decide); have : (6 : Int32).toInt = 6 := (by decide); have : (76 : Int32).toInt = 76 := (by decide); exact ⟨by omega, by omega⟩)
                refine lv_if_ne (tgt := 123) hx hb dX11_herds_113 (by decide) (fun c101 => ?_) (fun c101 => ?_)
                · --
                  exact iv_no (iv_ne1 c101 i100 (⟨by decide, by decide⟩ : Iv 0 0 0) (by decide)) (by decide)
                · --
                  refine lv_iconst (v := (-1)) hx hb dX11_herds_116 (by decide) ?_
                  refine lv_aload_n hx hb dX11_herds_117 rfl (lv_at hl 2 rfl) ?_
                  refine g_663 cx hw ha0 k_f_X11_123 dX11_herds_118 (fun v102 e102 i102 => ?_)
                  rw [show v102 = (σ94.1 663 a0) from e102.trans rfl]
                  refine lv_isub hx hb dX11_herds_121 ?_
                  refine lv_topi (fun v103 e103 => ?_)
                  have i103 : Iv v103 (-201) (-1) := iv_sub e103 (⟨by decide, by decide⟩ : Iv (-1) (-1) (-1)) i97 (by decide)
                  rw [← hQ]
                  exact o_ri cx rx hw dX11_herds_122 ⟨fr, (iv_w i103 (by decide)), (kn_iv (((kp_c p95_0 (by decide)).trans ((kp_c p30_0 (by decide)).trans ((kp_c p23_0 (by decide)).trans rfl)))) (iv_w f48_655_a0 (by decide)))⟩
            · --
              have i104 : Iv v30 1 1 := iv_ne1 c32 p30_1 (⟨by decide, by decide⟩ : Iv 0 0 0) (by decide)
              have i105 : Iv (σ29.1 662 a0) 1 80 := (fun h => kn_iv2 (rfl) (p30_2 h)) c32
              refine lv_aload_n hx hb dX11_herds_41 rfl (lv_at hl 2 rfl) ?_
              have z106 : (σ29.1 663 a0).toInt = ((σ22.1 663 a0) : Int32).toInt := congrArg Int32.toInt (show σ29.1 663 a0 = (σ22.1 663 a0) from ((kp_c p30_0 (by decide)).trans rfl))
              refine o_ci hw (oRunV cx hA hw q_X11_fine k_m_X11_126 rfl ha0 (by decide) (As := []) (c_X11_fine a0 ha0) (by decide) rfl hl.1 rfl (Nat.le_of_ble_eq_true rfl) dX11_herds_42 (by decide)) (fun v108 σ107 H locs hp hw => ?_)
              obtain ⟨p108_0, p108_1, p108_2⟩ := hp
              rw [p108_0] at hw
              refine lv_if_eq (tgt := 90) hx hb dX11_herds_45 (by decide) (fun c109 => ?_) (fun c109 => ?_)
              · --
                have i110 : Iv (σ22.1 663 a0) 0 200 := (fun h => (by have := z_ti h; have := (i26).1; have := (i26).2; have := (i104).1; have := (i104).2; have := (p108_1).1; have := (p108_1).2; have := (f48_660_a0).1; have := (f48_660_a0).2; have := (f48_661_a0).1; have := (f48_661_a0).2; have := (f48_655_a0).1; have := (f48_655_a0).2; have := (i17).1; have := (i17).2; have := (i25).1; have := (i25).2; have := (i105).1; have := (i105).2; have := (i4).1; have := (i4).2; have := (i5).1; have := (i5).2; have := (i11).1; have := (i11).2; have := (p7_3).1; have := (p7_3).2; have := (p7_4).1; have := (p7_4).2; have := (p7_5).1; have := (p7_5).2; have := (i16).1; have := (i16).2; have := (i18).1; have := (i18).2; have := (i20).1; have := (i20).2; have := (i21).1; have := (i21).2; have := (i24).1; have := (i24).2; have : (σ29.1 660 a0).toInt = ((σ_48.1 660 a0) : Int32).toInt := congrArg Int32.toInt (show σ29.1 660 a0 = (σ_48.1 660 a0) from ((kp_c p30_0 (by decide)).trans ((kp_c p23_0 (by decide)).trans rfl))); have : (σ29.1 661 a0).toInt = ((σ_48.1 661 a0) : Int32).toInt := congrArg Int32.toInt (show σ29.1 661 a0 = (σ_48.1 661 a0) from ((kp_c p30_0 (by decide)).trans ((kp_c p23_0 (by decide)).trans rfl))); have : (σ29.1 655 a0).toInt = ((σ_48.1 655 a0) : Int32).toInt := congrArg Int32.toInt (show σ29.1 655 a0 = (σ_48.1 655 a0) from ((kp_c p30_0 (by decide)).trans ((kp_c p23_0 (by decide)).trans rfl))); have : (σ29.1 647 a0).toInt = (v17 : Int32).toInt := congrArg Int32.toInt (show σ29.1 647 a0 = v17 from ((kp_c p30_0 (by decide)).trans ((kp_c p23_0 (by decide)).trans e17.symm))); have : (σ29.1 663 a0).toInt = ((σ22.1 663 a0) : Int32).toInt := congrArg Int32.toInt (show σ29.1 663 a0 = (σ22.1 663 a0) from ((kp_c p30_0 (by decide)).trans rfl)); have : (v18 : Int32).toInt ≠ (6 : Int32).toInt := fun q => c19 (Int32.toInt_inj.mp q); have : (59 : Int32).toInt = 59 := (by decide); have : (6 : Int32).toInt = 6 := (by decide); have : (76 : Int32).toInt = 76 := (by decide); exact ⟨by omega, by omega⟩)) c109
                have i111 : Iv v108 0 0 := iv_eq1 c109 p108_1 (⟨by decide, by decide⟩ : Iv 0 0 0) (by decide)
                refine lv_aload_n hx hb dX11_herds_90 rfl (lv_at hl 2 rfl) ?_
                refine g_662 cx hw ha0 k_f_X11_120 dX11_herds_91 (fun v112 e112 i112 => ?_)
                rw [show v112 = (σ29.1 662 a0) from e112.trans rfl]
                refine lv_aload_n hx hb dX11_herds_94 rfl (lv_at hl 2 rfl) ?_
                refine g_660 cx hw ha0 k_f_X11_114 dX11_herds_95 (fun v113 e113 i113 => ?_)
                rw [show v113 = (σ_48.1 660 a0) from e113.trans ((kp_c p30_0 (by decide)).trans ((kp_c p23_0 (by decide)).trans rfl))]
                refine lv_icmp_ge (tgt := 109) hx hb dX11_herds_98 (by decide) (fun c114 => ?_) (fun c114 => ?_)
                · --
                  refine lv_aload_n hx hb dX11_herds_109 rfl (lv_at hl 2 rfl) ?_
                  have z115 : (σ29.1 663 a0).toInt = ((σ22.1 663 a0) : Int32).toInt := congrArg Int32.toInt (show σ29.1 663 a0 = (σ22.1 663 a0) from ((kp_c p30_0 (by decide)).trans rfl))
                  refine o_ci hw (oRunV cx hA hw q_X11_fine k_m_X11_126 rfl ha0 (by decide) (As := []) (c_X11_fine a0 ha0) (by decide) rfl hl.1 rfl (Nat.le_of_ble_eq_true rfl) dX11_herds_110 (by decide)) (fun v117 σ116 H locs hp hw => ?_)
                  obtain ⟨p117_0, p117_1, p117_2⟩ := hp
                  rw [p117_0] at hw
                  have i118 : Iv v117 0 0 := (by have := (i26).1; have := (i26).2; have := (i104).1; have := (i104).2; have := (p117_1).1; have := (p117_1).2; have := (f48_660_a0).1; have := (f48_660_a0).2; have := (f48_661_a0).1; have := (f48_661_a0).2; have := (f48_655_a0).1; have := (f48_655_a0).2; have := (i17).1; have := (i17).2; have := (i110).1; have := (i110).2; have := (i105).1; have := (i105).2; have := (i4).1; have := (i4).2; have := (i5).1; have := (i5).2; have := (i11).1; have := (i11).2; have := (p7_3).1; have := (p7_3).2; have := (p7_4).1; have := (p7_4).2; have := (p7_5).1; have := (p7_5).2; have := (i16).1; have := (i16).2; have := (i18).1; have := (i18).2; have := (i20).1; have := (i20).2; have := (i21).1; have := (i21).2; have := (i24).1; have := (i24).2; have := (i111).1; have := (i111).2; have : (σ29.1 660 a0).toInt = ((σ_48.1 660 a0) : Int32).toInt := congrArg Int32.toInt (show σ29.1 660 a0 = (σ_48.1 660 a0) from ((kp_c p30_0 (by decide)).trans ((kp_c p23_0 (by decide)).trans rfl))); have : (σ29.1 661 a0).toInt = ((σ_48.1 661 a0) : Int32).toInt := congrArg Int32.toInt (show σ29.1 661 a0 = (σ_48.1 661 a0) from ((kp_c p30_0 (by decide)).trans ((kp_c p23_0 (by decide)).trans rfl))); have : (σ29.1 655 a0).toInt = ((σ_48.1 655 a0) : Int32).toInt := congrArg Int32.toInt (show σ29.1 655 a0 = (σ_48.1 655 a0) from ((kp_c p30_0 (by decide)).trans ((kp_c p23_0 (by decide)).trans rfl))); have : (σ29.1 647 a0).toInt = (v17 : Int32).toInt := congrArg Int32.toInt (show σ29.1 647 a0 = v17 from ((kp_c p30_0 (by decide)).trans ((kp_c p23_0 (by decide)).trans e17.symm))); have : (σ29.1 663 a0).toInt = ((σ22.1 663 a0) : Int32).toInt := congrArg Int32.toInt (show σ29.1 663 a0 = (σ22.1 663 a0) from ((kp_c p30_0 (by decide)).trans rfl)); have : (v18 : Int32).toInt ≠ (6 : Int32).toInt := fun q => c19 (Int32.toInt_inj.mp q); have : (v108 : Int32).toInt = (0 : Int32).toInt := congrArg Int32.toInt c109; have : ((σ_48.1 660 a0) : Int32).toInt ≤ ((σ29.1 662 a0) : Int32).toInt := iv_le.mp c114; have : (0 : Int32).toInt = 0 := (by decide); have : (59 : Int32).toInt = 59 := (by decide); have : (6 : Int32).toInt = 6 := (by decide); have : (76 : Int32).toInt = 76 := (by decide); exact ⟨by omega, by omega⟩)
                  refine lv_if_ne (tgt := 123) hx hb dX11_herds_113 (by decide) (fun c119 => ?_) (fun c119 => ?_)
                  · --
                    exact iv_no (iv_ne1 c119 i118 (⟨by decide, by decide⟩ : Iv 0 0 0) (by decide)) (by decide)
                  · --
                    refine lv_iconst (v := (-1)) hx hb dX11_herds_116 (by decide) ?_
                    refine lv_aload_n hx hb dX11_herds_117 rfl (lv_at hl 2 rfl) ?_
                    refine g_663 cx hw ha0 k_f_X11_123 dX11_herds_118 (fun v120 e120 i120 => ?_)
                    rw [show v120 = (σ22.1 663 a0) from e120.trans ((kp_c p30_0 (by decide)).trans rfl)]
                    refine lv_isub hx hb dX11_herds_121 ?_
                    refine lv_topi (fun v121 e121 => ?_)
                    have i121 : Iv v121 (-201) (-1) := iv_sub e121 (⟨by decide, by decide⟩ : Iv (-1) (-1) (-1)) i110 (by decide)
                    rw [← hQ]
                    exact o_ri cx rx hw dX11_herds_122 ⟨fr, (iv_w i121 (by decide)), (kn_iv (((kp_c p30_0 (by decide)).trans ((kp_c p23_0 (by decide)).trans rfl))) (iv_w f48_655_a0 (by decide)))⟩
                · --
                  have i122 : Iv (σ29.1 662 a0) 1 79 := iv_lt1 (iv_nle c114) i105 f48_660_a0 (by decide)
                  have i123 : Iv (σ_48.1 660 a0) 2 80 := iv_lt2 (iv_nle c114) i105 f48_660_a0 (by decide)
                  refine lv_aload_n hx hb dX11_herds_101 rfl (lv_at hl 2 rfl) ?_
                  refine lv_aload_n hx hb dX11_herds_102 rfl (lv_at hl 2 rfl) ?_
                  refine g_662 cx hw ha0 k_f_X11_120 dX11_herds_103 (fun v124 e124 i124 => ?_)
                  rw [show v124 = (σ29.1 662 a0) from e124.trans rfl]
                  have z125 : (σ29.1 663 a0).toInt = ((σ22.1 663 a0) : Int32).toInt := congrArg Int32.toInt (show σ29.1 663 a0 = (σ22.1 663 a0) from ((kp_c p30_0 (by decide)).trans rfl))
                  refine o_cv hw (oRunV cx hA hw q_X11_fault k_m_X11_138 rfl ha0 (by decide) (As := [.int (σ29.1 662 a0)]) (c_X11_fault a0 ha0 (σ29.1 662 a0) (iv_w i122 (by decide))) (by decide) rfl hl.1 rfl (Nat.le_of_ble_eq_true rfl) dX11_herds_106 (by decide)) (fun σ126 H locs hp hw => ?_)
                  obtain ⟨p127_0, p127_1⟩ := hp
                  have fr := oFr_tr fr p127_0 (by decide)
                  have i128 : Iv (σ126.1 663 a0) (-1) 200 := o_fb (j := 663) hw ha0 rfl
                  have i129 : Iv (σ126.1 663 a0) 0 200 := (by have := (i26).1; have := (i26).2; have := (i104).1; have := (i104).2; have := (i123).1; have := (i123).2; have := (f48_661_a0).1; have := (f48_661_a0).2; have := (f48_655_a0).1; have := (f48_655_a0).2; have := (i17).1; have := (i17).2; have := (i122).1; have := (i122).2; have := (i128).1; have := (i128).2; have := (i4).1; have := (i4).2; have := (i5).1; have := (i5).2; have := (i11).1; have := (i11).2; have := (p7_3).1; have := (p7_3).2; have := (p7_4).1; have := (p7_4).2; have := (p7_5).1; have := (p7_5).2; have := (i16).1; have := (i16).2; have := (i18).1; have := (i18).2; have := (i20).1; have := (i20).2; have := (i21).1; have := (i21).2; have := (i24).1; have := (i24).2; have := (i110).1; have := (i110).2; have := (i111).1; have := (i111).2; have : (σ126.1 660 a0).toInt = ((σ_48.1 660 a0) : Int32).toInt := congrArg Int32.toInt (show σ126.1 660 a0 = (σ_48.1 660 a0) from ((kp_c p127_0 (by decide)).trans ((kp_c p30_0 (by decide)).trans ((kp_c p23_0 (by decide)).trans rfl)))); have : (σ126.1 661 a0).toInt = ((σ_48.1 661 a0) : Int32).toInt := congrArg Int32.toInt (show σ126.1 661 a0 = (σ_48.1 661 a0) from ((kp_c p127_0 (by decide)).trans ((kp_c p30_0 (by decide)).trans ((kp_c p23_0 (by decide)).trans rfl)))); have : (σ126.1 655 a0).toInt = ((σ_48.1 655 a0) : Int32).toInt := congrArg Int32.toInt (show σ126.1 655 a0 = (σ_48.1 655 a0) from ((kp_c p127_0 (by decide)).trans ((kp_c p30_0 (by decide)).trans ((kp_c p23_0 (by decide)).trans rfl)))); have : (σ126.1 647 a0).toInt = (v17 : Int32).toInt := congrArg Int32.toInt (show σ126.1 647 a0 = v17 from ((kp_c p127_0 (by decide)).trans ((kp_c p30_0 (by decide)).trans ((kp_c p23_0 (by decide)).trans e17.symm)))); have : (σ126.1 662 a0).toInt = ((σ29.1 662 a0) : Int32).toInt := congrArg Int32.toInt (show σ126.1 662 a0 = (σ29.1 662 a0) from ((kp_c p127_0 (by decide)).trans rfl)); have : (v18 : Int32).toInt ≠ (6 : Int32).toInt := fun q => c19 (Int32.toInt_inj.mp q); have : (v108 : Int32).toInt = (0 : Int32).toInt := congrArg Int32.toInt c109; have : ((σ29.1 662 a0) : Int32).toInt < ((σ_48.1 660 a0) : Int32).toInt := iv_lt.mp (iv_nle c114); have : (0 : Int32).toInt = 0 := (by decide); have : (59 : Int32).toInt = 59 := (by decide); have : (6 : Int32).toInt = 6 := (by decide); have : (76 : Int32).toInt = 76 := (by decide); exact ⟨by omega, by omega⟩)
                  refine lv_aload_n hx hb dX11_herds_109 rfl (lv_at hl 2 rfl) ?_
                  refine o_ci hw (oRunV cx hA hw q_X11_fine k_m_X11_126 rfl ha0 (by decide) (As := []) (c_X11_fine a0 ha0) (by decide) rfl hl.1 rfl (Nat.le_of_ble_eq_true rfl) dX11_herds_110 (by decide)) (fun v131 σ130 H locs hp hw => ?_)
                  obtain ⟨p131_0, p131_1, p131_2⟩ := hp
                  rw [p131_0] at hw
                  have i132 : Iv v131 0 0 := (by have := (i26).1; have := (i26).2; have := (i104).1; have := (i104).2; have := (p131_1).1; have := (p131_1).2; have := (i123).1; have := (i123).2; have := (f48_661_a0).1; have := (f48_661_a0).2; have := (f48_655_a0).1; have := (f48_655_a0).2; have := (i17).1; have := (i17).2; have := (i122).1; have := (i122).2; have := (i129).1; have := (i129).2; have := (i4).1; have := (i4).2; have := (i5).1; have := (i5).2; have := (i11).1; have := (i11).2; have := (p7_3).1; have := (p7_3).2; have := (p7_4).1; have := (p7_4).2; have := (p7_5).1; have := (p7_5).2; have := (i16).1; have := (i16).2; have := (i18).1; have := (i18).2; have := (i20).1; have := (i20).2; have := (i21).1; have := (i21).2; have := (i24).1; have := (i24).2; have := (i110).1; have := (i110).2; have := (i111).1; have := (i111).2; have : (σ126.1 660 a0).toInt = ((σ_48.1 660 a0) : Int32).toInt := congrArg Int32.toInt (show σ126.1 660 a0 = (σ_48.1 660 a0) from ((kp_c p127_0 (by decide)).trans ((kp_c p30_0 (by decide)).trans ((kp_c p23_0 (by decide)).trans rfl)))); have : (σ126.1 661 a0).toInt = ((σ_48.1 661 a0) : Int32).toInt := congrArg Int32.toInt (show σ126.1 661 a0 = (σ_48.1 661 a0) from ((kp_c p127_0 (by decide)).trans ((kp_c p30_0 (by decide)).trans ((kp_c p23_0 (by decide)).trans rfl)))); have : (σ126.1 655 a0).toInt = ((σ_48.1 655 a0) : Int32).toInt := congrArg Int32.toInt (show σ126.1 655 a0 = (σ_48.1 655 a0) from ((kp_c p127_0 (by decide)).trans ((kp_c p30_0 (by decide)).trans ((kp_c p23_0 (by decide)).trans rfl)))); have : (σ126.1 647 a0).toInt = (v17 : Int32).toInt := congrArg Int32.toInt (show σ126.1 647 a0 = v17 from ((kp_c p127_0 (by decide)).trans ((kp_c p30_0 (by decide)).trans ((kp_c p23_0 (by decide)).trans e17.symm)))); have : (σ126.1 662 a0).toInt = ((σ29.1 662 a0) : Int32).toInt := congrArg Int32.toInt (show σ126.1 662 a0 = (σ29.1 662 a0) from ((kp_c p127_0 (by decide)).trans rfl)); have : (v18 : Int32).toInt ≠ (6 : Int32).toInt := fun q => c19 (Int32.toInt_inj.mp q); have : (v108 : Int32).toInt = (0 : Int32).toInt := congrArg Int32.toInt c109; have : ((σ29.1 662 a0) : Int32).toInt < ((σ_48.1 660 a0) : Int32).toInt := iv_lt.mp (iv_nle c114); have : (0 : Int32).toInt = 0 := (by decide); have : (59 : Int32).toInt = 59 := (by decide); have : (6 : Int32).toInt = 6 := (by decide); have : (76 : Int32).toInt = 76 := (by decide); exact ⟨by omega, by omega⟩)
                  refine lv_if_ne (tgt := 123) hx hb dX11_herds_113 (by decide) (fun c133 => ?_) (fun c133 => ?_)
                  · --
                    exact iv_no (iv_ne1 c133 i132 (⟨by decide, by decide⟩ : Iv 0 0 0) (by decide)) (by decide)
                  · --
                    refine lv_iconst (v := (-1)) hx hb dX11_herds_116 (by decide) ?_
                    refine lv_aload_n hx hb dX11_herds_117 rfl (lv_at hl 2 rfl) ?_
                    refine g_663 cx hw ha0 k_f_X11_123 dX11_herds_118 (fun v134 e134 i134 => ?_)
                    rw [show v134 = (σ126.1 663 a0) from e134.trans rfl]
                    refine lv_isub hx hb dX11_herds_121 ?_
                    refine lv_topi (fun v135 e135 => ?_)
                    have i135 : Iv v135 (-201) (-1) := iv_sub e135 (⟨by decide, by decide⟩ : Iv (-1) (-1) (-1)) i129 (by decide)
                    rw [← hQ]
                    exact o_ri cx rx hw dX11_herds_122 ⟨fr, (iv_w i135 (by decide)), (kn_iv (((kp_c p127_0 (by decide)).trans ((kp_c p30_0 (by decide)).trans ((kp_c p23_0 (by decide)).trans rfl)))) (iv_w f48_655_a0 (by decide)))⟩
              · --
                have i136 : Iv v108 1 1 := iv_ne1 c109 p108_1 (⟨by decide, by decide⟩ : Iv 0 0 0) (by decide)
                have i137 : Iv (σ22.1 663 a0) (-1) (-1) := (fun h => (by have := nz_ti h; have := (i26).1; have := (i26).2; have := (i104).1; have := (i104).2; have := (p108_1).1; have := (p108_1).2; have := (f48_660_a0).1; have := (f48_660_a0).2; have := (f48_661_a0).1; have := (f48_661_a0).2; have := (f48_655_a0).1; have := (f48_655_a0).2; have := (i17).1; have := (i17).2; have := (i25).1; have := (i25).2; have := (i105).1; have := (i105).2; have := (i4).1; have := (i4).2; have := (i5).1; have := (i5).2; have := (i11).1; have := (i11).2; have := (p7_3).1; have := (p7_3).2; have := (p7_4).1; have := (p7_4).2; have := (p7_5).1; have := (p7_5).2; have := (i16).1; have := (i16).2; have := (i18).1; have := (i18).2; have := (i20).1; have := (i20).2; have := (i21).1; have := (i21).2; have := (i24).1; have := (i24).2; have : (σ29.1 660 a0).toInt = ((σ_48.1 660 a0) : Int32).toInt := congrArg Int32.toInt (show σ29.1 660 a0 = (σ_48.1 660 a0) from ((kp_c p30_0 (by decide)).trans ((kp_c p23_0 (by decide)).trans rfl))); have : (σ29.1 661 a0).toInt = ((σ_48.1 661 a0) : Int32).toInt := congrArg Int32.toInt (show σ29.1 661 a0 = (σ_48.1 661 a0) from ((kp_c p30_0 (by decide)).trans ((kp_c p23_0 (by decide)).trans rfl))); have : (σ29.1 655 a0).toInt = ((σ_48.1 655 a0) : Int32).toInt := congrArg Int32.toInt (show σ29.1 655 a0 = (σ_48.1 655 a0) from ((kp_c p30_0 (by decide)).trans ((kp_c p23_0 (by decide)).trans rfl))); have : (σ29.1 647 a0).toInt = (v17 : Int32).toInt := congrArg Int32.toInt (show σ29.1 647 a0 = v17 from ((kp_c p30_0 (by decide)).trans ((kp_c p23_0 (by decide)).trans e17.symm))); have : (σ29.1 663 a0).toInt = ((σ22.1 663 a0) : Int32).toInt := congrArg Int32.toInt (show σ29.1 663 a0 = (σ22.1 663 a0) from ((kp_c p30_0 (by decide)).trans rfl)); have : (v18 : Int32).toInt ≠ (6 : Int32).toInt := fun q => c19 (Int32.toInt_inj.mp q); have : (59 : Int32).toInt = 59 := (by decide); have : (6 : Int32).toInt = 6 := (by decide); have : (76 : Int32).toInt = 76 := (by decide); exact ⟨by omega, by omega⟩)) c109
                exact ih_48 v26 (iv_w i26 (by decide)) v30 i104 σ29 _ _ hw fr (kn_iv (((kp_c p30_0 (by decide)).trans ((kp_c p23_0 (by decide)).trans rfl))) (iv_w f48_655_a0 (by decide))) (kn_iv (((kp_c p30_0 (by decide)).trans ((kp_c p23_0 (by decide)).trans rfl))) (iv_w f48_660_a0 (by decide))) (kn_iv (((kp_c p30_0 (by decide)).trans ((kp_c p23_0 (by decide)).trans rfl))) (iv_w f48_661_a0 (by decide))) (kn_iv (rfl) (iv_w i105 (by decide))) (kn_iv (((kp_c p30_0 (by decide)).trans rfl)) (iv_w i137 (by decide))) (((kr_c p30_0 (by decide)).trans ((kr_c p23_0 (by decide)).trans r48_659))) (ms_up x26 (by decide) (iv_w (a' := 0) (b' := 6) i26 (by decide)).2 hn_48) (by have q9 : Iv (σ29.1 647 a0) 0 6 := o_fb (j := 647) hw ha0 rfl; have := q9.1; have := q9.2; have := (i26).1; have := (i26).2; have := (i104).1; have := (i104).2; have := (f48_660_a0).1; have := (f48_660_a0).2; have := (f48_661_a0).1; have := (f48_661_a0).2; have := (f48_655_a0).1; have := (f48_655_a0).2; have := (i17).1; have := (i17).2; have := (i137).1; have := (i137).2; have := (i105).1; have := (i105).2; have := (i4).1; have := (i4).2; have := (i5).1; have := (i5).2; have := (i11).1; have := (i11).2; have := (p7_3).1; have := (p7_3).2; have := (p7_4).1; have := (p7_4).2; have := (p7_5).1; have := (p7_5).2; have := (i16).1; have := (i16).2; have := (i18).1; have := (i18).2; have := (i20).1; have := (i20).2; have := (i21).1; have := (i21).2; have := (i24).1; have := (i24).2; have := (i136).1; have := (i136).2; have : (σ29.1 660 a0).toInt = ((σ_48.1 660 a0) : Int32).toInt := congrArg Int32.toInt (show σ29.1 660 a0 = (σ_48.1 660 a0) from ((kp_c p30_0 (by decide)).trans ((kp_c p23_0 (by decide)).trans rfl))); have : (σ29.1 661 a0).toInt = ((σ_48.1 661 a0) : Int32).toInt := congrArg Int32.toInt (show σ29.1 661 a0 = (σ_48.1 661 a0) from ((kp_c p30_0 (by decide)).trans ((kp_c p23_0 (by decide)).trans rfl))); have : (σ29.1 655 a0).toInt = ((σ_48.1 655 a0) : Int32).toInt := congrArg Int32.toInt (show σ29.1 655 a0 = (σ_48.1 655 a0) from ((kp_c p30_0 (by decide)).trans ((kp_c p23_0 (by decide)).trans rfl))); have : (σ29.1 647 a0).toInt = (v17 : Int32).toInt := congrArg Int32.toInt (show σ29.1 647 a0 = v17 from ((kp_c p30_0 (by decide)).trans ((kp_c p23_0 (by decide)).trans e17.symm))); have : (σ29.1 663 a0).toInt = ((σ22.1 663 a0) : Int32).toInt := congrArg Int32.toInt (show σ29.1 663 a0 = (σ22.1 663 a0) from ((kp_c p30_0 (by decide)).trans rfl)); have : (v18 : Int32).toInt ≠ (6 : Int32).toInt := fun q => c19 (Int32.toInt_inj.mp q); have : (59 : Int32).toInt = 59 := (by decide); have : (6 : Int32).toInt = 6 := (by decide); have : (76 : Int32).toInt = 76 := (by decide); omega) _ (lv_sub hl [2, 1, 0] rfl)
          · --
            have i138 : Iv v18 6 6 := iv_eq1 c19 i18 (⟨by decide, by decide⟩ : Iv 6 6 6) (by decide)
            refine lv_aload_n hx hb dX11_herds_59 rfl (lv_at hl 0 rfl) ?_
            refine lv_aload_n hx hb dX11_herds_60 rfl (lv_at hl 0 rfl) ?_
            refine g_662 cx hw ha0 k_f_X11_120 dX11_herds_61 (fun v139 e139 i139 => ?_)
            rw [show v139 = (σ_48.1 662 a0) from e139.trans rfl]
            refine o_cv hw (oRunV cx hA hw q_X11_fault k_m_X11_138 rfl ha0 (by decide) (As := [.int (σ_48.1 662 a0)]) (c_X11_fault a0 ha0 (σ_48.1 662 a0) (iv_w f48_662_a0 (by decide))) (by decide) rfl hl.1 rfl (Nat.le_of_ble_eq_true rfl) dX11_herds_64 (by decide)) (fun σ140 H locs hp hw => ?_)
            obtain ⟨p141_0, p141_1⟩ := hp
            have fr := oFr_tr fr p141_0 (by decide)
            have i142 : Iv (σ140.1 663 a0) (-1) 200 := o_fb (j := 663) hw ha0 rfl
            have i143 : Iv (σ140.1 663 a0) 0 200 := (by have := (ij48_1).1; have := (ij48_1).2; have := (ij48_2).1; have := (ij48_2).2; have := (f48_660_a0).1; have := (f48_660_a0).2; have := (f48_661_a0).1; have := (f48_661_a0).2; have := (f48_662_a0).1; have := (f48_662_a0).2; have := (f48_655_a0).1; have := (f48_655_a0).2; have := (i17).1; have := (i17).2; have := (i142).1; have := (i142).2; have := (i4).1; have := (i4).2; have := (i5).1; have := (i5).2; have := (i11).1; have := (i11).2; have := (p7_3).1; have := (p7_3).2; have := (p7_4).1; have := (p7_4).2; have := (p7_5).1; have := (p7_5).2; have := (i16).1; have := (i16).2; have := (i138).1; have := (i138).2; have : (σ140.1 660 a0).toInt = ((σ_48.1 660 a0) : Int32).toInt := congrArg Int32.toInt (show σ140.1 660 a0 = (σ_48.1 660 a0) from ((kp_c p141_0 (by decide)).trans rfl)); have : (σ140.1 661 a0).toInt = ((σ_48.1 661 a0) : Int32).toInt := congrArg Int32.toInt (show σ140.1 661 a0 = (σ_48.1 661 a0) from ((kp_c p141_0 (by decide)).trans rfl)); have : (σ140.1 662 a0).toInt = ((σ_48.1 662 a0) : Int32).toInt := congrArg Int32.toInt (show σ140.1 662 a0 = (σ_48.1 662 a0) from ((kp_c p141_0 (by decide)).trans rfl)); have : (σ140.1 655 a0).toInt = ((σ_48.1 655 a0) : Int32).toInt := congrArg Int32.toInt (show σ140.1 655 a0 = (σ_48.1 655 a0) from ((kp_c p141_0 (by decide)).trans rfl)); have : (σ140.1 647 a0).toInt = (v17 : Int32).toInt := congrArg Int32.toInt (show σ140.1 647 a0 = v17 from ((kp_c p141_0 (by decide)).trans e17.symm)); have : (v18 : Int32).toInt = (6 : Int32).toInt := congrArg Int32.toInt c19; have : (6 : Int32).toInt = 6 := (by decide); have : (76 : Int32).toInt = 76 := (by decide); exact ⟨by omega, by omega⟩)
            refine lv_goto (tgt := 77) hx hb dX11_herds_67 (by decide) ?_
            obtain ⟨v144, e144⟩ : ∃ y : Int32, y = j48_1 + 1 := ⟨_, rfl⟩
            have i144 : Iv v144 1 7 := iv_add e144 ij48_1 (⟨by decide, by decide⟩ : Iv 1 1 1) (by decide)
            have x144 : v144.toInt = j48_1.toInt + 1 := ex_add e144 ij48_1 (⟨by decide, by decide⟩ : Iv 1 1 1) (by decide)
            refine lv_iinc (v := v144) (lv' := [(1, .int v144), (0, .ref a0), (2, .int j48_2)]) hx hb dX11_herds_77 hl (k := 1) rfl (by rw [e144]; rfl) (by decide) rfl (fun ls hl => ?_)
            refine lv_aload_n hx hb dX11_herds_80 rfl (lv_at hl 1 rfl) ?_
            refine lv_bipush (v := 59) hx hb dX11_herds_81 (by decide) ?_
            have z145 : (σ140.1 662 a0).toInt = ((σ_48.1 662 a0) : Int32).toInt := congrArg Int32.toInt (show σ140.1 662 a0 = (σ_48.1 662 a0) from ((kp_c p141_0 (by decide)).trans rfl))
            have z146 : (σ140.1 660 a0).toInt = ((σ_48.1 660 a0) : Int32).toInt := congrArg Int32.toInt (show σ140.1 660 a0 = (σ_48.1 660 a0) from ((kp_c p141_0 (by decide)).trans rfl))
            have z147 : (σ140.1 661 a0).toInt = ((σ_48.1 661 a0) : Int32).toInt := congrArg Int32.toInt (show σ140.1 661 a0 = (σ_48.1 661 a0) from ((kp_c p141_0 (by decide)).trans rfl))
            refine o_ci hw (oRunV cx hA hw q_X11_passes k_m_X11_134 rfl ha0 (by decide) (As := [.int 59]) (c_X11_passesT a0 ha0 59 (iv_w (⟨by decide, by decide⟩ : Iv 59 59 59) (by decide)) v2 (((kr_c p141_0 (by decide)).trans r48_659)) h2 (kn_iv (((kp_c p141_0 (by decide)).trans rfl)) (iv_w f48_660_a0 (by decide)))) (by decide) rfl hl.1 rfl (Nat.le_of_ble_eq_true rfl) dX11_herds_83 (by decide)) (fun v149 σ148 H locs hp hw => ?_)
            obtain ⟨p149_0, p149_1, p149_2, p149_3, p149_4⟩ := hp
            have fr := oFr_tr fr p149_0 (by decide)
            have i150 : Iv (σ148.1 662 a0) 0 200 := o_fb (j := 662) hw ha0 rfl
            refine lv_istore_n (lv' := [(2, .int v149), (1, .int v144), (0, .ref a0)]) hx hb dX11_herds_86 rfl hl (by decide) rfl (fun ls hl => ?_)
            refine lv_goto (tgt := 37) hx hb dX11_herds_87 (by decide) ?_
            refine lv_iload_n hx hb dX11_herds_37 rfl (lv_at hl 0 rfl) ?_
            refine lv_if_eq (tgt := 90) hx hb dX11_herds_38 (by decide) (fun c151 => ?_) (fun c151 => ?_)
            · --
              have i152 : Iv v149 0 0 := iv_eq1 c151 p149_1 (⟨by decide, by decide⟩ : Iv 0 0 0) (by decide)
              refine lv_aload_n hx hb dX11_herds_90 rfl (lv_at hl 2 rfl) ?_
              refine g_662 cx hw ha0 k_f_X11_120 dX11_herds_91 (fun v153 e153 i153 => ?_)
              rw [show v153 = (σ148.1 662 a0) from e153.trans rfl]
              refine lv_aload_n hx hb dX11_herds_94 rfl (lv_at hl 2 rfl) ?_
              refine g_660 cx hw ha0 k_f_X11_114 dX11_herds_95 (fun v154 e154 i154 => ?_)
              rw [show v154 = (σ_48.1 660 a0) from e154.trans ((kp_c p149_0 (by decide)).trans ((kp_c p141_0 (by decide)).trans rfl))]
              refine lv_icmp_ge (tgt := 109) hx hb dX11_herds_98 (by decide) (fun c155 => ?_) (fun c155 => ?_)
              · --
                have i156 : Iv (σ148.1 662 a0) 1 200 := iv_le2 c155 f48_660_a0 i150 (by decide)
                refine lv_aload_n hx hb dX11_herds_109 rfl (lv_at hl 2 rfl) ?_
                have z157 : (σ148.1 663 a0).toInt = ((σ140.1 663 a0) : Int32).toInt := congrArg Int32.toInt (show σ148.1 663 a0 = (σ140.1 663 a0) from ((kp_c p149_0 (by decide)).trans rfl))
                refine o_ci hw (oRunV cx hA hw q_X11_fine k_m_X11_126 rfl ha0 (by decide) (As := []) (c_X11_fine a0 ha0) (by decide) rfl hl.1 rfl (Nat.le_of_ble_eq_true rfl) dX11_herds_110 (by decide)) (fun v159 σ158 H locs hp hw => ?_)
                obtain ⟨p159_0, p159_1, p159_2⟩ := hp
                rw [p159_0] at hw
                have i160 : Iv v159 0 0 := (by have := (i144).1; have := (i144).2; have := (i152).1; have := (i152).2; have := (p159_1).1; have := (p159_1).2; have := (f48_660_a0).1; have := (f48_660_a0).2; have := (f48_661_a0).1; have := (f48_661_a0).2; have := (f48_655_a0).1; have := (f48_655_a0).2; have := (i17).1; have := (i17).2; have := (i143).1; have := (i143).2; have := (i156).1; have := (i156).2; have := (i4).1; have := (i4).2; have := (i5).1; have := (i5).2; have := (i11).1; have := (i11).2; have := (p7_3).1; have := (p7_3).2; have := (p7_4).1; have := (p7_4).2; have := (p7_5).1; have := (p7_5).2; have := (i16).1; have := (i16).2; have := (i138).1; have := (i138).2; have : (σ148.1 660 a0).toInt = ((σ_48.1 660 a0) : Int32).toInt := congrArg Int32.toInt (show σ148.1 660 a0 = (σ_48.1 660 a0) from ((kp_c p149_0 (by decide)).trans ((kp_c p141_0 (by decide)).trans rfl))); have : (σ148.1 661 a0).toInt = ((σ_48.1 661 a0) : Int32).toInt := congrArg Int32.toInt (show σ148.1 661 a0 = (σ_48.1 661 a0) from ((kp_c p149_0 (by decide)).trans ((kp_c p141_0 (by decide)).trans rfl))); have : (σ148.1 655 a0).toInt = ((σ_48.1 655 a0) : Int32).toInt := congrArg Int32.toInt (show σ148.1 655 a0 = (σ_48.1 655 a0) from ((kp_c p149_0 (by decide)).trans ((kp_c p141_0 (by decide)).trans rfl))); have : (σ148.1 647 a0).toInt = (v17 : Int32).toInt := congrArg Int32.toInt (show σ148.1 647 a0 = v17 from ((kp_c p149_0 (by decide)).trans ((kp_c p141_0 (by decide)).trans e17.symm))); have : (σ148.1 663 a0).toInt = ((σ140.1 663 a0) : Int32).toInt := congrArg Int32.toInt (show σ148.1 663 a0 = (σ140.1 663 a0) from ((kp_c p149_0 (by decide)).trans rfl)); have : (v18 : Int32).toInt = (6 : Int32).toInt := congrArg Int32.toInt c19; have : (v149 : Int32).toInt = (0 : Int32).toInt := congrArg Int32.toInt c151; have : ((σ_48.1 660 a0) : Int32).toInt ≤ ((σ148.1 662 a0) : Int32).toInt := iv_le.mp c155; have : (0 : Int32).toInt = 0 := (by decide); have : (59 : Int32).toInt = 59 := (by decide); have : (6 : Int32).toInt = 6 := (by decide); have : (76 : Int32).toInt = 76 := (by decide); exact ⟨by omega, by omega⟩)
                refine lv_if_ne (tgt := 123) hx hb dX11_herds_113 (by decide) (fun c161 => ?_) (fun c161 => ?_)
                · --
                  exact iv_no (iv_ne1 c161 i160 (⟨by decide, by decide⟩ : Iv 0 0 0) (by decide)) (by decide)
                · --
                  refine lv_iconst (v := (-1)) hx hb dX11_herds_116 (by decide) ?_
                  refine lv_aload_n hx hb dX11_herds_117 rfl (lv_at hl 2 rfl) ?_
                  refine g_663 cx hw ha0 k_f_X11_123 dX11_herds_118 (fun v162 e162 i162 => ?_)
                  rw [show v162 = (σ140.1 663 a0) from e162.trans ((kp_c p149_0 (by decide)).trans rfl)]
                  refine lv_isub hx hb dX11_herds_121 ?_
                  refine lv_topi (fun v163 e163 => ?_)
                  have i163 : Iv v163 (-201) (-1) := iv_sub e163 (⟨by decide, by decide⟩ : Iv (-1) (-1) (-1)) i143 (by decide)
                  rw [← hQ]
                  exact o_ri cx rx hw dX11_herds_122 ⟨fr, (iv_w i163 (by decide)), (kn_iv (((kp_c p149_0 (by decide)).trans ((kp_c p141_0 (by decide)).trans rfl))) (iv_w f48_655_a0 (by decide)))⟩
              · --
                have i164 : Iv (σ148.1 662 a0) 0 79 := iv_lt1 (iv_nle c155) i150 f48_660_a0 (by decide)
                refine lv_aload_n hx hb dX11_herds_101 rfl (lv_at hl 2 rfl) ?_
                refine lv_aload_n hx hb dX11_herds_102 rfl (lv_at hl 2 rfl) ?_
                refine g_662 cx hw ha0 k_f_X11_120 dX11_herds_103 (fun v165 e165 i165 => ?_)
                rw [show v165 = (σ148.1 662 a0) from e165.trans rfl]
                have z166 : (σ148.1 663 a0).toInt = ((σ140.1 663 a0) : Int32).toInt := congrArg Int32.toInt (show σ148.1 663 a0 = (σ140.1 663 a0) from ((kp_c p149_0 (by decide)).trans rfl))
                refine o_cv hw (oRunV cx hA hw q_X11_fault k_m_X11_138 rfl ha0 (by decide) (As := [.int (σ148.1 662 a0)]) (c_X11_fault a0 ha0 (σ148.1 662 a0) (iv_w i164 (by decide))) (by decide) rfl hl.1 rfl (Nat.le_of_ble_eq_true rfl) dX11_herds_106 (by decide)) (fun σ167 H locs hp hw => ?_)
                obtain ⟨p168_0, p168_1⟩ := hp
                have fr := oFr_tr fr p168_0 (by decide)
                have i169 : Iv (σ167.1 663 a0) (-1) 200 := o_fb (j := 663) hw ha0 rfl
                have i170 : Iv (σ167.1 663 a0) 0 200 := (by have := (i144).1; have := (i144).2; have := (i152).1; have := (i152).2; have := (f48_660_a0).1; have := (f48_660_a0).2; have := (f48_661_a0).1; have := (f48_661_a0).2; have := (f48_655_a0).1; have := (f48_655_a0).2; have := (i17).1; have := (i17).2; have := (i164).1; have := (i164).2; have := (i169).1; have := (i169).2; have := (i4).1; have := (i4).2; have := (i5).1; have := (i5).2; have := (i11).1; have := (i11).2; have := (p7_3).1; have := (p7_3).2; have := (p7_4).1; have := (p7_4).2; have := (p7_5).1; have := (p7_5).2; have := (i16).1; have := (i16).2; have := (i138).1; have := (i138).2; have := (i143).1; have := (i143).2; have : (σ167.1 660 a0).toInt = ((σ_48.1 660 a0) : Int32).toInt := congrArg Int32.toInt (show σ167.1 660 a0 = (σ_48.1 660 a0) from ((kp_c p168_0 (by decide)).trans ((kp_c p149_0 (by decide)).trans ((kp_c p141_0 (by decide)).trans rfl)))); have : (σ167.1 661 a0).toInt = ((σ_48.1 661 a0) : Int32).toInt := congrArg Int32.toInt (show σ167.1 661 a0 = (σ_48.1 661 a0) from ((kp_c p168_0 (by decide)).trans ((kp_c p149_0 (by decide)).trans ((kp_c p141_0 (by decide)).trans rfl)))); have : (σ167.1 655 a0).toInt = ((σ_48.1 655 a0) : Int32).toInt := congrArg Int32.toInt (show σ167.1 655 a0 = (σ_48.1 655 a0) from ((kp_c p168_0 (by decide)).trans ((kp_c p149_0 (by decide)).trans ((kp_c p141_0 (by decide)).trans rfl)))); have : (σ167.1 647 a0).toInt = (v17 : Int32).toInt := congrArg Int32.toInt (show σ167.1 647 a0 = v17 from ((kp_c p168_0 (by decide)).trans ((kp_c p149_0 (by decide)).trans ((kp_c p141_0 (by decide)).trans e17.symm)))); have : (σ167.1 662 a0).toInt = ((σ148.1 662 a0) : Int32).toInt := congrArg Int32.toInt (show σ167.1 662 a0 = (σ148.1 662 a0) from ((kp_c p168_0 (by decide)).trans rfl)); have : (v18 : Int32).toInt = (6 : Int32).toInt := congrArg Int32.toInt c19; have : (v149 : Int32).toInt = (0 : Int32).toInt := congrArg Int32.toInt c151; have : ((σ148.1 662 a0) : Int32).toInt < ((σ_48.1 660 a0) : Int32).toInt := iv_lt.mp (iv_nle c155); have : (0 : Int32).toInt = 0 := (by decide); have : (59 : Int32).toInt = 59 := (by decide); have : (6 : Int32).toInt = 6 := (by decide); have : (76 : Int32).toInt = 76 := (by decide); exact ⟨by omega, by omega⟩)
                refine lv_aload_n hx hb dX11_herds_109 rfl (lv_at hl 2 rfl) ?_
                refine o_ci hw (oRunV cx hA hw q_X11_fine k_m_X11_126 rfl ha0 (by decide) (As := []) (c_X11_fine a0 ha0) (by decide) rfl hl.1 rfl (Nat.le_of_ble_eq_true rfl) dX11_herds_110 (by decide)) (fun v172 σ171 H locs hp hw => ?_)
                obtain ⟨p172_0, p172_1, p172_2⟩ := hp
                rw [p172_0] at hw
                have i173 : Iv v172 0 0 := (by have := (i144).1; have := (i144).2; have := (i152).1; have := (i152).2; have := (p172_1).1; have := (p172_1).2; have := (f48_660_a0).1; have := (f48_660_a0).2; have := (f48_661_a0).1; have := (f48_661_a0).2; have := (f48_655_a0).1; have := (f48_655_a0).2; have := (i17).1; have := (i17).2; have := (i164).1; have := (i164).2; have := (i170).1; have := (i170).2; have := (i4).1; have := (i4).2; have := (i5).1; have := (i5).2; have := (i11).1; have := (i11).2; have := (p7_3).1; have := (p7_3).2; have := (p7_4).1; have := (p7_4).2; have := (p7_5).1; have := (p7_5).2; have := (i16).1; have := (i16).2; have := (i138).1; have := (i138).2; have := (i143).1; have := (i143).2; have : (σ167.1 660 a0).toInt = ((σ_48.1 660 a0) : Int32).toInt := congrArg Int32.toInt (show σ167.1 660 a0 = (σ_48.1 660 a0) from ((kp_c p168_0 (by decide)).trans ((kp_c p149_0 (by decide)).trans ((kp_c p141_0 (by decide)).trans rfl)))); have : (σ167.1 661 a0).toInt = ((σ_48.1 661 a0) : Int32).toInt := congrArg Int32.toInt (show σ167.1 661 a0 = (σ_48.1 661 a0) from ((kp_c p168_0 (by decide)).trans ((kp_c p149_0 (by decide)).trans ((kp_c p141_0 (by decide)).trans rfl)))); have : (σ167.1 655 a0).toInt = ((σ_48.1 655 a0) : Int32).toInt := congrArg Int32.toInt (show σ167.1 655 a0 = (σ_48.1 655 a0) from ((kp_c p168_0 (by decide)).trans ((kp_c p149_0 (by decide)).trans ((kp_c p141_0 (by decide)).trans rfl)))); have : (σ167.1 647 a0).toInt = (v17 : Int32).toInt := congrArg Int32.toInt (show σ167.1 647 a0 = v17 from ((kp_c p168_0 (by decide)).trans ((kp_c p149_0 (by decide)).trans ((kp_c p141_0 (by decide)).trans e17.symm)))); have : (σ167.1 662 a0).toInt = ((σ148.1 662 a0) : Int32).toInt := congrArg Int32.toInt (show σ167.1 662 a0 = (σ148.1 662 a0) from ((kp_c p168_0 (by decide)).trans rfl)); have : (v18 : Int32).toInt = (6 : Int32).toInt := congrArg Int32.toInt c19; have : (v149 : Int32).toInt = (0 : Int32).toInt := congrArg Int32.toInt c151; have : ((σ148.1 662 a0) : Int32).toInt < ((σ_48.1 660 a0) : Int32).toInt := iv_lt.mp (iv_nle c155); have : (0 : Int32).toInt = 0 := (by decide); have : (59 : Int32).toInt = 59 := (by decide); have : (6 : Int32).toInt = 6 := (by decide); have : (76 : Int32).toInt = 76 := (by decide); exact ⟨by omega, by omega⟩)
                refine lv_if_ne (tgt := 123) hx hb dX11_herds_113 (by decide) (fun c174 => ?_) (fun c174 => ?_)
                · --
                  exact iv_no (iv_ne1 c174 i173 (⟨by decide, by decide⟩ : Iv 0 0 0) (by decide)) (by decide)
                · --
                  refine lv_iconst (v := (-1)) hx hb dX11_herds_116 (by decide) ?_
                  refine lv_aload_n hx hb dX11_herds_117 rfl (lv_at hl 2 rfl) ?_
                  refine g_663 cx hw ha0 k_f_X11_123 dX11_herds_118 (fun v175 e175 i175 => ?_)
                  rw [show v175 = (σ167.1 663 a0) from e175.trans rfl]
                  refine lv_isub hx hb dX11_herds_121 ?_
                  refine lv_topi (fun v176 e176 => ?_)
                  have i176 : Iv v176 (-201) (-1) := iv_sub e176 (⟨by decide, by decide⟩ : Iv (-1) (-1) (-1)) i170 (by decide)
                  rw [← hQ]
                  exact o_ri cx rx hw dX11_herds_122 ⟨fr, (iv_w i176 (by decide)), (kn_iv (((kp_c p168_0 (by decide)).trans ((kp_c p149_0 (by decide)).trans ((kp_c p141_0 (by decide)).trans rfl)))) (iv_w f48_655_a0 (by decide)))⟩
            · --
              have i177 : Iv v149 1 1 := iv_ne1 c151 p149_1 (⟨by decide, by decide⟩ : Iv 0 0 0) (by decide)
              have i178 : Iv (σ148.1 662 a0) 1 80 := (fun h => kn_iv2 (rfl) (p149_2 h)) c151
              refine lv_aload_n hx hb dX11_herds_41 rfl (lv_at hl 2 rfl) ?_
              have z179 : (σ148.1 663 a0).toInt = ((σ140.1 663 a0) : Int32).toInt := congrArg Int32.toInt (show σ148.1 663 a0 = (σ140.1 663 a0) from ((kp_c p149_0 (by decide)).trans rfl))
              refine o_ci hw (oRunV cx hA hw q_X11_fine k_m_X11_126 rfl ha0 (by decide) (As := []) (c_X11_fine a0 ha0) (by decide) rfl hl.1 rfl (Nat.le_of_ble_eq_true rfl) dX11_herds_42 (by decide)) (fun v181 σ180 H locs hp hw => ?_)
              obtain ⟨p181_0, p181_1, p181_2⟩ := hp
              rw [p181_0] at hw
              have i182 : Iv v181 0 0 := (by have := (i144).1; have := (i144).2; have := (i177).1; have := (i177).2; have := (p181_1).1; have := (p181_1).2; have := (f48_660_a0).1; have := (f48_660_a0).2; have := (f48_661_a0).1; have := (f48_661_a0).2; have := (f48_655_a0).1; have := (f48_655_a0).2; have := (i17).1; have := (i17).2; have := (i143).1; have := (i143).2; have := (i178).1; have := (i178).2; have := (i4).1; have := (i4).2; have := (i5).1; have := (i5).2; have := (i11).1; have := (i11).2; have := (p7_3).1; have := (p7_3).2; have := (p7_4).1; have := (p7_4).2; have := (p7_5).1; have := (p7_5).2; have := (i16).1; have := (i16).2; have := (i138).1; have := (i138).2; have : (σ148.1 660 a0).toInt = ((σ_48.1 660 a0) : Int32).toInt := congrArg Int32.toInt (show σ148.1 660 a0 = (σ_48.1 660 a0) from ((kp_c p149_0 (by decide)).trans ((kp_c p141_0 (by decide)).trans rfl))); have : (σ148.1 661 a0).toInt = ((σ_48.1 661 a0) : Int32).toInt := congrArg Int32.toInt (show σ148.1 661 a0 = (σ_48.1 661 a0) from ((kp_c p149_0 (by decide)).trans ((kp_c p141_0 (by decide)).trans rfl))); have : (σ148.1 655 a0).toInt = ((σ_48.1 655 a0) : Int32).toInt := congrArg Int32.toInt (show σ148.1 655 a0 = (σ_48.1 655 a0) from ((kp_c p149_0 (by decide)).trans ((kp_c p141_0 (by decide)).trans rfl))); have : (σ148.1 647 a0).toInt = (v17 : Int32).toInt := congrArg Int32.toInt (show σ148.1 647 a0 = v17 from ((kp_c p149_0 (by decide)).trans ((kp_c p141_0 (by decide)).trans e17.symm))); have : (σ148.1 663 a0).toInt = ((σ140.1 663 a0) : Int32).toInt := congrArg Int32.toInt (show σ148.1 663 a0 = (σ140.1 663 a0) from ((kp_c p149_0 (by decide)).trans rfl)); have : (v18 : Int32).toInt = (6 : Int32).toInt := congrArg Int32.toInt c19; have : (59 : Int32).toInt = 59 := (by decide); have : (6 : Int32).toInt = 6 := (by decide); have : (76 : Int32).toInt = 76 := (by decide); exact ⟨by omega, by omega⟩)
              refine lv_if_eq (tgt := 90) hx hb dX11_herds_45 (by decide) (fun c183 => ?_) (fun c183 => ?_)
              · --
                refine lv_aload_n hx hb dX11_herds_90 rfl (lv_at hl 2 rfl) ?_
                refine g_662 cx hw ha0 k_f_X11_120 dX11_herds_91 (fun v184 e184 i184 => ?_)
                rw [show v184 = (σ148.1 662 a0) from e184.trans rfl]
                refine lv_aload_n hx hb dX11_herds_94 rfl (lv_at hl 2 rfl) ?_
                refine g_660 cx hw ha0 k_f_X11_114 dX11_herds_95 (fun v185 e185 i185 => ?_)
                rw [show v185 = (σ_48.1 660 a0) from e185.trans ((kp_c p149_0 (by decide)).trans ((kp_c p141_0 (by decide)).trans rfl))]
                refine lv_icmp_ge (tgt := 109) hx hb dX11_herds_98 (by decide) (fun c186 => ?_) (fun c186 => ?_)
                · --
                  refine lv_aload_n hx hb dX11_herds_109 rfl (lv_at hl 2 rfl) ?_
                  have z187 : (σ148.1 663 a0).toInt = ((σ140.1 663 a0) : Int32).toInt := congrArg Int32.toInt (show σ148.1 663 a0 = (σ140.1 663 a0) from ((kp_c p149_0 (by decide)).trans rfl))
                  refine o_ci hw (oRunV cx hA hw q_X11_fine k_m_X11_126 rfl ha0 (by decide) (As := []) (c_X11_fine a0 ha0) (by decide) rfl hl.1 rfl (Nat.le_of_ble_eq_true rfl) dX11_herds_110 (by decide)) (fun v189 σ188 H locs hp hw => ?_)
                  obtain ⟨p189_0, p189_1, p189_2⟩ := hp
                  rw [p189_0] at hw
                  have i190 : Iv v189 0 0 := (by have := (i144).1; have := (i144).2; have := (i177).1; have := (i177).2; have := (p189_1).1; have := (p189_1).2; have := (f48_660_a0).1; have := (f48_660_a0).2; have := (f48_661_a0).1; have := (f48_661_a0).2; have := (f48_655_a0).1; have := (f48_655_a0).2; have := (i17).1; have := (i17).2; have := (i143).1; have := (i143).2; have := (i178).1; have := (i178).2; have := (i4).1; have := (i4).2; have := (i5).1; have := (i5).2; have := (i11).1; have := (i11).2; have := (p7_3).1; have := (p7_3).2; have := (p7_4).1; have := (p7_4).2; have := (p7_5).1; have := (p7_5).2; have := (i16).1; have := (i16).2; have := (i138).1; have := (i138).2; have := (i182).1; have := (i182).2; have : (σ148.1 660 a0).toInt = ((σ_48.1 660 a0) : Int32).toInt := congrArg Int32.toInt (show σ148.1 660 a0 = (σ_48.1 660 a0) from ((kp_c p149_0 (by decide)).trans ((kp_c p141_0 (by decide)).trans rfl))); have : (σ148.1 661 a0).toInt = ((σ_48.1 661 a0) : Int32).toInt := congrArg Int32.toInt (show σ148.1 661 a0 = (σ_48.1 661 a0) from ((kp_c p149_0 (by decide)).trans ((kp_c p141_0 (by decide)).trans rfl))); have : (σ148.1 655 a0).toInt = ((σ_48.1 655 a0) : Int32).toInt := congrArg Int32.toInt (show σ148.1 655 a0 = (σ_48.1 655 a0) from ((kp_c p149_0 (by decide)).trans ((kp_c p141_0 (by decide)).trans rfl))); have : (σ148.1 647 a0).toInt = (v17 : Int32).toInt := congrArg Int32.toInt (show σ148.1 647 a0 = v17 from ((kp_c p149_0 (by decide)).trans ((kp_c p141_0 (by decide)).trans e17.symm))); have : (σ148.1 663 a0).toInt = ((σ140.1 663 a0) : Int32).toInt := congrArg Int32.toInt (show σ148.1 663 a0 = (σ140.1 663 a0) from ((kp_c p149_0 (by decide)).trans rfl)); have : (v18 : Int32).toInt = (6 : Int32).toInt := congrArg Int32.toInt c19; have : (v181 : Int32).toInt = (0 : Int32).toInt := congrArg Int32.toInt c183; have : ((σ_48.1 660 a0) : Int32).toInt ≤ ((σ148.1 662 a0) : Int32).toInt := iv_le.mp c186; have : (0 : Int32).toInt = 0 := (by decide); have : (59 : Int32).toInt = 59 := (by decide); have : (6 : Int32).toInt = 6 := (by decide); have : (76 : Int32).toInt = 76 := (by decide); exact ⟨by omega, by omega⟩)
                  refine lv_if_ne (tgt := 123) hx hb dX11_herds_113 (by decide) (fun c191 => ?_) (fun c191 => ?_)
                  · --
                    exact iv_no (iv_ne1 c191 i190 (⟨by decide, by decide⟩ : Iv 0 0 0) (by decide)) (by decide)
                  · --
                    refine lv_iconst (v := (-1)) hx hb dX11_herds_116 (by decide) ?_
                    refine lv_aload_n hx hb dX11_herds_117 rfl (lv_at hl 2 rfl) ?_
                    refine g_663 cx hw ha0 k_f_X11_123 dX11_herds_118 (fun v192 e192 i192 => ?_)
                    rw [show v192 = (σ140.1 663 a0) from e192.trans ((kp_c p149_0 (by decide)).trans rfl)]
                    refine lv_isub hx hb dX11_herds_121 ?_
                    refine lv_topi (fun v193 e193 => ?_)
                    have i193 : Iv v193 (-201) (-1) := iv_sub e193 (⟨by decide, by decide⟩ : Iv (-1) (-1) (-1)) i143 (by decide)
                    rw [← hQ]
                    exact o_ri cx rx hw dX11_herds_122 ⟨fr, (iv_w i193 (by decide)), (kn_iv (((kp_c p149_0 (by decide)).trans ((kp_c p141_0 (by decide)).trans rfl))) (iv_w f48_655_a0 (by decide)))⟩
                · --
                  have i194 : Iv (σ148.1 662 a0) 1 79 := iv_lt1 (iv_nle c186) i178 f48_660_a0 (by decide)
                  have i195 : Iv (σ_48.1 660 a0) 2 80 := iv_lt2 (iv_nle c186) i178 f48_660_a0 (by decide)
                  refine lv_aload_n hx hb dX11_herds_101 rfl (lv_at hl 2 rfl) ?_
                  refine lv_aload_n hx hb dX11_herds_102 rfl (lv_at hl 2 rfl) ?_
                  refine g_662 cx hw ha0 k_f_X11_120 dX11_herds_103 (fun v196 e196 i196 => ?_)
                  rw [show v196 = (σ148.1 662 a0) from e196.trans rfl]
                  have z197 : (σ148.1 663 a0).toInt = ((σ140.1 663 a0) : Int32).toInt := congrArg Int32.toInt (show σ148.1 663 a0 = (σ140.1 663 a0) from ((kp_c p149_0 (by decide)).trans rfl))
                  refine o_cv hw (oRunV cx hA hw q_X11_fault k_m_X11_138 rfl ha0 (by decide) (As := [.int (σ148.1 662 a0)]) (c_X11_fault a0 ha0 (σ148.1 662 a0) (iv_w i194 (by decide))) (by decide) rfl hl.1 rfl (Nat.le_of_ble_eq_true rfl) dX11_herds_106 (by decide)) (fun σ198 H locs hp hw => ?_)
                  obtain ⟨p199_0, p199_1⟩ := hp
                  have fr := oFr_tr fr p199_0 (by decide)
                  have i200 : Iv (σ198.1 663 a0) (-1) 200 := o_fb (j := 663) hw ha0 rfl
                  have i201 : Iv (σ198.1 663 a0) 0 200 := (by have := (i144).1; have := (i144).2; have := (i177).1; have := (i177).2; have := (i195).1; have := (i195).2; have := (f48_661_a0).1; have := (f48_661_a0).2; have := (f48_655_a0).1; have := (f48_655_a0).2; have := (i17).1; have := (i17).2; have := (i194).1; have := (i194).2; have := (i200).1; have := (i200).2; have := (i4).1; have := (i4).2; have := (i5).1; have := (i5).2; have := (i11).1; have := (i11).2; have := (p7_3).1; have := (p7_3).2; have := (p7_4).1; have := (p7_4).2; have := (p7_5).1; have := (p7_5).2; have := (i16).1; have := (i16).2; have := (i138).1; have := (i138).2; have := (i143).1; have := (i143).2; have := (i182).1; have := (i182).2; have : (σ198.1 660 a0).toInt = ((σ_48.1 660 a0) : Int32).toInt := congrArg Int32.toInt (show σ198.1 660 a0 = (σ_48.1 660 a0) from ((kp_c p199_0 (by decide)).trans ((kp_c p149_0 (by decide)).trans ((kp_c p141_0 (by decide)).trans rfl)))); have : (σ198.1 661 a0).toInt = ((σ_48.1 661 a0) : Int32).toInt := congrArg Int32.toInt (show σ198.1 661 a0 = (σ_48.1 661 a0) from ((kp_c p199_0 (by decide)).trans ((kp_c p149_0 (by decide)).trans ((kp_c p141_0 (by decide)).trans rfl)))); have : (σ198.1 655 a0).toInt = ((σ_48.1 655 a0) : Int32).toInt := congrArg Int32.toInt (show σ198.1 655 a0 = (σ_48.1 655 a0) from ((kp_c p199_0 (by decide)).trans ((kp_c p149_0 (by decide)).trans ((kp_c p141_0 (by decide)).trans rfl)))); have : (σ198.1 647 a0).toInt = (v17 : Int32).toInt := congrArg Int32.toInt (show σ198.1 647 a0 = v17 from ((kp_c p199_0 (by decide)).trans ((kp_c p149_0 (by decide)).trans ((kp_c p141_0 (by decide)).trans e17.symm)))); have : (σ198.1 662 a0).toInt = ((σ148.1 662 a0) : Int32).toInt := congrArg Int32.toInt (show σ198.1 662 a0 = (σ148.1 662 a0) from ((kp_c p199_0 (by decide)).trans rfl)); have : (v18 : Int32).toInt = (6 : Int32).toInt := congrArg Int32.toInt c19; have : (v181 : Int32).toInt = (0 : Int32).toInt := congrArg Int32.toInt c183; have : ((σ148.1 662 a0) : Int32).toInt < ((σ_48.1 660 a0) : Int32).toInt := iv_lt.mp (iv_nle c186); have : (0 : Int32).toInt = 0 := (by decide); have : (59 : Int32).toInt = 59 := (by decide); have : (6 : Int32).toInt = 6 := (by decide); have : (76 : Int32).toInt = 76 := (by decide); exact ⟨by omega, by omega⟩)
                  refine lv_aload_n hx hb dX11_herds_109 rfl (lv_at hl 2 rfl) ?_
                  refine o_ci hw (oRunV cx hA hw q_X11_fine k_m_X11_126 rfl ha0 (by decide) (As := []) (c_X11_fine a0 ha0) (by decide) rfl hl.1 rfl (Nat.le_of_ble_eq_true rfl) dX11_herds_110 (by decide)) (fun v203 σ202 H locs hp hw => ?_)
                  obtain ⟨p203_0, p203_1, p203_2⟩ := hp
                  rw [p203_0] at hw
                  have i204 : Iv v203 0 0 := (by have := (i144).1; have := (i144).2; have := (i177).1; have := (i177).2; have := (p203_1).1; have := (p203_1).2; have := (i195).1; have := (i195).2; have := (f48_661_a0).1; have := (f48_661_a0).2; have := (f48_655_a0).1; have := (f48_655_a0).2; have := (i17).1; have := (i17).2; have := (i194).1; have := (i194).2; have := (i201).1; have := (i201).2; have := (i4).1; have := (i4).2; have := (i5).1; have := (i5).2; have := (i11).1; have := (i11).2; have := (p7_3).1; have := (p7_3).2; have := (p7_4).1; have := (p7_4).2; have := (p7_5).1; have := (p7_5).2; have := (i16).1; have := (i16).2; have := (i138).1; have := (i138).2; have := (i143).1; have := (i143).2; have := (i182).1; have := (i182).2; have : (σ198.1 660 a0).toInt = ((σ_48.1 660 a0) : Int32).toInt := congrArg Int32.toInt (show σ198.1 660 a0 = (σ_48.1 660 a0) from ((kp_c p199_0 (by decide)).trans ((kp_c p149_0 (by decide)).trans ((kp_c p141_0 (by decide)).trans rfl)))); have : (σ198.1 661 a0).toInt = ((σ_48.1 661 a0) : Int32).toInt := congrArg Int32.toInt (show σ198.1 661 a0 = (σ_48.1 661 a0) from ((kp_c p199_0 (by decide)).trans ((kp_c p149_0 (by decide)).trans ((kp_c p141_0 (by decide)).trans rfl)))); have : (σ198.1 655 a0).toInt = ((σ_48.1 655 a0) : Int32).toInt := congrArg Int32.toInt (show σ198.1 655 a0 = (σ_48.1 655 a0) from ((kp_c p199_0 (by decide)).trans ((kp_c p149_0 (by decide)).trans ((kp_c p141_0 (by decide)).trans rfl)))); have : (σ198.1 647 a0).toInt = (v17 : Int32).toInt := congrArg Int32.toInt (show σ198.1 647 a0 = v17 from ((kp_c p199_0 (by decide)).trans ((kp_c p149_0 (by decide)).trans ((kp_c p141_0 (by decide)).trans e17.symm)))); have : (σ198.1 662 a0).toInt = ((σ148.1 662 a0) : Int32).toInt := congrArg Int32.toInt (show σ198.1 662 a0 = (σ148.1 662 a0) from ((kp_c p199_0 (by decide)).trans rfl)); have : (v18 : Int32).toInt = (6 : Int32).toInt := congrArg Int32.toInt c19; have : (v181 : Int32).toInt = (0 : Int32).toInt := congrArg Int32.toInt c183; have : ((σ148.1 662 a0) : Int32).toInt < ((σ_48.1 660 a0) : Int32).toInt := iv_lt.mp (iv_nle c186); have : (0 : Int32).toInt = 0 := (by decide); have : (59 : Int32).toInt = 59 := (by decide); have : (6 : Int32).toInt = 6 := (by decide); have : (76 : Int32).toInt = 76 := (by decide); exact ⟨by omega, by omega⟩)
                  refine lv_if_ne (tgt := 123) hx hb dX11_herds_113 (by decide) (fun c205 => ?_) (fun c205 => ?_)
                  · --
                    exact iv_no (iv_ne1 c205 i204 (⟨by decide, by decide⟩ : Iv 0 0 0) (by decide)) (by decide)
                  · --
                    refine lv_iconst (v := (-1)) hx hb dX11_herds_116 (by decide) ?_
                    refine lv_aload_n hx hb dX11_herds_117 rfl (lv_at hl 2 rfl) ?_
                    refine g_663 cx hw ha0 k_f_X11_123 dX11_herds_118 (fun v206 e206 i206 => ?_)
                    rw [show v206 = (σ198.1 663 a0) from e206.trans rfl]
                    refine lv_isub hx hb dX11_herds_121 ?_
                    refine lv_topi (fun v207 e207 => ?_)
                    have i207 : Iv v207 (-201) (-1) := iv_sub e207 (⟨by decide, by decide⟩ : Iv (-1) (-1) (-1)) i201 (by decide)
                    rw [← hQ]
                    exact o_ri cx rx hw dX11_herds_122 ⟨fr, (iv_w i207 (by decide)), (kn_iv (((kp_c p199_0 (by decide)).trans ((kp_c p149_0 (by decide)).trans ((kp_c p141_0 (by decide)).trans rfl)))) (iv_w f48_655_a0 (by decide)))⟩
              · --
                exact iv_no (iv_ne1 c183 i182 (⟨by decide, by decide⟩ : Iv 0 0 0) (by decide)) (by decide)
      refine lv_if_eq (tgt := 90) hx hb dX11_herds_45 (by decide) (fun c208 => ?_) (fun c208 => ?_)
      · --
        exact iv_no (iv_eq1 (lo := 1) (hi := 0) c208 i16 (⟨by decide, by decide⟩ : Iv 0 0 0) (by decide)) (by decide)
      · --
        exact J_48 _ 0 (iv_w (⟨by decide, by decide⟩ : Iv 0 0 0) (by decide)) 1 (⟨by decide, by decide⟩ : Iv 1 1 1) σ8 _ _ hw fr (kn_iv ((kp_s eσ8)) (iv_w (⟨by decide, by decide⟩ : Iv 0 0 0) (by decide))) (kn_iv (((kp_i eσ8 (by decide)).trans rfl)) (iv_w i11 (by decide))) (kn_iv (((kp_i eσ8 (by decide)).trans rfl)) (iv_w p7_3 (by decide))) (kn_iv (((kp_i eσ8 (by decide)).trans rfl)) (iv_w p7_4 (by decide))) (kn_iv (((kp_i eσ8 (by decide)).trans rfl)) (iv_w p7_5 (by decide))) (((kr_i eσ8).trans p7_1)) (Nat.lt_succ_self _) (by have q9 : Iv (σ8.1 647 a0) 0 6 := o_fb (j := 647) hw ha0 rfl; have := q9.1; have := q9.2; have := (i11).1; have := (i11).2; have := (p7_3).1; have := (p7_3).2; have := (p7_4).1; have := (p7_4).2; have := (p7_5).1; have := (p7_5).2; have := (i4).1; have := (i4).2; have := (i5).1; have := (i5).2; have := (i16).1; have := (i16).2; have : (σ8.1 658 a0).toInt = (0 : Int32).toInt := congrArg Int32.toInt (show σ8.1 658 a0 = 0 from ((kp_i eσ8 (by decide)).trans ((kp_c p7_0 (by decide)).trans (kp_s eσ1)))); have : (σ8.1 660 a0).toInt = ((σ6.1 660 a0) : Int32).toInt := congrArg Int32.toInt (show σ8.1 660 a0 = (σ6.1 660 a0) from ((kp_i eσ8 (by decide)).trans rfl)); have : (σ8.1 661 a0).toInt = ((σ6.1 661 a0) : Int32).toInt := congrArg Int32.toInt (show σ8.1 661 a0 = (σ6.1 661 a0) from ((kp_i eσ8 (by decide)).trans rfl)); have : (σ8.1 662 a0).toInt = ((σ6.1 662 a0) : Int32).toInt := congrArg Int32.toInt (show σ8.1 662 a0 = (σ6.1 662 a0) from ((kp_i eσ8 (by decide)).trans rfl)); have : (σ8.1 663 a0).toInt = ((σ6.1 663 a0) : Int32).toInt := congrArg Int32.toInt (show σ8.1 663 a0 = (σ6.1 663 a0) from ((kp_i eσ8 (by decide)).trans rfl)); have : (σ8.1 655 a0).toInt = (0 : Int32).toInt := congrArg Int32.toInt (show σ8.1 655 a0 = 0 from (kp_s eσ8)); have : (0 : Int32).toInt = 0 := (by decide); have : (1 : Int32).toInt = 1 := (by decide); have : (76 : Int32).toInt = 76 := (by decide); omega) _ (lv_sub hl [2, 1, 0] rfl)
  · --
    have i209 : Iv (σ6.1 660 a0) 0 0 := iv_eq1 c10 p7_2 (⟨by decide, by decide⟩ : Iv 0 0 0) (by decide)
    refine lv_iconst (v := 0) hx hb dX11_herds_31 (by decide) ?_
    rw [← hQ]
    exact o_ri cx rx hw dX11_herds_32 ⟨fr, (iv_w (⟨by decide, by decide⟩ : Iv 0 0 0) (by decide)), (kn_iv ((kp_s eσ8)) (iv_w (⟨by decide, by decide⟩ : Iv 0 0 0) (by decide)))⟩
end OM
