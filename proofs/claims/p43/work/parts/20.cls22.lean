section OM
variable {l : Launch} {A : Nat → Prop} {L : List Nat} {τ : Nat → Nat} {cy : Nat → ClassId} {D : va_G} {K : (Nat → Nat) × (Nat → Nat)} {σ : oSt}
set_option maxHeartbeats 4000000 in
set_option maxRecDepth 100000 in
theorem c_X10_cell (hfl : l.stackTraces = false) (a0 : Nat) (ha0 : oA L τ a0 9) (a1 : Int32) (a2 : Int32) : oMetX l A L τ cy D K yX10_cell cX10_cell 3 (some .int) 6 82 [.ref a0, .int a1, .int a2] σ (va_Qi (fun r σ1 => σ1 = σ) (oPo A L τ cy D) A) := by
  refine oMkX (by decide) (Nat.le_of_ble_eq_true rfl) rfl ?_
  intro p e s m args below meth c ls cx rx ht hA hw hl
  generalize hQ : vx_MQ below _ _ args s 1 6 A = Q
  have hx := cx.1.1
  have hb := cx.1.2.1
  have hml := cx.1.2.2.1
  have hown := cx.1.2.2.2.1
  have hts := cx.1.2.2.2.2
  have hl : lv_has ls 3 [(0, .ref a0), (1, .int a1), (2, .int a2)] := hl
  refine lv_aload_n hx hb dX10_cell_0 rfl (lv_at hl 0 rfl) ?_
  refine g_578 cx hw ha0 k_f_X10_26 dX10_cell_1 (fun v1 e1 h1 => ?_)
  refine lv_iload_n hx hb dX10_cell_4 rfl (lv_at hl 1 rfl) ?_
  refine o_ci hw (oRunV cx hA hw q_X2_isThere k_m_X10_135 rfl h1 (by decide) (As := [.int a1]) (c_X2_isThere v1 h1 a1) (by decide) rfl hl.1 rfl (Nat.le_of_ble_eq_true rfl) dX10_cell_5 (by decide)) (fun v3 σ2 H locs hp hw => ?_)
  obtain ⟨p3_0, p3_1, p3_2⟩ := hp
  rw [p3_0] at hw
  have J_21 : ∀ (H : Heap) (locs : List Loc), oI A L τ cy D s.heap σ H locs → ∀ (ls : Array Slot), lv_has ls 3 [(0, .ref a0), (1, .int a1), (2, .int a2)] → W p l e ({ frames := 6, cells := 1, slots := 6, locals := 82 } : Room) s m args below meth c H locs 0 0 Q (F0 m 21 ls []) := by
    intro  H locs hw     ls hl
    rw [← hQ]
    exact o_throwS cx hfl rx ht hw hA hl.1 cx.2.2.2.1.2.2.2.2.1 (by decide) (by decide) dX10_cell_21 dX10_cell_24 dX10_cell_25 dX10_cell_27 dX10_cell_30
  refine lv_if_eq (tgt := 21) hx hb dX10_cell_8 (by decide) (fun c4 => ?_) (fun c4 => ?_)
  · --
    have i5 : Iv v3 0 0 := iv_eq1 c4 p3_1 (⟨by decide, by decide⟩ : Iv 0 0 0) (by decide)
    exact J_21 _ _ hw _ (lv_sub hl [0, 1, 2] rfl)
  · --
    have i6 : Iv v3 1 1 := iv_ne1 c4 p3_1 (⟨by decide, by decide⟩ : Iv 0 0 0) (by decide)
    have i7 : Iv a1 0 63 := p3_2 c4
    refine lv_iload_n hx hb dX10_cell_11 rfl (lv_at hl 2 rfl) ?_
    refine lv_if_lt (tgt := 21) hx hb dX10_cell_12 (by decide) (fun c8 => ?_) (fun c8 => ?_)
    · --
      have i9 : Iv a2 (-2147483648) (-1) := iv_lt1 c8 (iv_top a2) (⟨by decide, by decide⟩ : Iv 0 0 0) (by decide)
      exact J_21 _ _ hw _ (lv_sub hl [0, 1, 2] rfl)
    · --
      have i10 : Iv a2 0 2147483647 := iv_le2 (iv_nlt c8) (⟨by decide, by decide⟩ : Iv 0 0 0) (iv_top a2) (by decide)
      refine lv_iload_n hx hb dX10_cell_15 rfl (lv_at hl 2 rfl) ?_
      refine lv_bipush (v := 7) hx hb dX10_cell_16 (by decide) ?_
      refine lv_icmp_le (tgt := 31) hx hb dX10_cell_18 (by decide) (fun c11 => ?_) (fun c11 => ?_)
      · --
        have i12 : Iv a2 0 7 := iv_le1 c11 i10 (⟨by decide, by decide⟩ : Iv 7 7 7) (by decide)
        refine lv_iload_n hx hb dX10_cell_31 rfl (lv_at hl 2 rfl) ?_
        by_cases q13 : a2 = 0
        · --
          refine lv_tableIn (tgt := 76) hx hb dX10_cell_32 (by rw [q13]; decide) (by rw [q13]; decide) (by rw [q13]; rfl) (by decide) ?_
          have i14 : Iv a2 0 0 := iv_eq1 q13 i12 (⟨by decide, by decide⟩ : Iv 0 0 0) (by decide)
          refine lv_aload_n hx hb dX10_cell_76 rfl (lv_at hl 0 rfl) ?_
          refine g_581 cx hw ha0 k_f_X10_49 dX10_cell_77 (fun v15 e15 h15 => ?_)
          refine g_320 cx hw h15 k_f_X10_144 dX10_cell_80 (fun v16 e16 h16 => ?_)
          refine lv_iload_n hx hb dX10_cell_83 rfl (lv_at hl 1 rfl) ?_
          refine o_iald cx hw h16 (by decide) rfl (iv_in i7 (by decide)) dX10_cell_84 (fun v17 e17 b17 => ?_)
          rw [← hQ]
          refine vx_ret (W.widen (k := 1) (n := 6) (by decide) (by decide) ?_)
          exact o_ri cx rx hw dX10_cell_85 rfl
        by_cases q18 : a2 = 1
        · --
          refine lv_tableIn (tgt := 86) hx hb dX10_cell_32 (by rw [q18]; decide) (by rw [q18]; decide) (by rw [q18]; rfl) (by decide) ?_
          have i19 : Iv a2 1 1 := iv_eq1 q18 i12 (⟨by decide, by decide⟩ : Iv 1 1 1) (by decide)
          refine lv_aload_n hx hb dX10_cell_86 rfl (lv_at hl 0 rfl) ?_
          refine g_581 cx hw ha0 k_f_X10_49 dX10_cell_87 (fun v20 e20 h20 => ?_)
          refine g_321 cx hw h20 k_f_X10_148 dX10_cell_90 (fun v21 e21 h21 => ?_)
          refine lv_iload_n hx hb dX10_cell_93 rfl (lv_at hl 1 rfl) ?_
          refine o_iald cx hw h21 (by decide) rfl (iv_in i7 (by decide)) dX10_cell_94 (fun v22 e22 b22 => ?_)
          rw [← hQ]
          refine vx_ret (W.widen (k := 1) (n := 6) (by decide) (by decide) ?_)
          exact o_ri cx rx hw dX10_cell_95 rfl
        by_cases q23 : a2 = 2
        · --
          refine lv_tableIn (tgt := 96) hx hb dX10_cell_32 (by rw [q23]; decide) (by rw [q23]; decide) (by rw [q23]; rfl) (by decide) ?_
          have i24 : Iv a2 2 2 := iv_eq1 q23 i12 (⟨by decide, by decide⟩ : Iv 2 2 2) (by decide)
          refine lv_aload_n hx hb dX10_cell_96 rfl (lv_at hl 0 rfl) ?_
          refine g_581 cx hw ha0 k_f_X10_49 dX10_cell_97 (fun v25 e25 h25 => ?_)
          refine g_322 cx hw h25 k_f_X10_151 dX10_cell_100 (fun v26 e26 h26 => ?_)
          refine lv_iload_n hx hb dX10_cell_103 rfl (lv_at hl 1 rfl) ?_
          refine o_iald cx hw h26 (by decide) rfl (iv_in i7 (by decide)) dX10_cell_104 (fun v27 e27 b27 => ?_)
          rw [← hQ]
          refine vx_ret (W.widen (k := 1) (n := 6) (by decide) (by decide) ?_)
          exact o_ri cx rx hw dX10_cell_105 rfl
        by_cases q28 : a2 = 3
        · --
          refine lv_tableIn (tgt := 106) hx hb dX10_cell_32 (by rw [q28]; decide) (by rw [q28]; decide) (by rw [q28]; rfl) (by decide) ?_
          have i29 : Iv a2 3 3 := iv_eq1 q28 i12 (⟨by decide, by decide⟩ : Iv 3 3 3) (by decide)
          refine lv_aload_n hx hb dX10_cell_106 rfl (lv_at hl 0 rfl) ?_
          refine g_578 cx hw ha0 k_f_X10_26 dX10_cell_107 (fun v30 e30 h30 => ?_)
          rw [show v30 = v1 from Option.some.inj (e30.symm.trans (e1))]
          refine lv_iload_n hx hb dX10_cell_110 rfl (lv_at hl 1 rfl) ?_
          refine lv_aload_n hx hb dX10_cell_111 rfl (lv_at hl 0 rfl) ?_
          refine g_581 cx hw ha0 k_f_X10_49 dX10_cell_112 (fun v31 e31 h31 => ?_)
          refine g_330 cx hw h31 k_f_X10_154 dX10_cell_115 (fun v32 e32 => ?_)
          refine o_ci hw (oRunV cx hA hw q_X2_kindOf k_m_X10_157 rfl h1 (by decide) (As := [.int a1, .int v32]) (c_X2_kindOf v1 h1 a1 v32) (by decide) rfl hl.1 rfl (Nat.le_of_ble_eq_true rfl) dX10_cell_118 (by decide)) (fun v34 σ33 H locs hp hw => ?_)
          obtain ⟨p34_0, p34_1⟩ := hp
          rw [p34_0] at hw
          rw [← hQ]
          refine vx_ret (W.widen (k := 1) (n := 6) (by decide) (by decide) ?_)
          exact o_ri cx rx hw dX10_cell_121 rfl
        by_cases q35 : a2 = 4
        · --
          refine lv_tableIn (tgt := 122) hx hb dX10_cell_32 (by rw [q35]; decide) (by rw [q35]; decide) (by rw [q35]; rfl) (by decide) ?_
          have i36 : Iv a2 4 4 := iv_eq1 q35 i12 (⟨by decide, by decide⟩ : Iv 4 4 4) (by decide)
          refine lv_aload_n hx hb dX10_cell_122 rfl (lv_at hl 0 rfl) ?_
          refine g_581 cx hw ha0 k_f_X10_49 dX10_cell_123 (fun v37 e37 h37 => ?_)
          refine g_323 cx hw h37 k_f_X10_161 dX10_cell_126 (fun v38 e38 h38 => ?_)
          refine lv_iload_n hx hb dX10_cell_129 rfl (lv_at hl 1 rfl) ?_
          refine o_iald cx hw h38 (by decide) rfl (iv_in i7 (by decide)) dX10_cell_130 (fun v39 e39 b39 => ?_)
          rw [← hQ]
          refine vx_ret (W.widen (k := 1) (n := 6) (by decide) (by decide) ?_)
          exact o_ri cx rx hw dX10_cell_131 rfl
        by_cases q40 : a2 = 5
        · --
          refine lv_tableIn (tgt := 132) hx hb dX10_cell_32 (by rw [q40]; decide) (by rw [q40]; decide) (by rw [q40]; rfl) (by decide) ?_
          have i41 : Iv a2 5 5 := iv_eq1 q40 i12 (⟨by decide, by decide⟩ : Iv 5 5 5) (by decide)
          refine lv_aload_n hx hb dX10_cell_132 rfl (lv_at hl 0 rfl) ?_
          refine g_581 cx hw ha0 k_f_X10_49 dX10_cell_133 (fun v42 e42 h42 => ?_)
          refine g_324 cx hw h42 k_f_X10_164 dX10_cell_136 (fun v43 e43 h43 => ?_)
          refine lv_iload_n hx hb dX10_cell_139 rfl (lv_at hl 1 rfl) ?_
          refine o_iald cx hw h43 (by decide) rfl (iv_in i7 (by decide)) dX10_cell_140 (fun v44 e44 b44 => ?_)
          rw [← hQ]
          refine vx_ret (W.widen (k := 1) (n := 6) (by decide) (by decide) ?_)
          exact o_ri cx rx hw dX10_cell_141 rfl
        by_cases q45 : a2 = 6
        · --
          refine lv_tableIn (tgt := 142) hx hb dX10_cell_32 (by rw [q45]; decide) (by rw [q45]; decide) (by rw [q45]; rfl) (by decide) ?_
          have i46 : Iv a2 6 6 := iv_eq1 q45 i12 (⟨by decide, by decide⟩ : Iv 6 6 6) (by decide)
          refine lv_aload_n hx hb dX10_cell_142 rfl (lv_at hl 0 rfl) ?_
          refine g_581 cx hw ha0 k_f_X10_49 dX10_cell_143 (fun v47 e47 h47 => ?_)
          refine lv_iload_n hx hb dX10_cell_146 rfl (lv_at hl 1 rfl) ?_
          refine lv_aload_n hx hb dX10_cell_147 rfl (lv_at hl 0 rfl) ?_
          refine g_580 cx hw ha0 k_f_X10_42 dX10_cell_148 (fun v48 e48 h48 => ?_)
          refine g_514 cx hw h48 k_f_X10_167 dX10_cell_151 (fun v49 e49 => ?_)
          refine o_ci hw (oRunV cx hA hw q_X6_isRoad k_m_X10_170 rfl h47 (by decide) (As := [.int a1, .int v49]) (c_X6_isRoad v47 h47 a1 (iv_w i7 (by decide)) v49) (by decide) rfl hl.1 rfl (Nat.le_of_ble_eq_true rfl) dX10_cell_154 (by decide)) (fun v51 σ50 H locs hp hw => ?_)
          obtain ⟨p51_0, p51_1⟩ := hp
          rw [p51_0] at hw
          refine lv_if_eq (tgt := 164) hx hb dX10_cell_157 (by decide) (fun c52 => ?_) (fun c52 => ?_)
          · --
            have i53 : Iv v51 0 0 := iv_eq1 c52 p51_1 (⟨by decide, by decide⟩ : Iv 0 0 0) (by decide)
            refine lv_iconst (v := 0) hx hb dX10_cell_164 (by decide) ?_
            rw [← hQ]
            refine vx_ret (W.widen (k := 1) (n := 6) (by decide) (by decide) ?_)
            exact o_ri cx rx hw dX10_cell_165 rfl
          · --
            have i54 : Iv v51 1 1 := iv_ne1 c52 p51_1 (⟨by decide, by decide⟩ : Iv 0 0 0) (by decide)
            refine lv_iconst (v := 1) hx hb dX10_cell_160 (by decide) ?_
            refine lv_goto (tgt := 165) hx hb dX10_cell_161 (by decide) ?_
            rw [← hQ]
            refine vx_ret (W.widen (k := 1) (n := 6) (by decide) (by decide) ?_)
            exact o_ri cx rx hw dX10_cell_165 rfl
        have q13 := iv_nt q13 (k := 0) (by decide)
        have q18 := iv_nt q18 (k := 1) (by decide)
        have q23 := iv_nt q23 (k := 2) (by decide)
        have q28 := iv_nt q28 (k := 3) (by decide)
        have q35 := iv_nt q35 (k := 4) (by decide)
        have q40 := iv_nt q40 (k := 5) (by decide)
        have q45 := iv_nt q45 (k := 6) (by decide)
        refine lv_tableOut (tgt := 166) hx hb dX10_cell_32 (by omega) (by decide) ?_
        refine lv_aload_n hx hb dX10_cell_166 rfl (lv_at hl 0 rfl) ?_
        refine g_581 cx hw ha0 k_f_X10_49 dX10_cell_167 (fun v55 e55 h55 => ?_)
        refine lv_iload_n hx hb dX10_cell_170 rfl (lv_at hl 1 rfl) ?_
        refine o_ci hw (oRunV cx hA hw q_X6_herdsAt k_m_X10_174 rfl h55 (by decide) (As := [.int a1]) (c_X6_herdsAt v55 h55 a1) (by decide) rfl hl.1 rfl (Nat.le_of_ble_eq_true rfl) dX10_cell_171 (by decide)) (fun v57 σ56 H locs hp hw => ?_)
        obtain ⟨p57_0, p57_1⟩ := hp
        rw [p57_0] at hw
        rw [← hQ]
        refine vx_ret (W.widen (k := 1) (n := 6) (by decide) (by decide) ?_)
        exact o_ri cx rx hw dX10_cell_174 rfl
      · --
        have i58 : Iv a2 8 2147483647 := iv_lt2 (iv_nle c11) (⟨by decide, by decide⟩ : Iv 7 7 7) i10 (by decide)
        exact J_21 _ _ hw _ (lv_sub hl [0, 1, 2] rfl)
abbrev fs_X10_herd : List Nat := [517]
abbrev ts_X10_herd : List Nat := [37, 38]
set_option maxHeartbeats 4000000 in
set_option maxRecDepth 100000 in
theorem c_X10_herd (hfl : l.stackTraces = false) (a0 : Nat) (ha0 : oA L τ a0 9) (a1 : Int32) (a2 : Int32) : oMetX l A L τ cy D K yX10_herd cX10_herd 3 (some .int) 6 82 [.ref a0, .int a1, .int a2] σ (va_Qi (fun r σ1 => oFr τ fs_X10_herd ts_X10_herd σ σ1) (oPo A L τ cy D) A) := by
  refine oMkX (by decide) (Nat.le_of_ble_eq_true rfl) rfl ?_
  intro p e s m args below meth c ls cx rx ht hA hw hl
  generalize hQ : vx_MQ below _ _ args s 1 6 A = Q
  have hx := cx.1.1
  have hb := cx.1.2.1
  have hml := cx.1.2.2.1
  have hown := cx.1.2.2.2.1
  have hts := cx.1.2.2.2.2
  have hl : lv_has ls 3 [(0, .ref a0), (1, .int a1), (2, .int a2)] := hl
  have fr : oFr τ fs_X10_herd ts_X10_herd σ σ := oFr_rf
  refine lv_aload_n hx hb dX10_herd_0 rfl (lv_at hl 0 rfl) ?_
  refine g_581 cx hw ha0 k_f_X10_49 dX10_herd_1 (fun v1 e1 h1 => ?_)
  refine lv_iload_n hx hb dX10_herd_4 rfl (lv_at hl 1 rfl) ?_
  refine o_ci hw (oRunV cx hA hw q_X6_hasHerd k_m_X10_178 rfl h1 (by decide) (As := [.int a1]) (c_X6_hasHerd v1 h1 a1) (by decide) rfl hl.1 rfl (Nat.le_of_ble_eq_true rfl) dX10_herd_5 (by decide)) (fun v3 σ2 H locs hp hw => ?_)
  obtain ⟨p3_0, p3_1, p3_2⟩ := hp
  rw [p3_0] at hw
  have J_20 : ∀ (H : Heap) (locs : List Loc), oI A L τ cy D s.heap σ H locs → ∀ (ls : Array Slot), lv_has ls 3 [(0, .ref a0), (1, .int a1), (2, .int a2)] → W p l e ({ frames := 6, cells := 1, slots := 6, locals := 82 } : Room) s m args below meth c H locs 0 0 Q (F0 m 20 ls []) := by
    intro  H locs hw     ls hl
    rw [← hQ]
    exact o_throwS cx hfl rx ht hw hA hl.1 cx.2.2.2.1.2.2.2.2.2.1 (by decide) (by decide) dX10_herd_20 dX10_herd_23 dX10_herd_24 dX10_herd_26 dX10_herd_29
  refine lv_if_eq (tgt := 20) hx hb dX10_herd_8 (by decide) (fun c4 => ?_) (fun c4 => ?_)
  · --
    have i5 : Iv v3 0 0 := iv_eq1 c4 p3_1 (⟨by decide, by decide⟩ : Iv 0 0 0) (by decide)
    exact J_20 _ _ hw _ (lv_sub hl [0, 1, 2] rfl)
  · --
    have i6 : Iv v3 1 1 := iv_ne1 c4 p3_1 (⟨by decide, by decide⟩ : Iv 0 0 0) (by decide)
    have i7 : Iv a1 0 5 := p3_2 c4
    refine lv_iload_n hx hb dX10_herd_11 rfl (lv_at hl 2 rfl) ?_
    refine lv_if_lt (tgt := 20) hx hb dX10_herd_12 (by decide) (fun c8 => ?_) (fun c8 => ?_)
    · --
      have i9 : Iv a2 (-2147483648) (-1) := iv_lt1 c8 (iv_top a2) (⟨by decide, by decide⟩ : Iv 0 0 0) (by decide)
      exact J_20 _ _ hw _ (lv_sub hl [0, 1, 2] rfl)
    · --
      have i10 : Iv a2 0 2147483647 := iv_le2 (iv_nlt c8) (⟨by decide, by decide⟩ : Iv 0 0 0) (iv_top a2) (by decide)
      refine lv_iload_n hx hb dX10_herd_15 rfl (lv_at hl 2 rfl) ?_
      refine lv_iconst (v := 4) hx hb dX10_herd_16 (by decide) ?_
      refine lv_icmp_le (tgt := 30) hx hb dX10_herd_17 (by decide) (fun c11 => ?_) (fun c11 => ?_)
      · --
        have i12 : Iv a2 0 4 := iv_le1 c11 i10 (⟨by decide, by decide⟩ : Iv 4 4 4) (by decide)
        refine lv_iload_n hx hb dX10_herd_30 rfl (lv_at hl 2 rfl) ?_
        by_cases q13 : a2 = 0
        · --
          refine lv_tableIn (tgt := 60) hx hb dX10_herd_31 (by rw [q13]; decide) (by rw [q13]; decide) (by rw [q13]; rfl) (by decide) ?_
          have i14 : Iv a2 0 0 := iv_eq1 q13 i12 (⟨by decide, by decide⟩ : Iv 0 0 0) (by decide)
          refine lv_aload_n hx hb dX10_herd_60 rfl (lv_at hl 0 rfl) ?_
          refine g_581 cx hw ha0 k_f_X10_49 dX10_herd_61 (fun v15 e15 h15 => ?_)
          rw [show v15 = v1 from Option.some.inj (e15.symm.trans (e1))]
          refine g_325 cx hw h1 k_f_X10_183 dX10_herd_64 (fun v16 e16 h16 => ?_)
          refine lv_iload_n hx hb dX10_herd_67 rfl (lv_at hl 1 rfl) ?_
          refine o_iald cx hw h16 (by decide) rfl (iv_in i7 (by decide)) dX10_herd_68 (fun v17 e17 b17 => ?_)
          have i17 : Iv v17 0 63 := b17
          rw [← hQ]
          refine vx_ret (W.widen (k := 1) (n := 6) (by decide) (by decide) ?_)
          exact o_ri cx rx hw dX10_herd_69 fr
        by_cases q18 : a2 = 1
        · --
          refine lv_tableIn (tgt := 70) hx hb dX10_herd_31 (by rw [q18]; decide) (by rw [q18]; decide) (by rw [q18]; rfl) (by decide) ?_
          have i19 : Iv a2 1 1 := iv_eq1 q18 i12 (⟨by decide, by decide⟩ : Iv 1 1 1) (by decide)
          refine lv_aload_n hx hb dX10_herd_70 rfl (lv_at hl 0 rfl) ?_
          refine g_581 cx hw ha0 k_f_X10_49 dX10_herd_71 (fun v20 e20 h20 => ?_)
          rw [show v20 = v1 from Option.some.inj (e20.symm.trans (e1))]
          refine g_326 cx hw h1 k_f_X10_186 dX10_herd_74 (fun v21 e21 h21 => ?_)
          refine lv_iload_n hx hb dX10_herd_77 rfl (lv_at hl 1 rfl) ?_
          refine o_iald cx hw h21 (by decide) rfl (iv_in i7 (by decide)) dX10_herd_78 (fun v22 e22 b22 => ?_)
          rw [← hQ]
          refine vx_ret (W.widen (k := 1) (n := 6) (by decide) (by decide) ?_)
          exact o_ri cx rx hw dX10_herd_79 fr
        by_cases q23 : a2 = 2
        · --
          refine lv_tableIn (tgt := 80) hx hb dX10_herd_31 (by rw [q23]; decide) (by rw [q23]; decide) (by rw [q23]; rfl) (by decide) ?_
          have i24 : Iv a2 2 2 := iv_eq1 q23 i12 (⟨by decide, by decide⟩ : Iv 2 2 2) (by decide)
          refine lv_aload_n hx hb dX10_herd_80 rfl (lv_at hl 0 rfl) ?_
          refine g_581 cx hw ha0 k_f_X10_49 dX10_herd_81 (fun v25 e25 h25 => ?_)
          rw [show v25 = v1 from Option.some.inj (e25.symm.trans (e1))]
          refine g_328 cx hw h1 k_f_X10_189 dX10_herd_84 (fun v26 e26 => ?_)
          refine lv_iload_n hx hb dX10_herd_87 rfl (lv_at hl 1 rfl) ?_
          refine lv_ishr hx hb dX10_herd_88 ?_
          refine lv_topi (fun v27 e27 => ?_)
          refine lv_iconst (v := 1) hx hb dX10_herd_89 (by decide) ?_
          refine lv_iand hx hb dX10_herd_90 ?_
          refine lv_topi (fun v28 e28 => ?_)
          have i28 : Iv v28 0 1 := iv_and e28 (⟨by decide, by decide⟩ : Iv 1 1 1) (by decide)
          rw [← hQ]
          refine vx_ret (W.widen (k := 1) (n := 6) (by decide) (by decide) ?_)
          exact o_ri cx rx hw dX10_herd_91 fr
        by_cases q29 : a2 = 3
        · --
          refine lv_tableIn (tgt := 92) hx hb dX10_herd_31 (by rw [q29]; decide) (by rw [q29]; decide) (by rw [q29]; rfl) (by decide) ?_
          have i30 : Iv a2 3 3 := iv_eq1 q29 i12 (⟨by decide, by decide⟩ : Iv 3 3 3) (by decide)
          refine lv_aload_n hx hb dX10_herd_92 rfl (lv_at hl 0 rfl) ?_
          refine g_581 cx hw ha0 k_f_X10_49 dX10_herd_93 (fun v31 e31 h31 => ?_)
          rw [show v31 = v1 from Option.some.inj (e31.symm.trans (e1))]
          refine g_329 cx hw h1 k_f_X10_192 dX10_herd_96 (fun v32 e32 => ?_)
          refine lv_iload_n hx hb dX10_herd_99 rfl (lv_at hl 1 rfl) ?_
          refine lv_ishr hx hb dX10_herd_100 ?_
          refine lv_topi (fun v33 e33 => ?_)
          refine lv_iconst (v := 1) hx hb dX10_herd_101 (by decide) ?_
          refine lv_iand hx hb dX10_herd_102 ?_
          refine lv_topi (fun v34 e34 => ?_)
          have i34 : Iv v34 0 1 := iv_and e34 (⟨by decide, by decide⟩ : Iv 1 1 1) (by decide)
          rw [← hQ]
          refine vx_ret (W.widen (k := 1) (n := 6) (by decide) (by decide) ?_)
          exact o_ri cx rx hw dX10_herd_103 fr
        have q13 := iv_nt q13 (k := 0) (by decide)
        have q18 := iv_nt q18 (k := 1) (by decide)
        have q23 := iv_nt q23 (k := 2) (by decide)
        have q29 := iv_nt q29 (k := 3) (by decide)
        refine lv_tableOut (tgt := 104) hx hb dX10_herd_31 (by omega) (by decide) ?_
        refine lv_aload_n hx hb dX10_herd_104 rfl (lv_at hl 0 rfl) ?_
        refine g_580 cx hw ha0 k_f_X10_42 dX10_herd_105 (fun v35 e35 h35 => ?_)
        refine lv_aload_n hx hb dX10_herd_108 rfl (lv_at hl 0 rfl) ?_
        refine g_581 cx hw ha0 k_f_X10_49 dX10_herd_109 (fun v36 e36 h36 => ?_)
        rw [show v36 = v1 from Option.some.inj (e36.symm.trans (e1))]
        refine lv_iload_n hx hb dX10_herd_112 rfl (lv_at hl 1 rfl) ?_
        refine lv_aload_n hx hb dX10_herd_113 rfl (lv_at hl 0 rfl) ?_
        refine g_578 cx hw ha0 k_f_X10_26 dX10_herd_114 (fun v37 e37 h37 => ?_)
        refine lv_aload_n hx hb dX10_herd_117 rfl (lv_at hl 0 rfl) ?_
        refine g_581 cx hw ha0 k_f_X10_49 dX10_herd_118 (fun v38 e38 h38 => ?_)
        rw [show v38 = v1 from Option.some.inj (e38.symm.trans (e1))]
        refine g_330 cx hw h1 k_f_X10_154 dX10_herd_121 (fun v39 e39 => ?_)
        refine o_cl hw (oRunV cx hA hw q_X2_openTo k_m_X10_195 rfl h37 (by decide) (As := [.int v39]) (c_X2_openTo v37 h37 v39) (by decide) rfl hl.1 rfl (Nat.le_of_ble_eq_true rfl) dX10_herd_124 (by decide)) (fun v41 σ40 H locs hp hw => ?_)
        have p41_0 := hp
        rw [p41_0] at hw
        refine o_ci hw (oRunV cx hA hw q_X9_choose k_m_X10_199 rfl h35 (by decide) (As := [.ref v1, .int a1, .long v41]) (c_X9_choose v35 h35 v1 h1 a1 (iv_w i7 (by decide)) v41) (by decide) rfl hl.1 rfl (Nat.le_of_ble_eq_true rfl) dX10_herd_127 (by decide)) (fun v43 σ42 H locs hp hw => ?_)
        obtain ⟨p43_0, p43_1⟩ := hp
        have fr := oFr_tr fr p43_0 (by decide)
        rw [← hQ]
        refine vx_ret (W.widen (k := 1) (n := 6) (by decide) (by decide) ?_)
        exact o_ri cx rx hw dX10_herd_130 fr
      · --
        have i44 : Iv a2 5 2147483647 := iv_lt2 (iv_nle c11) (⟨by decide, by decide⟩ : Iv 4 4 4) i10 (by decide)
        exact J_20 _ _ hw _ (lv_sub hl [0, 1, 2] rfl)
set_option maxHeartbeats 4000000 in
set_option maxRecDepth 100000 in
theorem c_X10_row (hfl : l.stackTraces = false) (a0 : Nat) (ha0 : oA L τ a0 9) (a1 : Int32) : oMetX l A L τ cy D K yX10_row cX10_row 2 (some .long) 6 82 [.ref a0, .int a1] σ (va_Ql (fun r σ1 => σ1 = σ) (oPo A L τ cy D) A) := by
  refine oMkX (by decide) (Nat.le_of_ble_eq_true rfl) rfl ?_
  intro p e s m args below meth c ls cx rx ht hA hw hl
  generalize hQ : vx_MQ below _ _ args s 1 6 A = Q
  have hx := cx.1.1
  have hb := cx.1.2.1
  have hml := cx.1.2.2.1
  have hown := cx.1.2.2.2.1
  have hts := cx.1.2.2.2.2
  have hl : lv_has ls 2 [(0, .ref a0), (1, .int a1)] := hl
  refine lv_iload_n hx hb dX10_row_0 rfl (lv_at hl 1 rfl) ?_
  have J_15 : ∀ (H : Heap) (locs : List Loc), oI A L τ cy D s.heap σ H locs → ∀ (ls : Array Slot), lv_has ls 2 [(0, .ref a0), (1, .int a1)] → W p l e ({ frames := 6, cells := 1, slots := 6, locals := 82 } : Room) s m args below meth c H locs 0 0 Q (F0 m 15 ls []) := by
    intro  H locs hw     ls hl
    rw [← hQ]
    exact o_throwSW cx hfl rx ht hw hA hl.1 cx.2.2.2.1.2.2.2.2.2.2 (by decide) (by decide) dX10_row_15 dX10_row_18 dX10_row_19 dX10_row_22 dX10_row_25
  refine lv_if_lt (tgt := 15) hx hb dX10_row_1 (by decide) (fun c1 => ?_) (fun c1 => ?_)
  · --
    have i2 : Iv a1 (-2147483648) (-1) := iv_lt1 c1 (iv_top a1) (⟨by decide, by decide⟩ : Iv 0 0 0) (by decide)
    exact J_15 _ _ hw _ (lv_sub hl [0, 1] rfl)
  · --
    have i3 : Iv a1 0 2147483647 := iv_le2 (iv_nlt c1) (⟨by decide, by decide⟩ : Iv 0 0 0) (iv_top a1) (by decide)
    refine lv_iload_n hx hb dX10_row_4 rfl (lv_at hl 1 rfl) ?_
    refine lv_aload_n hx hb dX10_row_5 rfl (lv_at hl 0 rfl) ?_
    refine g_577 cx hw ha0 k_f_X10_19 dX10_row_6 (fun v4 e4 h4 => ?_)
    refine g_193 cx hw h4 k_f_X10_469 dX10_row_9 (fun v5 e5 i5 => ?_)
    refine lv_icmp_lt (tgt := 26) hx hb dX10_row_12 (by decide) (fun c6 => ?_) (fun c6 => ?_)
    · --
      have i7 : Iv a1 0 13 := iv_lt1 c6 i3 i5 (by decide)
      have i8 : Iv v5 1 14 := iv_lt2 c6 i3 i5 (by decide)
      refine lv_aload_n hx hb dX10_row_26 rfl (lv_at hl 0 rfl) ?_
      refine g_577 cx hw ha0 k_f_X10_19 dX10_row_27 (fun v9 e9 h9 => ?_)
      rw [show v9 = v4 from Option.some.inj (e9.symm.trans (e4))]
      refine g_192 cx hw h4 k_f_X10_472 dX10_row_30 (fun v10 e10 h10 => ?_)
      refine lv_iload_n hx hb dX10_row_33 rfl (lv_at hl 1 rfl) ?_
      refine o_lald cx hw h10 (by decide) rfl (iv_in i7 (by decide)) dX10_row_34 (fun v11 e11 => ?_)
      rw [← hQ]
      refine vx_ret (W.widen (k := 1) (n := 6) (by decide) (by decide) ?_)
      exact o_rl cx rx hw dX10_row_35 rfl
    · --
      exact J_15 _ _ hw _ (lv_sub hl [0, 1] rfl)
end OM
