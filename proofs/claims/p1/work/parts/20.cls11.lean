section OM
variable {l : Launch} {A : Nat → Prop} {L : List Nat} {τ : Nat → Nat} {cy : Nat → ClassId} {D : va_G} {K : (Nat → Nat) × (Nat → Nat)} {σ : oSt}
abbrev fs_X11_readCell : List Nat := [662, 663]
abbrev ts_X11_readCell : List Nat := []
set_option maxHeartbeats 4000000 in
set_option maxRecDepth 100000 in
theorem c_X11_readCell (a0 : Nat) (ha0 : oA L τ a0 10) (b0 : Nat) (hF0 : σ.2.2.2.2 659 a0 = some b0) (hb0 : oA L τ b0 51) (hf660 : Iv (σ.1 660 a0) 0 80) : oMet l A L τ cy D K yX11_readCell cX11_readCell 2 (some .int) 3 63 [.ref a0] σ (va_Qi (fun r σ1 => oFr τ fs_X11_readCell ts_X11_readCell σ σ1 ∧ Iv r 0 63) (oPo A L τ cy D) A) := by
  refine oMk (by decide) (Nat.le_of_ble_eq_true rfl) rfl ?_
  intro p e s m args below meth c ls cx rx hA hw hl
  generalize hQ : MQ below _ args s 0 0 A = Q
  have hx := cx.1.1
  have hb := cx.1.2.1
  have hml := cx.1.2.2.1
  have hown := cx.1.2.2.2.1
  have hts := cx.1.2.2.2.2
  have hl : lv_has ls 2 [(0, .ref a0)] := hl
  have fr : oFr τ fs_X11_readCell ts_X11_readCell σ σ := oFr_rf
  refine lv_aload_n hx hb dX11_readCell_0 rfl (lv_at hl 0 rfl) ?_
  refine lv_bipush (v := 97) hx hb dX11_readCell_1 (by decide) ?_
  refine lv_bipush (v := 8) hx hb dX11_readCell_3 (by decide) ?_
  refine o_ci hw (oRunV cx hA hw q_X11_oneOf k_m_X11_171 rfl ha0 (by decide) (As := [.int 97, .int 8]) (c_X11_oneOfT a0 ha0 97 (iv_w (⟨by decide, by decide⟩ : Iv 97 97 97) (by decide)) 8 (iv_w (⟨by decide, by decide⟩ : Iv 8 8 8) (by decide)) b0 (hF0) hb0 (kn_iv (rfl) (iv_w hf660 (by decide)))) (by decide) rfl hl.1 rfl (Nat.le_of_ble_eq_true rfl) dX11_readCell_5 (by decide)) (fun v2 σ1 H locs hp hw => ?_)
  obtain ⟨p2_0, p2_1, p2_2⟩ := hp
  have fr := oFr_tr fr p2_0 (by decide)
  have i3 : Iv v2 0 7 := iv_lt0 p2_2 (⟨by decide, by decide⟩ : Iv 8 8 8) (by decide)
  refine lv_istore_n (lv' := [(1, .int v2), (0, .ref a0)]) hx hb dX11_readCell_8 rfl hl (by decide) rfl (fun ls hl => ?_)
  refine lv_bipush (v := 8) hx hb dX11_readCell_9 (by decide) ?_
  refine lv_aload_n hx hb dX11_readCell_11 rfl (lv_at hl 1 rfl) ?_
  refine lv_bipush (v := 49) hx hb dX11_readCell_12 (by decide) ?_
  refine lv_bipush (v := 8) hx hb dX11_readCell_14 (by decide) ?_
  refine o_ci hw (oRunV cx hA hw q_X11_oneOf k_m_X11_171 rfl ha0 (by decide) (As := [.int 49, .int 8]) (c_X11_oneOfT a0 ha0 49 (iv_w (⟨by decide, by decide⟩ : Iv 49 49 49) (by decide)) 8 (iv_w (⟨by decide, by decide⟩ : Iv 8 8 8) (by decide)) b0 (((kr_c p2_0 (by decide)).trans hF0)) hb0 (kn_iv (((kp_c p2_0 (by decide)).trans rfl)) (iv_w hf660 (by decide)))) (by decide) rfl hl.1 rfl (Nat.le_of_ble_eq_true rfl) dX11_readCell_16 (by decide)) (fun v5 σ4 H locs hp hw => ?_)
  obtain ⟨p5_0, p5_1, p5_2⟩ := hp
  have fr := oFr_tr fr p5_0 (by decide)
  have i6 : Iv v5 0 7 := iv_lt0 p5_2 (⟨by decide, by decide⟩ : Iv 8 8 8) (by decide)
  refine lv_imul hx hb dX11_readCell_19 ?_
  refine lv_topi (fun v7 e7 => ?_)
  have i7 : Iv v7 0 56 := iv_mul e7 (⟨by decide, by decide⟩ : Iv 8 8 8) i6 (by decide)
  refine lv_iload_n hx hb dX11_readCell_20 rfl (lv_at hl 0 rfl) ?_
  refine lv_iadd hx hb dX11_readCell_21 ?_
  refine lv_topi (fun v8 e8 => ?_)
  have i8 : Iv v8 0 63 := iv_add e8 i7 i3 (by decide)
  rw [← hQ]
  exact o_ri cx rx hw dX11_readCell_22 ⟨fr, (iv_w i8 (by decide))⟩
abbrev fs_X11_readAct : List Nat := [662, 663]
abbrev ts_X11_readAct : List Nat := [57]
set_option maxHeartbeats 4000000 in
set_option maxRecDepth 100000 in
theorem c_X11_readAct (a0 : Nat) (ha0 : oA L τ a0 10) (a1 : Int32) (ia1 : Iv a1 0 316) (b0 : Nat) (hF0 : σ.2.2.2.2 659 a0 = some b0) (hb0 : oA L τ b0 51) (hf660 : Iv (σ.1 660 a0) 0 80) (hf662 : Iv (σ.1 662 a0) 0 80) : oMet l A L τ cy D K yX11_readAct cX11_readAct 3 none 4 84 [.ref a0, .int a1] σ (va_Qv (fun σ1 => oFr τ fs_X11_readAct ts_X11_readAct σ σ1) (oPo A L τ cy D) A) := by
  refine oMk (by decide) (Nat.le_of_ble_eq_true rfl) rfl ?_
  intro p e s m args below meth c ls cx rx hA hw hl
  generalize hQ : MQ below _ args s 0 0 A = Q
  have hx := cx.1.1
  have hb := cx.1.2.1
  have hml := cx.1.2.2.1
  have hown := cx.1.2.2.2.1
  have hts := cx.1.2.2.2.2
  have hl : lv_has ls 3 [(0, .ref a0), (1, .int a1)] := hl
  have fr : oFr τ fs_X11_readAct ts_X11_readAct σ σ := oFr_rf
  refine lv_aload_n hx hb dX11_readAct_0 rfl (lv_at hl 0 rfl) ?_
  refine o_ci hw (oRunV cx hA hw q_X11_here k_m_X11_130 rfl ha0 (by decide) (As := []) (c_X11_hereT a0 ha0 b0 (hF0) hb0 (kn_iv (rfl) (iv_w hf660 (by decide)))) (by decide) rfl hl.1 rfl (Nat.le_of_ble_eq_true rfl) dX11_readAct_1 (by decide)) (fun v2 σ1 H locs hp hw => ?_)
  obtain ⟨p2_0, p2_1, p2_2, p2_3⟩ := hp
  rw [p2_0] at hw
  refine lv_istore_n (lv' := [(2, .int v2), (0, .ref a0), (1, .int a1)]) hx hb dX11_readAct_4 rfl hl (by decide) rfl (fun ls hl => ?_)
  refine lv_iload_n hx hb dX11_readAct_5 rfl (lv_at hl 0 rfl) ?_
  refine lv_bipush (v := 104) hx hb dX11_readAct_6 (by decide) ?_
  have J_49 : ∀ (σ_49 : oSt) (H : Heap) (locs : List Loc), oI A L τ cy D s.heap σ_49 H locs → oFr τ fs_X11_readAct ts_X11_readAct σ σ_49 → Iv (σ_49.1 662 a0) 0 80 → ∀ (ls : Array Slot), lv_has ls 3 [(0, .ref a0), (1, .int a1), (2, .int v2)] → W p l e ({ frames := 4, cells := 0, slots := 0, locals := 84 } : Room) s m args below meth c H locs 0 0 Q (F0 m 49 ls []) := by
    intro    σ_49 H locs hw fr f49_662_a0  ls hl
    have fr_49 := fr
    refine lv_aload_n hx hb dX11_readAct_49 rfl (lv_at hl 0 rfl) ?_
    refine lv_dup hx hb dX11_readAct_50 rfl ?_
    refine g_662 cx hw ha0 k_f_X11_120 dX11_readAct_51 (fun v3 e3 i3 => ?_)
    rw [show v3 = (σ_49.1 662 a0) from e3.trans rfl]
    refine lv_iconst (v := 1) hx hb dX11_readAct_54 (by decide) ?_
    refine lv_iadd hx hb dX11_readAct_55 ?_
    refine lv_topi (fun v4 e4 => ?_)
    have i4 : Iv v4 1 81 := iv_add e4 f49_662_a0 (⟨by decide, by decide⟩ : Iv 1 1 1) (by decide)
    have x4 : v4.toInt = (σ_49.1 662 a0).toInt + 1 := ex_add e4 f49_662_a0 (⟨by decide, by decide⟩ : Iv 1 1 1) (by decide)
    refine p_662 cx hw ha0 (iv_w i4 (by decide)) k_f_X11_120 dX11_readAct_56 (fun σ5 H locs eσ5 hw => ?_)
    have fr := oFr_i fr eσ5 (by decide)
    refine lv_aload_n hx hb dX11_readAct_59 rfl (lv_at hl 0 rfl) ?_
    refine g_674 cx hw ha0 k_f_X11_61 dX11_readAct_60 (fun v6 e6 h6 => ?_)
    refine lv_iload_n hx hb dX11_readAct_63 rfl (lv_at hl 1 rfl) ?_
    refine lv_iload_n hx hb dX11_readAct_64 rfl (lv_at hl 2 rfl) ?_
    refine o_iast cx hw h6 (by decide) rfl (iv_in ia1 (by decide)) trivial dX11_readAct_65 (fun σ7 H locs eσ7 hw => ?_)
    have fr := oFr_p fr eσ7 h6 (by decide)
    refine lv_iload_n hx hb dX11_readAct_66 rfl (lv_at hl 2 rfl) ?_
    by_cases q8 : v2 = 100
    · --
      refine lv_lookup (off := 107) (tgt := 174) hx hb dX11_readAct_67 (by decide) (by rw [q8] <;> decide) (by decide) ?_
      have i9 : Iv v2 100 100 := iv_eq1 q8 p2_1 (⟨by decide, by decide⟩ : Iv 100 100 100) (by decide)
      refine lv_aload_n hx hb dX11_readAct_174 rfl (lv_at hl 0 rfl) ?_
      refine g_674 cx hw ha0 k_f_X11_61 dX11_readAct_175 (fun v10 e10 h10 => ?_)
      rw [show v10 = v6 from Option.some.inj (e10.symm.trans (((kr_p eσ7).trans e6)))]
      refine lv_iload_n hx hb dX11_readAct_178 rfl (lv_at hl 1 rfl) ?_
      refine lv_iconst (v := 1) hx hb dX11_readAct_179 (by decide) ?_
      refine lv_iadd hx hb dX11_readAct_180 ?_
      refine lv_topi (fun v11 e11 => ?_)
      have i11 : Iv v11 1 317 := iv_add e11 ia1 (⟨by decide, by decide⟩ : Iv 1 1 1) (by decide)
      have x11 : v11.toInt = a1.toInt + 1 := ex_add e11 ia1 (⟨by decide, by decide⟩ : Iv 1 1 1) (by decide)
      refine lv_aload_n hx hb dX11_readAct_181 rfl (lv_at hl 0 rfl) ?_
      refine lv_bipush (v := 48) hx hb dX11_readAct_182 (by decide) ?_
      refine lv_bipush (v := 10) hx hb dX11_readAct_184 (by decide) ?_
      refine o_ci hw (oRunV cx hA hw q_X11_oneOf k_m_X11_171 rfl ha0 (by decide) (As := [.int 48, .int 10]) (c_X11_oneOfT a0 ha0 48 (iv_w (⟨by decide, by decide⟩ : Iv 48 48 48) (by decide)) 10 (iv_w (⟨by decide, by decide⟩ : Iv 10 10 10) (by decide)) b0 (((kr_p eσ7).trans ((kr_i eσ5).trans ((kr_c fr_49 (by decide)).trans hF0)))) hb0 (kn_iv (((kp_p eσ7).trans ((kp_i eσ5 (by decide)).trans (kp_c fr_49 (by decide))))) (iv_w hf660 (by decide)))) (by decide) rfl hl.1 rfl (Nat.le_of_ble_eq_true rfl) dX11_readAct_186 (by decide)) (fun v13 σ12 H locs hp hw => ?_)
      obtain ⟨p13_0, p13_1, p13_2⟩ := hp
      have fr := oFr_tr fr p13_0 (by decide)
      have i14 : Iv v13 0 9 := iv_lt0 p13_2 (⟨by decide, by decide⟩ : Iv 10 10 10) (by decide)
      refine o_iast cx hw h6 (by decide) rfl (iv_in i11 (by decide)) trivial dX11_readAct_189 (fun σ15 H locs eσ15 hw => ?_)
      have fr := oFr_p fr eσ15 h6 (by decide)
      refine lv_aload_n hx hb dX11_readAct_190 rfl (lv_at hl 0 rfl) ?_
      refine g_674 cx hw ha0 k_f_X11_61 dX11_readAct_191 (fun v16 e16 h16 => ?_)
      rw [show v16 = v6 from Option.some.inj (e16.symm.trans (((kr_p eσ15).trans ((kr_c p13_0 (by decide)).trans ((kr_p eσ7).trans e6)))))]
      refine lv_iload_n hx hb dX11_readAct_194 rfl (lv_at hl 1 rfl) ?_
      refine lv_iconst (v := 2) hx hb dX11_readAct_195 (by decide) ?_
      refine lv_iadd hx hb dX11_readAct_196 ?_
      refine lv_topi (fun v17 e17 => ?_)
      have i17 : Iv v17 2 318 := iv_add e17 ia1 (⟨by decide, by decide⟩ : Iv 2 2 2) (by decide)
      have x17 : v17.toInt = a1.toInt + 2 := ex_add e17 ia1 (⟨by decide, by decide⟩ : Iv 2 2 2) (by decide)
      refine lv_aload_n hx hb dX11_readAct_197 rfl (lv_at hl 0 rfl) ?_
      refine o_ci hw (oRunV cx hA hw q_X11_readCell k_m_X11_302 rfl ha0 (by decide) (As := []) (c_X11_readCell a0 ha0 b0 (((kr_p eσ15).trans ((kr_c p13_0 (by decide)).trans ((kr_p eσ7).trans ((kr_i eσ5).trans ((kr_c fr_49 (by decide)).trans hF0)))))) hb0 (kn_iv (((kp_p eσ15).trans ((kp_c p13_0 (by decide)).trans ((kp_p eσ7).trans ((kp_i eσ5 (by decide)).trans (kp_c fr_49 (by decide))))))) (iv_w hf660 (by decide)))) (by decide) rfl hl.1 rfl (Nat.le_of_ble_eq_true rfl) dX11_readAct_198 (by decide)) (fun v19 σ18 H locs hp hw => ?_)
      obtain ⟨p19_0, p19_1⟩ := hp
      have fr := oFr_tr fr p19_0 (by decide)
      refine o_iast cx hw h6 (by decide) rfl (iv_in i17 (by decide)) trivial dX11_readAct_201 (fun σ20 H locs eσ20 hw => ?_)
      have fr := oFr_p fr eσ20 h6 (by decide)
      rw [← hQ]
      exact o_rv cx rx hw dX11_readAct_202 fr
    by_cases q21 : v2 = 104
    · --
      refine lv_lookup (off := 41) (tgt := 108) hx hb dX11_readAct_67 (by decide) (by rw [q21] <;> decide) (by decide) ?_
      have i22 : Iv v2 104 104 := iv_eq1 q21 p2_1 (⟨by decide, by decide⟩ : Iv 104 104 104) (by decide)
      refine lv_aload_n hx hb dX11_readAct_108 rfl (lv_at hl 0 rfl) ?_
      refine g_674 cx hw ha0 k_f_X11_61 dX11_readAct_109 (fun v23 e23 h23 => ?_)
      rw [show v23 = v6 from Option.some.inj (e23.symm.trans (((kr_p eσ7).trans e6)))]
      refine lv_iload_n hx hb dX11_readAct_112 rfl (lv_at hl 1 rfl) ?_
      refine lv_iconst (v := 1) hx hb dX11_readAct_113 (by decide) ?_
      refine lv_iadd hx hb dX11_readAct_114 ?_
      refine lv_topi (fun v24 e24 => ?_)
      have i24 : Iv v24 1 317 := iv_add e24 ia1 (⟨by decide, by decide⟩ : Iv 1 1 1) (by decide)
      have x24 : v24.toInt = a1.toInt + 1 := ex_add e24 ia1 (⟨by decide, by decide⟩ : Iv 1 1 1) (by decide)
      refine lv_aload_n hx hb dX11_readAct_115 rfl (lv_at hl 0 rfl) ?_
      refine o_ci hw (oRunV cx hA hw q_X11_here k_m_X11_130 rfl ha0 (by decide) (As := []) (c_X11_hereT a0 ha0 b0 (((kr_p eσ7).trans ((kr_i eσ5).trans ((kr_c fr_49 (by decide)).trans hF0)))) hb0 (kn_iv (((kp_p eσ7).trans ((kp_i eσ5 (by decide)).trans (kp_c fr_49 (by decide))))) (iv_w hf660 (by decide)))) (by decide) rfl hl.1 rfl (Nat.le_of_ble_eq_true rfl) dX11_readAct_116 (by decide)) (fun v26 σ25 H locs hp hw => ?_)
      obtain ⟨p26_0, p26_1, p26_2, p26_3⟩ := hp
      rw [p26_0] at hw
      refine lv_bipush (v := 49) hx hb dX11_readAct_119 (by decide) ?_
      refine lv_bipush (v := 57) hx hb dX11_readAct_121 (by decide) ?_
      refine o_ci hw (oRunS cx hA hw q_X11_in k_m_X11_95 (As := [.int v26, .int 49, .int 57]) (c_X11_in v26 49 57) (by decide) rfl hl.1 rfl (Nat.le_of_ble_eq_true rfl) dX11_readAct_123 (by decide)) (fun v28 σ27 H locs hp hw => ?_)
      obtain ⟨p28_0, p28_1, p28_2⟩ := hp
      rw [p28_0] at hw
      refine lv_if_eq (tgt := 142) hx hb dX11_readAct_126 (by decide) (fun c29 => ?_) (fun c29 => ?_)
      · --
        have i30 : Iv v28 0 0 := iv_eq1 c29 p28_1 (⟨by decide, by decide⟩ : Iv 0 0 0) (by decide)
        refine lv_iconst (v := 1) hx hb dX11_readAct_142 (by decide) ?_
        refine o_iast cx hw h6 (by decide) rfl (iv_in i24 (by decide)) trivial dX11_readAct_143 (fun σ31 H locs eσ31 hw => ?_)
        have fr := oFr_p fr eσ31 h6 (by decide)
        rw [← hQ]
        exact o_rv cx rx hw dX11_readAct_144 fr
      · --
        have i32 : Iv v28 1 1 := iv_ne1 c29 p28_1 (⟨by decide, by decide⟩ : Iv 0 0 0) (by decide)
        have i33 : Iv v26 49 57 := (fun h => iv_rel (p28_2 h) (⟨by decide, by decide⟩ : Iv 49 49 49) (⟨by decide, by decide⟩ : Iv 57 57 57)) c29
        have i34 : Iv v4 0 79 := (fun h => kn_iv2 (((kp_p eσ7).trans (kp_s eσ5))) (p26_2 h)) (ge0_iv i33 (by decide))
        refine lv_aload_n hx hb dX11_readAct_129 rfl (lv_at hl 0 rfl) ?_
        refine lv_bipush (v := 49) hx hb dX11_readAct_130 (by decide) ?_
        refine lv_bipush (v := 9) hx hb dX11_readAct_132 (by decide) ?_
        refine o_ci hw (oRunV cx hA hw q_X11_oneOf k_m_X11_171 rfl ha0 (by decide) (As := [.int 49, .int 9]) (c_X11_oneOfT a0 ha0 49 (iv_w (⟨by decide, by decide⟩ : Iv 49 49 49) (by decide)) 9 (iv_w (⟨by decide, by decide⟩ : Iv 9 9 9) (by decide)) b0 (((kr_p eσ7).trans ((kr_i eσ5).trans ((kr_c fr_49 (by decide)).trans hF0)))) hb0 (kn_iv (((kp_p eσ7).trans ((kp_i eσ5 (by decide)).trans (kp_c fr_49 (by decide))))) (iv_w hf660 (by decide)))) (by decide) rfl hl.1 rfl (Nat.le_of_ble_eq_true rfl) dX11_readAct_134 (by decide)) (fun v36 σ35 H locs hp hw => ?_)
        obtain ⟨p36_0, p36_1, p36_2⟩ := hp
        have fr := oFr_tr fr p36_0 (by decide)
        have i37 : Iv v36 0 8 := iv_lt0 p36_2 (⟨by decide, by decide⟩ : Iv 9 9 9) (by decide)
        refine lv_iconst (v := 1) hx hb dX11_readAct_137 (by decide) ?_
        refine lv_iadd hx hb dX11_readAct_138 ?_
        refine lv_topi (fun v38 e38 => ?_)
        have i38 : Iv v38 1 9 := iv_add e38 i37 (⟨by decide, by decide⟩ : Iv 1 1 1) (by decide)
        have x38 : v38.toInt = v36.toInt + 1 := ex_add e38 i37 (⟨by decide, by decide⟩ : Iv 1 1 1) (by decide)
        refine lv_goto (tgt := 143) hx hb dX11_readAct_139 (by decide) ?_
        refine o_iast cx hw h6 (by decide) rfl (iv_in i24 (by decide)) trivial dX11_readAct_143 (fun σ39 H locs eσ39 hw => ?_)
        have fr := oFr_p fr eσ39 h6 (by decide)
        rw [← hQ]
        exact o_rv cx rx hw dX11_readAct_144 fr
    by_cases q40 : v2 = 115
    · --
      refine lv_lookup (off := 78) (tgt := 145) hx hb dX11_readAct_67 (by decide) (by rw [q40] <;> decide) (by decide) ?_
      have i41 : Iv v2 115 115 := iv_eq1 q40 p2_1 (⟨by decide, by decide⟩ : Iv 115 115 115) (by decide)
      refine lv_aload_n hx hb dX11_readAct_145 rfl (lv_at hl 0 rfl) ?_
      refine g_674 cx hw ha0 k_f_X11_61 dX11_readAct_146 (fun v42 e42 h42 => ?_)
      rw [show v42 = v6 from Option.some.inj (e42.symm.trans (((kr_p eσ7).trans e6)))]
      refine lv_iload_n hx hb dX11_readAct_149 rfl (lv_at hl 1 rfl) ?_
      refine lv_iconst (v := 1) hx hb dX11_readAct_150 (by decide) ?_
      refine lv_iadd hx hb dX11_readAct_151 ?_
      refine lv_topi (fun v43 e43 => ?_)
      have i43 : Iv v43 1 317 := iv_add e43 ia1 (⟨by decide, by decide⟩ : Iv 1 1 1) (by decide)
      have x43 : v43.toInt = a1.toInt + 1 := ex_add e43 ia1 (⟨by decide, by decide⟩ : Iv 1 1 1) (by decide)
      refine lv_aload_n hx hb dX11_readAct_152 rfl (lv_at hl 0 rfl) ?_
      refine o_ci hw (oRunV cx hA hw q_X11_readCell k_m_X11_302 rfl ha0 (by decide) (As := []) (c_X11_readCell a0 ha0 b0 (((kr_p eσ7).trans ((kr_i eσ5).trans ((kr_c fr_49 (by decide)).trans hF0)))) hb0 (kn_iv (((kp_p eσ7).trans ((kp_i eσ5 (by decide)).trans (kp_c fr_49 (by decide))))) (iv_w hf660 (by decide)))) (by decide) rfl hl.1 rfl (Nat.le_of_ble_eq_true rfl) dX11_readAct_153 (by decide)) (fun v45 σ44 H locs hp hw => ?_)
      obtain ⟨p45_0, p45_1⟩ := hp
      have fr := oFr_tr fr p45_0 (by decide)
      refine o_iast cx hw h6 (by decide) rfl (iv_in i43 (by decide)) trivial dX11_readAct_156 (fun σ46 H locs eσ46 hw => ?_)
      have fr := oFr_p fr eσ46 h6 (by decide)
      refine lv_aload_n hx hb dX11_readAct_157 rfl (lv_at hl 0 rfl) ?_
      refine g_674 cx hw ha0 k_f_X11_61 dX11_readAct_158 (fun v47 e47 h47 => ?_)
      rw [show v47 = v6 from Option.some.inj (e47.symm.trans (((kr_p eσ46).trans ((kr_c p45_0 (by decide)).trans ((kr_p eσ7).trans e6)))))]
      refine lv_iload_n hx hb dX11_readAct_161 rfl (lv_at hl 1 rfl) ?_
      refine lv_iconst (v := 2) hx hb dX11_readAct_162 (by decide) ?_
      refine lv_iadd hx hb dX11_readAct_163 ?_
      refine lv_topi (fun v48 e48 => ?_)
      have i48 : Iv v48 2 318 := iv_add e48 ia1 (⟨by decide, by decide⟩ : Iv 2 2 2) (by decide)
      have x48 : v48.toInt = a1.toInt + 2 := ex_add e48 ia1 (⟨by decide, by decide⟩ : Iv 2 2 2) (by decide)
      refine lv_aload_n hx hb dX11_readAct_164 rfl (lv_at hl 0 rfl) ?_
      refine lv_bipush (v := 48) hx hb dX11_readAct_165 (by decide) ?_
      refine lv_bipush (v := 10) hx hb dX11_readAct_167 (by decide) ?_
      refine o_ci hw (oRunV cx hA hw q_X11_oneOf k_m_X11_171 rfl ha0 (by decide) (As := [.int 48, .int 10]) (c_X11_oneOfT a0 ha0 48 (iv_w (⟨by decide, by decide⟩ : Iv 48 48 48) (by decide)) 10 (iv_w (⟨by decide, by decide⟩ : Iv 10 10 10) (by decide)) b0 (((kr_p eσ46).trans ((kr_c p45_0 (by decide)).trans ((kr_p eσ7).trans ((kr_i eσ5).trans ((kr_c fr_49 (by decide)).trans hF0)))))) hb0 (kn_iv (((kp_p eσ46).trans ((kp_c p45_0 (by decide)).trans ((kp_p eσ7).trans ((kp_i eσ5 (by decide)).trans (kp_c fr_49 (by decide))))))) (iv_w hf660 (by decide)))) (by decide) rfl hl.1 rfl (Nat.le_of_ble_eq_true rfl) dX11_readAct_169 (by decide)) (fun v50 σ49 H locs hp hw => ?_)
      obtain ⟨p50_0, p50_1, p50_2⟩ := hp
      have fr := oFr_tr fr p50_0 (by decide)
      have i51 : Iv v50 0 9 := iv_lt0 p50_2 (⟨by decide, by decide⟩ : Iv 10 10 10) (by decide)
      refine o_iast cx hw h6 (by decide) rfl (iv_in i48 (by decide)) trivial dX11_readAct_172 (fun σ52 H locs eσ52 hw => ?_)
      have fr := oFr_p fr eσ52 h6 (by decide)
      rw [← hQ]
      exact o_rv cx rx hw dX11_readAct_173 fr
    by_cases q53 : v2 = 116
    · --
      refine lv_lookup (off := 78) (tgt := 145) hx hb dX11_readAct_67 (by decide) (by rw [q53] <;> decide) (by decide) ?_
      have i54 : Iv v2 116 116 := iv_eq1 q53 p2_1 (⟨by decide, by decide⟩ : Iv 116 116 116) (by decide)
      refine lv_aload_n hx hb dX11_readAct_145 rfl (lv_at hl 0 rfl) ?_
      refine g_674 cx hw ha0 k_f_X11_61 dX11_readAct_146 (fun v55 e55 h55 => ?_)
      rw [show v55 = v6 from Option.some.inj (e55.symm.trans (((kr_p eσ7).trans e6)))]
      refine lv_iload_n hx hb dX11_readAct_149 rfl (lv_at hl 1 rfl) ?_
      refine lv_iconst (v := 1) hx hb dX11_readAct_150 (by decide) ?_
      refine lv_iadd hx hb dX11_readAct_151 ?_
      refine lv_topi (fun v56 e56 => ?_)
      have i56 : Iv v56 1 317 := iv_add e56 ia1 (⟨by decide, by decide⟩ : Iv 1 1 1) (by decide)
      have x56 : v56.toInt = a1.toInt + 1 := ex_add e56 ia1 (⟨by decide, by decide⟩ : Iv 1 1 1) (by decide)
      refine lv_aload_n hx hb dX11_readAct_152 rfl (lv_at hl 0 rfl) ?_
      refine o_ci hw (oRunV cx hA hw q_X11_readCell k_m_X11_302 rfl ha0 (by decide) (As := []) (c_X11_readCell a0 ha0 b0 (((kr_p eσ7).trans ((kr_i eσ5).trans ((kr_c fr_49 (by decide)).trans hF0)))) hb0 (kn_iv (((kp_p eσ7).trans ((kp_i eσ5 (by decide)).trans (kp_c fr_49 (by decide))))) (iv_w hf660 (by decide)))) (by decide) rfl hl.1 rfl (Nat.le_of_ble_eq_true rfl) dX11_readAct_153 (by decide)) (fun v58 σ57 H locs hp hw => ?_)
      obtain ⟨p58_0, p58_1⟩ := hp
      have fr := oFr_tr fr p58_0 (by decide)
      refine o_iast cx hw h6 (by decide) rfl (iv_in i56 (by decide)) trivial dX11_readAct_156 (fun σ59 H locs eσ59 hw => ?_)
      have fr := oFr_p fr eσ59 h6 (by decide)
      refine lv_aload_n hx hb dX11_readAct_157 rfl (lv_at hl 0 rfl) ?_
      refine g_674 cx hw ha0 k_f_X11_61 dX11_readAct_158 (fun v60 e60 h60 => ?_)
      rw [show v60 = v6 from Option.some.inj (e60.symm.trans (((kr_p eσ59).trans ((kr_c p58_0 (by decide)).trans ((kr_p eσ7).trans e6)))))]
      refine lv_iload_n hx hb dX11_readAct_161 rfl (lv_at hl 1 rfl) ?_
      refine lv_iconst (v := 2) hx hb dX11_readAct_162 (by decide) ?_
      refine lv_iadd hx hb dX11_readAct_163 ?_
      refine lv_topi (fun v61 e61 => ?_)
      have i61 : Iv v61 2 318 := iv_add e61 ia1 (⟨by decide, by decide⟩ : Iv 2 2 2) (by decide)
      have x61 : v61.toInt = a1.toInt + 2 := ex_add e61 ia1 (⟨by decide, by decide⟩ : Iv 2 2 2) (by decide)
      refine lv_aload_n hx hb dX11_readAct_164 rfl (lv_at hl 0 rfl) ?_
      refine lv_bipush (v := 48) hx hb dX11_readAct_165 (by decide) ?_
      refine lv_bipush (v := 10) hx hb dX11_readAct_167 (by decide) ?_
      refine o_ci hw (oRunV cx hA hw q_X11_oneOf k_m_X11_171 rfl ha0 (by decide) (As := [.int 48, .int 10]) (c_X11_oneOfT a0 ha0 48 (iv_w (⟨by decide, by decide⟩ : Iv 48 48 48) (by decide)) 10 (iv_w (⟨by decide, by decide⟩ : Iv 10 10 10) (by decide)) b0 (((kr_p eσ59).trans ((kr_c p58_0 (by decide)).trans ((kr_p eσ7).trans ((kr_i eσ5).trans ((kr_c fr_49 (by decide)).trans hF0)))))) hb0 (kn_iv (((kp_p eσ59).trans ((kp_c p58_0 (by decide)).trans ((kp_p eσ7).trans ((kp_i eσ5 (by decide)).trans (kp_c fr_49 (by decide))))))) (iv_w hf660 (by decide)))) (by decide) rfl hl.1 rfl (Nat.le_of_ble_eq_true rfl) dX11_readAct_169 (by decide)) (fun v63 σ62 H locs hp hw => ?_)
      obtain ⟨p63_0, p63_1, p63_2⟩ := hp
      have fr := oFr_tr fr p63_0 (by decide)
      have i64 : Iv v63 0 9 := iv_lt0 p63_2 (⟨by decide, by decide⟩ : Iv 10 10 10) (by decide)
      refine o_iast cx hw h6 (by decide) rfl (iv_in i61 (by decide)) trivial dX11_readAct_172 (fun σ65 H locs eσ65 hw => ?_)
      have fr := oFr_p fr eσ65 h6 (by decide)
      rw [← hQ]
      exact o_rv cx rx hw dX11_readAct_173 fr
    have q8 := iv_nt q8 (k := 100) (by decide)
    have q21 := iv_nt q21 (k := 104) (by decide)
    have q40 := iv_nt q40 (k := 115) (by decide)
    have q53 := iv_nt q53 (k := 116) (by decide)
    refine lv_lookup (off := 136) (tgt := 203) hx hb dX11_readAct_67 (by decide) (by simp [Op.lookupswitch.offset, q8, Ne.symm q8, q21, Ne.symm q21, q40, Ne.symm q40, q53, Ne.symm q53]) (by decide) ?_
    refine lv_aload_n hx hb dX11_readAct_203 rfl (lv_at hl 0 rfl) ?_
    refine g_674 cx hw ha0 k_f_X11_61 dX11_readAct_204 (fun v66 e66 h66 => ?_)
    rw [show v66 = v6 from Option.some.inj (e66.symm.trans (((kr_p eσ7).trans e6)))]
    refine lv_iload_n hx hb dX11_readAct_207 rfl (lv_at hl 1 rfl) ?_
    refine lv_iconst (v := 1) hx hb dX11_readAct_208 (by decide) ?_
    refine lv_iadd hx hb dX11_readAct_209 ?_
    refine lv_topi (fun v67 e67 => ?_)
    have i67 : Iv v67 1 317 := iv_add e67 ia1 (⟨by decide, by decide⟩ : Iv 1 1 1) (by decide)
    have x67 : v67.toInt = a1.toInt + 1 := ex_add e67 ia1 (⟨by decide, by decide⟩ : Iv 1 1 1) (by decide)
    refine lv_aload_n hx hb dX11_readAct_210 rfl (lv_at hl 0 rfl) ?_
    refine lv_bipush (v := 48) hx hb dX11_readAct_211 (by decide) ?_
    refine lv_bipush (v := 10) hx hb dX11_readAct_213 (by decide) ?_
    refine o_ci hw (oRunV cx hA hw q_X11_oneOf k_m_X11_171 rfl ha0 (by decide) (As := [.int 48, .int 10]) (c_X11_oneOfT a0 ha0 48 (iv_w (⟨by decide, by decide⟩ : Iv 48 48 48) (by decide)) 10 (iv_w (⟨by decide, by decide⟩ : Iv 10 10 10) (by decide)) b0 (((kr_p eσ7).trans ((kr_i eσ5).trans ((kr_c fr_49 (by decide)).trans hF0)))) hb0 (kn_iv (((kp_p eσ7).trans ((kp_i eσ5 (by decide)).trans (kp_c fr_49 (by decide))))) (iv_w hf660 (by decide)))) (by decide) rfl hl.1 rfl (Nat.le_of_ble_eq_true rfl) dX11_readAct_215 (by decide)) (fun v69 σ68 H locs hp hw => ?_)
    obtain ⟨p69_0, p69_1, p69_2⟩ := hp
    have fr := oFr_tr fr p69_0 (by decide)
    have i70 : Iv v69 0 9 := iv_lt0 p69_2 (⟨by decide, by decide⟩ : Iv 10 10 10) (by decide)
    refine o_iast cx hw h6 (by decide) rfl (iv_in i67 (by decide)) trivial dX11_readAct_218 (fun σ71 H locs eσ71 hw => ?_)
    have fr := oFr_p fr eσ71 h6 (by decide)
    rw [← hQ]
    exact o_rv cx rx hw dX11_readAct_219 fr
  refine lv_icmp_eq (tgt := 49) hx hb dX11_readAct_8 (by decide) (fun c72 => ?_) (fun c72 => ?_)
  · --
    have i73 : Iv v2 104 104 := iv_eq1 c72 p2_1 (⟨by decide, by decide⟩ : Iv 104 104 104) (by decide)
    have i74 : Iv (σ.1 662 a0) 0 79 := (fun h => kn_iv2 (rfl) (p2_2 h)) (ge0_iv i73 (by decide))
    exact J_49 σ _ _ hw fr (kn_iv (rfl) (iv_w i74 (by decide))) _ (lv_sub hl [1, 2, 0] rfl)
  · --
    refine lv_iload_n hx hb dX11_readAct_11 rfl (lv_at hl 0 rfl) ?_
    refine lv_bipush (v := 115) hx hb dX11_readAct_12 (by decide) ?_
    refine lv_icmp_eq (tgt := 49) hx hb dX11_readAct_14 (by decide) (fun c75 => ?_) (fun c75 => ?_)
    · --
      have i76 : Iv v2 115 115 := iv_eq1 c75 p2_1 (⟨by decide, by decide⟩ : Iv 115 115 115) (by decide)
      have i77 : Iv (σ.1 662 a0) 0 79 := (fun h => kn_iv2 (rfl) (p2_2 h)) (ge0_iv i76 (by decide))
      exact J_49 σ _ _ hw fr (kn_iv (rfl) (iv_w i77 (by decide))) _ (lv_sub hl [1, 2, 0] rfl)
    · --
      refine lv_iload_n hx hb dX11_readAct_17 rfl (lv_at hl 0 rfl) ?_
      refine lv_bipush (v := 116) hx hb dX11_readAct_18 (by decide) ?_
      refine lv_icmp_eq (tgt := 49) hx hb dX11_readAct_20 (by decide) (fun c78 => ?_) (fun c78 => ?_)
      · --
        have i79 : Iv v2 116 116 := iv_eq1 c78 p2_1 (⟨by decide, by decide⟩ : Iv 116 116 116) (by decide)
        have i80 : Iv (σ.1 662 a0) 0 79 := (fun h => kn_iv2 (rfl) (p2_2 h)) (ge0_iv i79 (by decide))
        exact J_49 σ _ _ hw fr (kn_iv (rfl) (iv_w i80 (by decide))) _ (lv_sub hl [1, 2, 0] rfl)
      · --
        refine lv_iload_n hx hb dX11_readAct_23 rfl (lv_at hl 0 rfl) ?_
        refine lv_bipush (v := 111) hx hb dX11_readAct_24 (by decide) ?_
        refine lv_icmp_eq (tgt := 49) hx hb dX11_readAct_26 (by decide) (fun c81 => ?_) (fun c81 => ?_)
        · --
          have i82 : Iv v2 111 111 := iv_eq1 c81 p2_1 (⟨by decide, by decide⟩ : Iv 111 111 111) (by decide)
          have i83 : Iv (σ.1 662 a0) 0 79 := (fun h => kn_iv2 (rfl) (p2_2 h)) (ge0_iv i82 (by decide))
          exact J_49 σ _ _ hw fr (kn_iv (rfl) (iv_w i83 (by decide))) _ (lv_sub hl [1, 2, 0] rfl)
        · --
          refine lv_iload_n hx hb dX11_readAct_29 rfl (lv_at hl 0 rfl) ?_
          refine lv_bipush (v := 99) hx hb dX11_readAct_30 (by decide) ?_
          refine lv_icmp_eq (tgt := 49) hx hb dX11_readAct_32 (by decide) (fun c84 => ?_) (fun c84 => ?_)
          · --
            have i85 : Iv v2 99 99 := iv_eq1 c84 p2_1 (⟨by decide, by decide⟩ : Iv 99 99 99) (by decide)
            have i86 : Iv (σ.1 662 a0) 0 79 := (fun h => kn_iv2 (rfl) (p2_2 h)) (ge0_iv i85 (by decide))
            exact J_49 σ _ _ hw fr (kn_iv (rfl) (iv_w i86 (by decide))) _ (lv_sub hl [1, 2, 0] rfl)
          · --
            refine lv_iload_n hx hb dX11_readAct_35 rfl (lv_at hl 0 rfl) ?_
            refine lv_bipush (v := 100) hx hb dX11_readAct_36 (by decide) ?_
            refine lv_icmp_eq (tgt := 49) hx hb dX11_readAct_38 (by decide) (fun c87 => ?_) (fun c87 => ?_)
            · --
              have i88 : Iv v2 100 100 := iv_eq1 c87 p2_1 (⟨by decide, by decide⟩ : Iv 100 100 100) (by decide)
              have i89 : Iv (σ.1 662 a0) 0 79 := (fun h => kn_iv2 (rfl) (p2_2 h)) (ge0_iv i88 (by decide))
              exact J_49 σ _ _ hw fr (kn_iv (rfl) (iv_w i89 (by decide))) _ (lv_sub hl [1, 2, 0] rfl)
            · --
              refine lv_aload_n hx hb dX11_readAct_41 rfl (lv_at hl 1 rfl) ?_
              refine lv_aload_n hx hb dX11_readAct_42 rfl (lv_at hl 1 rfl) ?_
              refine g_662 cx hw ha0 k_f_X11_120 dX11_readAct_43 (fun v90 e90 i90 => ?_)
              rw [show v90 = (σ.1 662 a0) from e90.trans rfl]
              refine o_cv hw (oRunV cx hA hw q_X11_fault k_m_X11_138 rfl ha0 (by decide) (As := [.int (σ.1 662 a0)]) (c_X11_fault a0 ha0 (σ.1 662 a0)) (by decide) rfl hl.1 rfl (Nat.le_of_ble_eq_true rfl) dX11_readAct_46 (by decide)) (fun σ91 H locs hp hw => ?_)
              have p92_0 := hp
              have fr := oFr_tr fr p92_0 (by decide)
              exact J_49 σ91 _ _ hw fr (kn_iv (((kp_c p92_0 (by decide)).trans rfl)) (iv_w hf662 (by decide))) _ (lv_sub hl [1, 2, 0] rfl)
abbrev fs_X11_undo : List Nat := [658, 672]
abbrev ts_X11_undo : List Nat := [48]
set_option maxHeartbeats 4000000 in
set_option maxRecDepth 100000 in
theorem c_X11_undo (a0 : Nat) (ha0 : oA L τ a0 10) : oMet l A L τ cy D K yX11_undo cX11_undo 2 (some .int) 0 0 [.ref a0] σ (va_Qi (fun r σ1 => oFr τ fs_X11_undo ts_X11_undo σ σ1 ∧ Iv r (-1) 9) (oPo A L τ cy D) A) := by
  refine oMk (by decide) (Nat.le_of_ble_eq_true rfl) rfl ?_
  intro p e s m args below meth c ls cx rx hA hw hl
  generalize hQ : MQ below _ args s 0 0 A = Q
  have hx := cx.1.1
  have hb := cx.1.2.1
  have hml := cx.1.2.2.1
  have hown := cx.1.2.2.2.1
  have hts := cx.1.2.2.2.2
  have hl : lv_has ls 2 [(0, .ref a0)] := hl
  have fr : oFr τ fs_X11_undo ts_X11_undo σ σ := oFr_rf
  refine lv_aload_n hx hb dX11_undo_0 rfl (lv_at hl 0 rfl) ?_
  refine lv_iconst (v := 0) hx hb dX11_undo_1 (by decide) ?_
  refine p_658 cx hw ha0 k_f_X11_89 dX11_undo_2 (fun σ1 H locs eσ1 hw => ?_)
  have fr := oFr_i fr eσ1 (by decide)
  refine lv_aload_n hx hb dX11_undo_5 rfl (lv_at hl 0 rfl) ?_
  refine g_672 cx hw ha0 k_f_X11_168 dX11_undo_6 (fun v2 e2 i2 => ?_)
  refine lv_if_ne (tgt := 14) hx hb dX11_undo_9 (by decide) (fun c3 => ?_) (fun c3 => ?_)
  · --
    have i4 : Iv v2 1 10 := iv_ne1 c3 i2 (⟨by decide, by decide⟩ : Iv 0 0 0) (by decide)
    refine lv_aload_n hx hb dX11_undo_14 rfl (lv_at hl 0 rfl) ?_
    refine lv_dup hx hb dX11_undo_15 rfl ?_
    refine g_672 cx hw ha0 k_f_X11_168 dX11_undo_16 (fun v5 e5 i5 => ?_)
    rw [show v5 = v2 from e5.trans e2.symm]
    refine lv_iconst (v := 1) hx hb dX11_undo_19 (by decide) ?_
    refine lv_isub hx hb dX11_undo_20 ?_
    refine lv_topi (fun v6 e6 => ?_)
    have i6 : Iv v6 0 9 := iv_sub e6 i4 (⟨by decide, by decide⟩ : Iv 1 1 1) (by decide)
    have x6 : v6.toInt = v2.toInt + (-1) := ex_sub e6 i4 (⟨by decide, by decide⟩ : Iv 1 1 1) (by decide)
    refine p_672 cx hw ha0 (iv_w i6 (by decide)) k_f_X11_168 dX11_undo_21 (fun σ7 H locs eσ7 hw => ?_)
    have fr := oFr_i fr eσ7 (by decide)
    refine lv_iconst (v := 0) hx hb dX11_undo_24 (by decide) ?_
    refine lv_istore_n (lv' := [(1, .int 0), (0, .ref a0)]) hx hb dX11_undo_25 rfl hl (by decide) rfl (fun ls hl => ?_)
    have J_26 : ∀ n : Nat, ∀ (j26_1 : Int32) (ij26_1 : Iv j26_1 0 334), (334 - j26_1.toInt).toNat < n → ∀ (σ_26 : oSt) (H : Heap) (locs : List Loc), oI A L τ cy D s.heap σ_26 H locs → oFr τ fs_X11_undo ts_X11_undo σ σ_26 → Iv (σ_26.1 672 a0) 0 9 → ∀ (ls : Array Slot), lv_has ls 2 [(0, .ref a0), (1, .int j26_1)] → W p l e ({ frames := 0, cells := 0, slots := 0, locals := 0 } : Room) s m args below meth c H locs 0 0 Q (F0 m 26 ls []) := by
      intro n
      induction n with
      | zero => intro j26_1 ij26_1 hn_26  σ_26 H locs hw fr f26_672_a0  ls hl; exact absurd hn_26 (Nat.not_lt_zero _)
      | succ n ih_26 =>
        intro j26_1 ij26_1 hn_26  σ_26 H locs hw fr f26_672_a0  ls hl
        refine lv_iload_n hx hb dX11_undo_26 rfl (lv_at hl 1 rfl) ?_
        refine lv_sipush (v := 334) hx hb dX11_undo_27 (by decide) ?_
        refine lv_icmp_ge (tgt := 60) hx hb dX11_undo_30 (by decide) (fun c8 => ?_) (fun c8 => ?_)
        · --
          have i9 : Iv j26_1 334 334 := iv_le2 c8 (⟨by decide, by decide⟩ : Iv 334 334 334) ij26_1 (by decide)
          refine lv_aload_n hx hb dX11_undo_60 rfl (lv_at hl 0 rfl) ?_
          refine g_672 cx hw ha0 k_f_X11_168 dX11_undo_61 (fun v10 e10 i10 => ?_)
          rw [show v10 = (σ_26.1 672 a0) from e10.trans rfl]
          rw [← hQ]
          exact o_ri cx rx hw dX11_undo_64 ⟨fr, (iv_w f26_672_a0 (by decide))⟩
        · --
          have i11 : Iv j26_1 0 333 := iv_lt1 (iv_nle c8) ij26_1 (⟨by decide, by decide⟩ : Iv 334 334 334) (by decide)
          refine lv_aload_n hx hb dX11_undo_33 rfl (lv_at hl 0 rfl) ?_
          refine g_640 cx hw ha0 k_f_X11_9 dX11_undo_34 (fun v12 e12 h12 => ?_)
          refine lv_iload_n hx hb dX11_undo_37 rfl (lv_at hl 1 rfl) ?_
          refine lv_aload_n hx hb dX11_undo_38 rfl (lv_at hl 0 rfl) ?_
          refine g_671 cx hw ha0 k_f_X11_55 dX11_undo_39 (fun v13 e13 h13 => ?_)
          refine lv_sipush (v := 334) hx hb dX11_undo_42 (by decide) ?_
          refine lv_aload_n hx hb dX11_undo_45 rfl (lv_at hl 0 rfl) ?_
          refine g_672 cx hw ha0 k_f_X11_168 dX11_undo_46 (fun v14 e14 i14 => ?_)
          rw [show v14 = (σ_26.1 672 a0) from e14.trans rfl]
          refine lv_imul hx hb dX11_undo_49 ?_
          refine lv_topi (fun v15 e15 => ?_)
          have i15 : Iv v15 0 3006 := iv_mul e15 (⟨by decide, by decide⟩ : Iv 334 334 334) f26_672_a0 (by decide)
          refine lv_iload_n hx hb dX11_undo_50 rfl (lv_at hl 1 rfl) ?_
          refine lv_iadd hx hb dX11_undo_51 ?_
          refine lv_topi (fun v16 e16 => ?_)
          have i16 : Iv v16 0 3339 := iv_add e16 i15 i11 (by decide)
          refine o_iald cx hw h13 (by decide) rfl (iv_in i16 (by decide)) dX11_undo_52 (fun v17 e17 b17 => ?_)
          refine o_iast cx hw h12 (by decide) rfl (iv_in i11 (by decide)) (rb_cp i11 i16 (by decide) b17 (by have q := ex_add e16 i15 i11 (by decide); have q2 := ex_mul e15 (⟨by decide, by decide⟩ : Iv 334 334 334) f26_672_a0 (by decide); have q3 : (334 : Int32).toInt = 334 := (by decide); rw [q3] at q2; have q4 := (i11).1; have q5 := (i11).2; omega)) dX11_undo_53 (fun σ18 H locs eσ18 hw => ?_)
          have fr := oFr_p fr eσ18 h12 (by decide)
          obtain ⟨v19, e19⟩ : ∃ y : Int32, y = j26_1 + 1 := ⟨_, rfl⟩
          have i19 : Iv v19 1 334 := iv_add e19 i11 (⟨by decide, by decide⟩ : Iv 1 1 1) (by decide)
          have x19 : v19.toInt = j26_1.toInt + 1 := ex_add e19 i11 (⟨by decide, by decide⟩ : Iv 1 1 1) (by decide)
          refine lv_iinc (v := v19) (lv' := [(1, .int v19), (0, .ref a0)]) hx hb dX11_undo_54 hl (k := 1) rfl (by rw [e19]; rfl) (by decide) rfl (fun ls hl => ?_)
          refine lv_goto (tgt := 26) hx hb dX11_undo_57 (by decide) ?_
          exact ih_26 v19 (iv_w i19 (by decide)) (ms_up x19 (by decide) (iv_w (a' := 0) (b' := 334) i19 (by decide)).2 hn_26) σ18 _ _ hw fr (kn_iv (((kp_p eσ18).trans rfl)) (iv_w f26_672_a0 (by decide))) _ (lv_sub hl [1, 0] rfl)
    exact J_26 _ 0 (iv_w (⟨by decide, by decide⟩ : Iv 0 0 0) (by decide)) (Nat.lt_succ_self _) σ7 _ _ hw fr (kn_iv ((kp_s eσ7)) (iv_w i6 (by decide))) _ (lv_sub hl [1, 0] rfl)
  · --
    have i20 : Iv v2 0 0 := iv_eq1 c3 i2 (⟨by decide, by decide⟩ : Iv 0 0 0) (by decide)
    refine lv_iconst (v := (-1)) hx hb dX11_undo_12 (by decide) ?_
    rw [← hQ]
    exact o_ri cx rx hw dX11_undo_13 ⟨fr, (iv_w (⟨by decide, by decide⟩ : Iv (-1) (-1) (-1)) (by decide))⟩
set_option maxHeartbeats 4000000 in
set_option maxRecDepth 100000 in
theorem c_X11_roadOf (a0 : Nat) (ha0 : oA L τ a0 10) (a1 : Nat) (ha1 : oA L τ a1 48) : oMet l A L τ cy D K yX11_roadOf cX11_roadOf 5 (some .long) 2 43 [.ref a0, .ref a1] σ (va_Ql (fun r σ1 => σ1 = σ) (oPo A L τ cy D) A) := by
  refine oMk (by decide) (Nat.le_of_ble_eq_true rfl) rfl ?_
  intro p e s m args below meth c ls cx rx hA hw hl
  generalize hQ : MQ below _ args s 0 0 A = Q
  have hx := cx.1.1
  have hb := cx.1.2.1
  have hml := cx.1.2.2.1
  have hown := cx.1.2.2.2.1
  have hts := cx.1.2.2.2.2
  have hl : lv_has ls 5 [(0, .ref a0), (1, .ref a1)] := hl
  refine lv_lconst (v := 0) hx hb dX11_roadOf_0 (by decide) ?_
  refine lv_lstore_n (lv' := [(2, .long 0), (0, .ref a0), (1, .ref a1)]) hx hb dX11_roadOf_1 rfl hl (by decide) rfl (fun ls hl => ?_)
  refine lv_iconst (v := 0) hx hb dX11_roadOf_2 (by decide) ?_
  refine lv_istore (lv' := [(4, .int 0), (2, .long 0), (0, .ref a0), (1, .ref a1)]) hx hb dX11_roadOf_3 hl (by decide) rfl (fun ls hl => ?_)
  have J_5 : ∀ n : Nat, ∀ (j5_2 : Int64) (j5_4 : Int32) (ij5_4 : Iv j5_4 0 64), (64 - j5_4.toInt).toNat < n → ∀ (H : Heap) (locs : List Loc), oI A L τ cy D s.heap σ H locs → ∀ (ls : Array Slot), lv_has ls 5 [(0, .ref a0), (1, .ref a1), (2, .long j5_2), (4, .int j5_4)] → W p l e ({ frames := 2, cells := 0, slots := 0, locals := 43 } : Room) s m args below meth c H locs 0 0 Q (F0 m 5 ls []) := by
    intro n
    induction n with
    | zero => intro j5_2 j5_4 ij5_4 hn_5  H locs hw  ls hl; exact absurd hn_5 (Nat.not_lt_zero _)
    | succ n ih_5 =>
      intro j5_2 j5_4 ij5_4 hn_5  H locs hw  ls hl
      refine lv_iload hx hb dX11_roadOf_5 (lv_at hl 3 rfl) ?_
      refine lv_bipush (v := 64) hx hb dX11_roadOf_7 (by decide) ?_
      refine lv_icmp_ge (tgt := 48) hx hb dX11_roadOf_9 (by decide) (fun c1 => ?_) (fun c1 => ?_)
      · --
        have i2 : Iv j5_4 64 64 := iv_le2 c1 (⟨by decide, by decide⟩ : Iv 64 64 64) ij5_4 (by decide)
        refine lv_lload_n hx hb dX11_roadOf_48 rfl (lv_at hl 2 rfl) ?_
        rw [← hQ]
        exact o_rl cx rx hw dX11_roadOf_49 rfl
      · --
        have i3 : Iv j5_4 0 63 := iv_lt1 (iv_nle c1) ij5_4 (⟨by decide, by decide⟩ : Iv 64 64 64) (by decide)
        refine lv_lload_n hx hb dX11_roadOf_12 rfl (lv_at hl 2 rfl) ?_
        refine lv_aload_n hx hb dX11_roadOf_13 rfl (lv_at hl 0 rfl) ?_
        refine lv_iload hx hb dX11_roadOf_14 (lv_at hl 3 rfl) ?_
        refine o_ci hw (oRunV cx hA hw q_X11_isCell k_m_X11_157 rfl ha0 (by decide) (As := [.int j5_4]) (c_X11_isCell a0 ha0 j5_4) (by decide) rfl hl.1 rfl (Nat.le_of_ble_eq_true rfl) dX11_roadOf_16 (by decide)) (fun v5 σ4 H locs hp hw => ?_)
        obtain ⟨p5_0, p5_1, p5_2⟩ := hp
        rw [p5_0] at hw
        have J_40 : ∀ (k40_1 : Int64), ∀ (H : Heap) (locs : List Loc), oI A L τ cy D s.heap σ H locs → ∀ (ls : Array Slot), lv_has ls 5 [(0, .ref a0), (1, .ref a1), (2, .long j5_2), (4, .int j5_4)] → W p l e ({ frames := 2, cells := 0, slots := 0, locals := 43 } : Room) s m args below meth c H locs 0 0 Q (F0 m 40 ls [.long k40_1, .long j5_2]) := by
          intro k40_1   H locs hw  ls hl
          refine lv_lor hx hb dX11_roadOf_40 ?_
          refine lv_topl (fun v6 e6 => ?_)
          refine lv_lstore_n (lv' := [(2, .long v6), (0, .ref a0), (1, .ref a1), (4, .int j5_4)]) hx hb dX11_roadOf_41 rfl hl (by decide) rfl (fun ls hl => ?_)
          obtain ⟨v7, e7⟩ : ∃ y : Int32, y = j5_4 + 1 := ⟨_, rfl⟩
          have i7 : Iv v7 1 64 := iv_add e7 i3 (⟨by decide, by decide⟩ : Iv 1 1 1) (by decide)
          have x7 : v7.toInt = j5_4.toInt + 1 := ex_add e7 i3 (⟨by decide, by decide⟩ : Iv 1 1 1) (by decide)
          refine lv_iinc (v := v7) (lv' := [(4, .int v7), (2, .long v6), (0, .ref a0), (1, .ref a1)]) hx hb dX11_roadOf_42 hl (k := 3) rfl (by rw [e7]; rfl) (by decide) rfl (fun ls hl => ?_)
          refine lv_goto (tgt := 5) hx hb dX11_roadOf_45 (by decide) ?_
          exact ih_5 v6 v7 (iv_w i7 (by decide)) (ms_up x7 (by decide) (iv_w (a' := 0) (b' := 64) i7 (by decide)).2 hn_5) _ _ hw _ (lv_sub hl [2, 3, 1, 0] rfl)
        have J_39 : ∀ (H : Heap) (locs : List Loc), oI A L τ cy D s.heap σ H locs → ∀ (ls : Array Slot), lv_has ls 5 [(0, .ref a0), (1, .ref a1), (2, .long j5_2), (4, .int j5_4)] → W p l e ({ frames := 2, cells := 0, slots := 0, locals := 43 } : Room) s m args below meth c H locs 0 0 Q (F0 m 39 ls [.long j5_2]) := by
          intro    H locs hw  ls hl
          refine lv_lconst (v := 0) hx hb dX11_roadOf_39 (by decide) ?_
          exact J_40 0 _ _ hw _ (lv_sub hl [0, 1, 2, 3] rfl)
        refine lv_if_eq (tgt := 39) hx hb dX11_roadOf_19 (by decide) (fun c8 => ?_) (fun c8 => ?_)
        · --
          have i9 : Iv v5 0 0 := iv_eq1 c8 p5_1 (⟨by decide, by decide⟩ : Iv 0 0 0) (by decide)
          exact J_39 _ _ hw _ (lv_sub hl [0, 1, 2, 3] rfl)
        · --
          have i10 : Iv v5 1 1 := iv_ne1 c8 p5_1 (⟨by decide, by decide⟩ : Iv 0 0 0) (by decide)
          have i11 : Iv j5_4 0 63 := p5_2 c8
          refine lv_aload_n hx hb dX11_roadOf_22 rfl (lv_at hl 0 rfl) ?_
          refine lv_aload_n hx hb dX11_roadOf_23 rfl (lv_at hl 1 rfl) ?_
          refine lv_iload hx hb dX11_roadOf_24 (lv_at hl 3 rfl) ?_
          refine o_ci hw (oRunV cx hA hw q_X11_isRoad k_m_X11_211 rfl ha0 (by decide) (As := [.ref a1, .int j5_4]) (c_X11_isRoad a0 ha0 a1 ha1 j5_4 (iv_w i11 (by decide))) (by decide) rfl hl.1 rfl (Nat.le_of_ble_eq_true rfl) dX11_roadOf_26 (by decide)) (fun v13 σ12 H locs hp hw => ?_)
          obtain ⟨p13_0, p13_1⟩ := hp
          rw [p13_0] at hw
          refine lv_if_eq (tgt := 39) hx hb dX11_roadOf_29 (by decide) (fun c14 => ?_) (fun c14 => ?_)
          · --
            have i15 : Iv v13 0 0 := iv_eq1 c14 p13_1 (⟨by decide, by decide⟩ : Iv 0 0 0) (by decide)
            exact J_39 _ _ hw _ (lv_sub hl [0, 1, 2, 3] rfl)
          · --
            have i16 : Iv v13 1 1 := iv_ne1 c14 p13_1 (⟨by decide, by decide⟩ : Iv 0 0 0) (by decide)
            refine lv_lconst (v := 1) hx hb dX11_roadOf_32 (by decide) ?_
            refine lv_iload hx hb dX11_roadOf_33 (lv_at hl 3 rfl) ?_
            refine lv_lshl hx hb dX11_roadOf_35 rfl ?_
            refine lv_topl (fun v17 e17 => ?_)
            refine lv_goto (tgt := 40) hx hb dX11_roadOf_36 (by decide) ?_
            exact J_40 v17 _ _ hw _ (lv_sub hl [0, 1, 2, 3] rfl)
  exact J_5 _ 0 0 (iv_w (⟨by decide, by decide⟩ : Iv 0 0 0) (by decide)) (Nat.lt_succ_self _) _ _ hw _ (lv_sub hl [2, 3, 1, 0] rfl)
set_option maxHeartbeats 4000000 in
set_option maxRecDepth 100000 in
theorem c_X11_besides (a0 : Int64) : oMet l A L τ cy D K yX11_besides cX11_besides 2 (some .long) 0 0 [.long a0] σ (va_Ql (fun r σ1 => σ1 = σ) (oPo A L τ cy D) A) := by
  refine oMk (by decide) (Nat.le_of_ble_eq_true rfl) rfl ?_
  intro p e s m args below meth c ls cx rx hA hw hl
  generalize hQ : MQ below _ args s 0 0 A = Q
  have hx := cx.1.1
  have hb := cx.1.2.1
  have hml := cx.1.2.2.1
  have hown := cx.1.2.2.2.1
  have hts := cx.1.2.2.2.2
  have hl : lv_has ls 2 [(0, .long a0)] := hl
  refine lv_lload_n hx hb dX11_besides_0 rfl (lv_at hl 0 rfl) ?_
  refine lv_bipush (v := 8) hx hb dX11_besides_1 (by decide) ?_
  refine lv_lshl hx hb dX11_besides_3 rfl ?_
  refine lv_topl (fun v1 e1 => ?_)
  refine lv_lload_n hx hb dX11_besides_4 rfl (lv_at hl 0 rfl) ?_
  refine lv_bipush (v := 8) hx hb dX11_besides_5 (by decide) ?_
  refine lv_lushr hx hb dX11_besides_7 rfl ?_
  refine lv_topl (fun v2 e2 => ?_)
  refine lv_lor hx hb dX11_besides_8 ?_
  refine lv_topl (fun v3 e3 => ?_)
  refine lv_lload_n hx hb dX11_besides_9 rfl (lv_at hl 0 rfl) ?_
  refine lv_ldc2 (v := 9187201950435737471) hx hb hown (hts _ k_k_X11_305) dX11_besides_10 ?_
  refine lv_land hx hb dX11_besides_13 ?_
  refine lv_topl (fun v4 e4 => ?_)
  refine lv_iconst (v := 1) hx hb dX11_besides_14 (by decide) ?_
  refine lv_lshl hx hb dX11_besides_15 rfl ?_
  refine lv_topl (fun v5 e5 => ?_)
  refine lv_lor hx hb dX11_besides_16 ?_
  refine lv_topl (fun v6 e6 => ?_)
  refine lv_lload_n hx hb dX11_besides_17 rfl (lv_at hl 0 rfl) ?_
  refine lv_ldc2 (v := (-72340172838076674)) hx hb hown (hts _ k_k_X11_307) dX11_besides_18 ?_
  refine lv_land hx hb dX11_besides_21 ?_
  refine lv_topl (fun v7 e7 => ?_)
  refine lv_iconst (v := 1) hx hb dX11_besides_22 (by decide) ?_
  refine lv_lushr hx hb dX11_besides_23 rfl ?_
  refine lv_topl (fun v8 e8 => ?_)
  refine lv_lor hx hb dX11_besides_24 ?_
  refine lv_topl (fun v9 e9 => ?_)
  rw [← hQ]
  exact o_rl cx rx hw dX11_besides_25 rfl
abbrev fs_X11_squares : List Nat := [657, 658]
abbrev ts_X11_squares : List Nat := [52]
set_option maxHeartbeats 4000000 in
set_option maxRecDepth 100000 in
theorem c_X11_squares (a0 : Nat) (ha0 : oA L τ a0 10) : oMet l A L τ cy D K yX11_squares cX11_squares 6 (some .int) 3 67 [.ref a0] σ (va_Qi (fun r σ1 => oFr τ fs_X11_squares ts_X11_squares σ σ1 ∧ Iv r 0 127) (oPo A L τ cy D) A) := by
  refine oMk (by decide) (Nat.le_of_ble_eq_true rfl) rfl ?_
  intro p e s m args below meth c ls cx rx hA hw hl
  generalize hQ : MQ below _ args s 0 0 A = Q
  have hx := cx.1.1
  have hb := cx.1.2.1
  have hml := cx.1.2.2.1
  have hown := cx.1.2.2.2.1
  have hts := cx.1.2.2.2.2
  have hl : lv_has ls 6 [(0, .ref a0)] := hl
  have fr : oFr τ fs_X11_squares ts_X11_squares σ σ := oFr_rf
  refine lv_aload_n hx hb dX11_squares_0 rfl (lv_at hl 0 rfl) ?_
  refine lv_iconst (v := 0) hx hb dX11_squares_1 (by decide) ?_
  refine p_658 cx hw ha0 k_f_X11_89 dX11_squares_2 (fun σ1 H locs eσ1 hw => ?_)
  have fr := oFr_i fr eσ1 (by decide)
  refine lv_aload_n hx hb dX11_squares_5 rfl (lv_at hl 0 rfl) ?_
  refine lv_aload_n hx hb dX11_squares_6 rfl (lv_at hl 0 rfl) ?_
  refine g_640 cx hw ha0 k_f_X11_9 dX11_squares_7 (fun v2 e2 h2 => ?_)
  refine o_cl hw (oRunV cx hA hw q_X11_roadOf k_m_X11_313 rfl ha0 (by decide) (As := [.ref v2]) (c_X11_roadOf a0 ha0 v2 h2) (by decide) rfl hl.1 rfl (Nat.le_of_ble_eq_true rfl) dX11_squares_10 (by decide)) (fun v4 σ3 H locs hp hw => ?_)
  have p4_0 := hp
  rw [p4_0] at hw
  refine lv_lstore_n (lv' := [(1, .long v4), (0, .ref a0)]) hx hb dX11_squares_13 rfl hl (by decide) rfl (fun ls hl => ?_)
  refine lv_lconst (v := 0) hx hb dX11_squares_14 (by decide) ?_
  refine lv_lstore_n (lv' := [(3, .long 0), (1, .long v4), (0, .ref a0)]) hx hb dX11_squares_15 rfl hl (by decide) rfl (fun ls hl => ?_)
  refine lv_iconst (v := 0) hx hb dX11_squares_16 (by decide) ?_
  refine lv_istore (lv' := [(5, .int 0), (3, .long 0), (1, .long v4), (0, .ref a0)]) hx hb dX11_squares_17 hl (by decide) rfl (fun ls hl => ?_)
  have J_19 : ∀ n : Nat, ∀ (j19_3 : Int64) (j19_5 : Int32) (ij19_5 : Iv j19_5 0 64), (64 - j19_5.toInt).toNat < n → ∀ (σ_19 : oSt) (H : Heap) (locs : List Loc), oI A L τ cy D s.heap σ_19 H locs → oFr τ fs_X11_squares ts_X11_squares σ σ_19 → ∀ (ls : Array Slot), lv_has ls 6 [(0, .ref a0), (1, .long v4), (3, .long j19_3), (5, .int j19_5)] → W p l e ({ frames := 3, cells := 0, slots := 0, locals := 67 } : Room) s m args below meth c H locs 0 0 Q (F0 m 19 ls []) := by
    intro n
    induction n with
    | zero => intro j19_3 j19_5 ij19_5 hn_19  σ_19 H locs hw fr   ls hl; exact absurd hn_19 (Nat.not_lt_zero _)
    | succ n ih_19 =>
      intro j19_3 j19_5 ij19_5 hn_19  σ_19 H locs hw fr   ls hl
      refine lv_iload hx hb dX11_squares_19 (lv_at hl 3 rfl) ?_
      refine lv_bipush (v := 64) hx hb dX11_squares_21 (by decide) ?_
      refine lv_icmp_ge (tgt := 68) hx hb dX11_squares_23 (by decide) (fun c5 => ?_) (fun c5 => ?_)
      · --
        have i6 : Iv j19_5 64 64 := iv_le2 c5 (⟨by decide, by decide⟩ : Iv 64 64 64) ij19_5 (by decide)
        refine lv_aload_n hx hb dX11_squares_68 rfl (lv_at hl 0 rfl) ?_
        refine lv_iconst (v := 0) hx hb dX11_squares_69 (by decide) ?_
        refine p_657 cx hw ha0 (iv_w (⟨by decide, by decide⟩ : Iv 0 0 0) (by decide)) k_f_X11_92 dX11_squares_70 (fun σ7 H locs eσ7 hw => ?_)
        have fr := oFr_i fr eσ7 (by decide)
        refine lv_aload_n hx hb dX11_squares_73 rfl (lv_at hl 0 rfl) ?_
        refine lv_lload_n hx hb dX11_squares_74 rfl (lv_at hl 2 rfl) ?_
        refine o_cv hw (oRunV cx hA hw q_X11_tell k_m_X11_278 rfl ha0 (by decide) (As := [.long j19_3]) (c_X11_tell a0 ha0 j19_3 (kn_iv ((kp_s eσ7)) (iv_w (⟨by decide, by decide⟩ : Iv 0 0 0) (by decide)))) (by decide) rfl hl.1 rfl (Nat.le_of_ble_eq_true rfl) dX11_squares_75 (by decide)) (fun σ8 H locs hp hw => ?_)
        obtain ⟨p9_0, p9_1⟩ := hp
        have fr := oFr_tr fr p9_0 (by decide)
        have x11 : (σ8.1 657 a0).toInt = (0 : Int32).toInt + 1 := fin_tr p9_1 ((kp_s eσ7))
        have i10 : Iv (σ8.1 657 a0) 1 1 := iv_fin x11 (⟨by decide, by decide⟩ : Iv 0 0 0) (by decide)
        refine lv_lload_n hx hb dX11_squares_78 rfl (lv_at hl 2 rfl) ?_
        refine o_ci hw (oRunS cx hA hw q_J13_bitCount_95d88 k_m_X11_321 (As := [.long j19_3]) (c_J13_bitCount_95d88 j19_3) (by decide) rfl hl.1 rfl (Nat.le_of_ble_eq_true rfl) dX11_squares_79 (by decide)) (fun v13 σ12 H locs hp hw => ?_)
        obtain ⟨p13_0, p13_1⟩ := hp
        rw [p13_0] at hw
        rw [← hQ]
        exact o_ri cx rx hw dX11_squares_82 ⟨fr, (iv_w p13_1 (by decide))⟩
      · --
        have i14 : Iv j19_5 0 63 := iv_lt1 (iv_nle c5) ij19_5 (⟨by decide, by decide⟩ : Iv 64 64 64) (by decide)
        refine lv_lload_n hx hb dX11_squares_26 rfl (lv_at hl 2 rfl) ?_
        refine lv_lload_n hx hb dX11_squares_27 rfl (lv_at hl 1 rfl) ?_
        refine lv_iload hx hb dX11_squares_28 (lv_at hl 3 rfl) ?_
        refine o_ci hw (oRunS cx hA hw q_X11_has k_m_X11_215 (As := [.long v4, .int j19_5]) (c_X11_has v4 j19_5) (by decide) rfl hl.1 rfl (Nat.le_of_ble_eq_true rfl) dX11_squares_30 (by decide)) (fun v16 σ15 H locs hp hw => ?_)
        obtain ⟨p16_0, p16_1⟩ := hp
        rw [p16_0] at hw
        have J_60 : ∀ (k60_1 : Int64), ∀ (σ_60 : oSt) (H : Heap) (locs : List Loc), oI A L τ cy D s.heap σ_60 H locs → oFr τ fs_X11_squares ts_X11_squares σ σ_60 → ∀ (ls : Array Slot), lv_has ls 6 [(0, .ref a0), (1, .long v4), (3, .long j19_3), (5, .int j19_5)] → W p l e ({ frames := 3, cells := 0, slots := 0, locals := 67 } : Room) s m args below meth c H locs 0 0 Q (F0 m 60 ls [.long k60_1, .long j19_3]) := by
          intro k60_1   σ_60 H locs hw fr   ls hl
          refine lv_lor hx hb dX11_squares_60 ?_
          refine lv_topl (fun v17 e17 => ?_)
          refine lv_lstore_n (lv' := [(3, .long v17), (0, .ref a0), (1, .long v4), (5, .int j19_5)]) hx hb dX11_squares_61 rfl hl (by decide) rfl (fun ls hl => ?_)
          obtain ⟨v18, e18⟩ : ∃ y : Int32, y = j19_5 + 1 := ⟨_, rfl⟩
          have i18 : Iv v18 1 64 := iv_add e18 i14 (⟨by decide, by decide⟩ : Iv 1 1 1) (by decide)
          have x18 : v18.toInt = j19_5.toInt + 1 := ex_add e18 i14 (⟨by decide, by decide⟩ : Iv 1 1 1) (by decide)
          refine lv_iinc (v := v18) (lv' := [(5, .int v18), (3, .long v17), (0, .ref a0), (1, .long v4)]) hx hb dX11_squares_62 hl (k := 3) rfl (by rw [e18]; rfl) (by decide) rfl (fun ls hl => ?_)
          refine lv_goto (tgt := 19) hx hb dX11_squares_65 (by decide) ?_
          exact ih_19 v17 v18 (iv_w i18 (by decide)) (ms_up x18 (by decide) (iv_w (a' := 0) (b' := 64) i18 (by decide)).2 hn_19) σ_60 _ _ hw fr _ (lv_sub hl [2, 3, 1, 0] rfl)
        have J_59 : ∀ (σ_59 : oSt) (H : Heap) (locs : List Loc), oI A L τ cy D s.heap σ_59 H locs → oFr τ fs_X11_squares ts_X11_squares σ σ_59 → ∀ (ls : Array Slot), lv_has ls 6 [(0, .ref a0), (1, .long v4), (3, .long j19_3), (5, .int j19_5)] → W p l e ({ frames := 3, cells := 0, slots := 0, locals := 67 } : Room) s m args below meth c H locs 0 0 Q (F0 m 59 ls [.long j19_3]) := by
          intro    σ_59 H locs hw fr   ls hl
          refine lv_lconst (v := 0) hx hb dX11_squares_59 (by decide) ?_
          exact J_60 0 σ_59 _ _ hw fr _ (lv_sub hl [0, 1, 2, 3] rfl)
        refine lv_if_eq (tgt := 59) hx hb dX11_squares_33 (by decide) (fun c19 => ?_) (fun c19 => ?_)
        · --
          have i20 : Iv v16 0 0 := iv_eq1 c19 p16_1 (⟨by decide, by decide⟩ : Iv 0 0 0) (by decide)
          exact J_59 σ_19 _ _ hw fr _ (lv_sub hl [0, 1, 2, 3] rfl)
        · --
          have i21 : Iv v16 1 1 := iv_ne1 c19 p16_1 (⟨by decide, by decide⟩ : Iv 0 0 0) (by decide)
          refine lv_lconst (v := 1) hx hb dX11_squares_36 (by decide) ?_
          refine lv_iload hx hb dX11_squares_37 (lv_at hl 3 rfl) ?_
          refine lv_lshl hx hb dX11_squares_39 rfl ?_
          refine lv_topl (fun v22 e22 => ?_)
          refine o_cl hw (oRunS cx hA hw q_X11_besides k_m_X11_309 (As := [.long v22]) (c_X11_besides v22) (by decide) rfl hl.1 rfl (Nat.le_of_ble_eq_true rfl) dX11_squares_40 (by decide)) (fun v24 σ23 H locs hp hw => ?_)
          have p24_0 := hp
          rw [p24_0] at hw
          refine lv_lload_n hx hb dX11_squares_43 rfl (lv_at hl 1 rfl) ?_
          refine lv_land hx hb dX11_squares_44 ?_
          refine lv_topl (fun v25 e25 => ?_)
          refine o_ci hw (oRunS cx hA hw q_J13_bitCount_95d88 k_m_X11_321 (As := [.long v25]) (c_J13_bitCount_95d88 v25) (by decide) rfl hl.1 rfl (Nat.le_of_ble_eq_true rfl) dX11_squares_45 (by decide)) (fun v27 σ26 H locs hp hw => ?_)
          obtain ⟨p27_0, p27_1⟩ := hp
          rw [p27_0] at hw
          refine lv_iconst (v := 3) hx hb dX11_squares_48 (by decide) ?_
          refine lv_icmp_lt (tgt := 59) hx hb dX11_squares_49 (by decide) (fun c28 => ?_) (fun c28 => ?_)
          · --
            have i29 : Iv v27 0 2 := iv_lt1 c28 p27_1 (⟨by decide, by decide⟩ : Iv 3 3 3) (by decide)
            exact J_59 σ_19 _ _ hw fr _ (lv_sub hl [0, 1, 2, 3] rfl)
          · --
            have i30 : Iv v27 3 127 := iv_le2 (iv_nlt c28) (⟨by decide, by decide⟩ : Iv 3 3 3) p27_1 (by decide)
            refine lv_lconst (v := 1) hx hb dX11_squares_52 (by decide) ?_
            refine lv_iload hx hb dX11_squares_53 (lv_at hl 3 rfl) ?_
            refine lv_lshl hx hb dX11_squares_55 rfl ?_
            refine lv_topl (fun v31 e31 => ?_)
            refine lv_goto (tgt := 60) hx hb dX11_squares_56 (by decide) ?_
            exact J_60 v31 σ_19 _ _ hw fr _ (lv_sub hl [0, 1, 2, 3] rfl)
  exact J_19 _ 0 0 (iv_w (⟨by decide, by decide⟩ : Iv 0 0 0) (by decide)) (Nat.lt_succ_self _) σ1 _ _ hw fr _ (lv_sub hl [3, 2, 1, 0] rfl)
abbrev fs_X11_owners : List Nat := [657, 658]
abbrev ts_X11_owners : List Nat := [52]
set_option maxHeartbeats 4000000 in
set_option maxRecDepth 100000 in
theorem c_X11_owners (a0 : Nat) (ha0 : oA L τ a0 10) : oMet l A L τ cy D K yX11_owners cX11_owners 8 (some .int) 3 67 [.ref a0] σ (va_Qi (fun r σ1 => oFr τ fs_X11_owners ts_X11_owners σ σ1 ∧ Iv r (-2) 6) (oPo A L τ cy D) A) := by
  refine oMk (by decide) (Nat.le_of_ble_eq_true rfl) rfl ?_
  intro p e s m args below meth c ls cx rx hA hw hl
  generalize hQ : MQ below _ args s 0 0 A = Q
  have hx := cx.1.1
  have hb := cx.1.2.1
  have hml := cx.1.2.2.1
  have hown := cx.1.2.2.2.1
  have hts := cx.1.2.2.2.2
  have hl : lv_has ls 8 [(0, .ref a0)] := hl
  have fr : oFr τ fs_X11_owners ts_X11_owners σ σ := oFr_rf
  refine lv_aload_n hx hb dX11_owners_0 rfl (lv_at hl 0 rfl) ?_
  refine lv_iconst (v := 0) hx hb dX11_owners_1 (by decide) ?_
  refine p_658 cx hw ha0 k_f_X11_89 dX11_owners_2 (fun σ1 H locs eσ1 hw => ?_)
  have fr := oFr_i fr eσ1 (by decide)
  refine lv_aload_n hx hb dX11_owners_5 rfl (lv_at hl 0 rfl) ?_
  refine g_647 cx hw ha0 k_f_X11_105 dX11_owners_6 (fun v2 e2 i2 => ?_)
  refine lv_if_ne (tgt := 15) hx hb dX11_owners_9 (by decide) (fun c3 => ?_) (fun c3 => ?_)
  · --
    have i4 : Iv v2 1 6 := iv_ne1 c3 i2 (⟨by decide, by decide⟩ : Iv 0 0 0) (by decide)
    refine lv_iconst (v := 0) hx hb dX11_owners_15 (by decide) ?_
    refine lv_istore_n (lv' := [(1, .int 0), (0, .ref a0)]) hx hb dX11_owners_16 rfl hl (by decide) rfl (fun ls hl => ?_)
    refine lv_iconst (v := (-1)) hx hb dX11_owners_17 (by decide) ?_
    refine lv_istore_n (lv' := [(2, .int (-1)), (1, .int 0), (0, .ref a0)]) hx hb dX11_owners_18 rfl hl (by decide) rfl (fun ls hl => ?_)
    refine lv_aload_n hx hb dX11_owners_19 rfl (lv_at hl 2 rfl) ?_
    refine lv_aload_n hx hb dX11_owners_20 rfl (lv_at hl 2 rfl) ?_
    refine g_640 cx hw ha0 k_f_X11_9 dX11_owners_21 (fun v5 e5 h5 => ?_)
    refine o_cl hw (oRunV cx hA hw q_X11_roadOf k_m_X11_313 rfl ha0 (by decide) (As := [.ref v5]) (c_X11_roadOf a0 ha0 v5 h5) (by decide) rfl hl.1 rfl (Nat.le_of_ble_eq_true rfl) dX11_owners_24 (by decide)) (fun v7 σ6 H locs hp hw => ?_)
    have p7_0 := hp
    rw [p7_0] at hw
    refine lv_lstore_n (lv' := [(3, .long v7), (2, .int (-1)), (1, .int 0), (0, .ref a0)]) hx hb dX11_owners_27 rfl hl (by decide) rfl (fun ls hl => ?_)
    refine lv_aload_n hx hb dX11_owners_28 rfl (lv_at hl 3 rfl) ?_
    refine lv_iconst (v := 0) hx hb dX11_owners_29 (by decide) ?_
    refine p_657 cx hw ha0 (iv_w (⟨by decide, by decide⟩ : Iv 0 0 0) (by decide)) k_f_X11_92 dX11_owners_30 (fun σ8 H locs eσ8 hw => ?_)
    have fr := oFr_i fr eσ8 (by decide)
    refine lv_iconst (v := 0) hx hb dX11_owners_33 (by decide) ?_
    refine lv_istore (lv' := [(5, .int 0), (3, .long v7), (2, .int (-1)), (1, .int 0), (0, .ref a0)]) hx hb dX11_owners_34 hl (by decide) rfl (fun ls hl => ?_)
    have J_36 : ∀ n : Nat, ∀ (j36_1 : Int32) (ij36_1 : Iv j36_1 0 6) (j36_2 : Int32) (ij36_2 : Iv j36_2 (-1) 2147483647) (j36_5 : Int32) (ij36_5 : Iv j36_5 0 6), (6 - j36_5.toInt).toNat < n → ∀ (σ_36 : oSt) (H : Heap) (locs : List Loc), oI A L τ cy D s.heap σ_36 H locs → oFr τ fs_X11_owners ts_X11_owners σ σ_36 → Iv (σ_36.1 657 a0) 0 6 → (σ_36.1 657 a0).toInt ≤ j36_5.toInt + 0 → ∀ (ls : Array Slot), lv_has ls 8 [(0, .ref a0), (1, .int j36_1), (2, .int j36_2), (3, .long v7), (5, .int j36_5)] → W p l e ({ frames := 3, cells := 0, slots := 0, locals := 67 } : Room) s m args below meth c H locs 0 0 Q (F0 m 36 ls []) := by
      intro n
      induction n with
      | zero => intro j36_1 ij36_1 j36_2 ij36_2 j36_5 ij36_5 hn_36  σ_36 H locs hw fr f36_657_a0  le36_0 ls hl; exact absurd hn_36 (Nat.not_lt_zero _)
      | succ n ih_36 =>
        intro j36_1 ij36_1 j36_2 ij36_2 j36_5 ij36_5 hn_36  σ_36 H locs hw fr f36_657_a0  le36_0 ls hl
        refine lv_iload hx hb dX11_owners_36 (lv_at hl 4 rfl) ?_
        refine lv_aload_n hx hb dX11_owners_38 rfl (lv_at hl 0 rfl) ?_
        refine g_647 cx hw ha0 k_f_X11_105 dX11_owners_39 (fun v9 e9 i9 => ?_)
        refine lv_icmp_ge (tgt := 127) hx hb dX11_owners_42 (by decide) (fun c10 => ?_) (fun c10 => ?_)
        · --
          refine lv_iload_n hx hb dX11_owners_127 rfl (lv_at hl 1 rfl) ?_
          rw [← hQ]
          exact o_ri cx rx hw dX11_owners_128 ⟨fr, (iv_w ij36_1 (by decide))⟩
        · --
          have i11 : Iv j36_5 0 5 := iv_lt1 (iv_nle c10) ij36_5 i9 (by decide)
          have i12 : Iv (σ_36.1 657 a0) 0 5 := iv_leh le36_0 f36_657_a0 i11 (by decide)
          have i13 : Iv v9 1 6 := iv_lt2 (iv_nle c10) ij36_5 i9 (by decide)
          refine lv_iconst (v := 0) hx hb dX11_owners_45 (by decide) ?_
          refine lv_istore (lv' := [(6, .int 0), (0, .ref a0), (1, .int j36_1), (2, .int j36_2), (3, .long v7), (5, .int j36_5)]) hx hb dX11_owners_46 hl (by decide) rfl (fun ls hl => ?_)
          refine lv_iconst (v := 0) hx hb dX11_owners_48 (by decide) ?_
          refine lv_istore (lv' := [(7, .int 0), (6, .int 0), (0, .ref a0), (1, .int j36_1), (2, .int j36_2), (3, .long v7), (5, .int j36_5)]) hx hb dX11_owners_49 hl (by decide) rfl (fun ls hl => ?_)
          have J_51 : ∀ n : Nat, ∀ (j51_6 : Int32) (j51_7 : Int32) (ij51_7 : Iv j51_7 0 64), (64 - j51_7.toInt).toNat < n → ∀ (σ_51 : oSt) (H : Heap) (locs : List Loc), oI A L τ cy D s.heap σ_51 H locs → oFr τ fs_X11_owners ts_X11_owners σ σ_51 → Iv (σ_51.1 657 a0) 0 6 → (σ_51.1 657 a0).toInt ≤ j36_5.toInt + 0 → ∀ (ls : Array Slot), lv_has ls 8 [(0, .ref a0), (1, .int j36_1), (2, .int j36_2), (3, .long v7), (5, .int j36_5), (6, .int j51_6), (7, .int j51_7)] → W p l e ({ frames := 3, cells := 0, slots := 0, locals := 67 } : Room) s m args below meth c H locs 0 0 Q (F0 m 51 ls []) := by
            intro n
            induction n with
            | zero => intro j51_6 j51_7 ij51_7 hn_51  σ_51 H locs hw fr f51_657_a0  le51_0 ls hl; exact absurd hn_51 (Nat.not_lt_zero _)
            | succ n ih_51 =>
              intro j51_6 j51_7 ij51_7 hn_51  σ_51 H locs hw fr f51_657_a0  le51_0 ls hl
              have i14 : Iv (σ_51.1 657 a0) 0 5 := iv_leh le51_0 f51_657_a0 i11 (by decide)
              refine lv_iload hx hb dX11_owners_51 (lv_at hl 6 rfl) ?_
              refine lv_bipush (v := 64) hx hb dX11_owners_53 (by decide) ?_
              refine lv_icmp_ge (tgt := 99) hx hb dX11_owners_55 (by decide) (fun c15 => ?_) (fun c15 => ?_)
              · --
                have i16 : Iv j51_7 64 64 := iv_le2 c15 (⟨by decide, by decide⟩ : Iv 64 64 64) ij51_7 (by decide)
                refine lv_aload_n hx hb dX11_owners_99 rfl (lv_at hl 0 rfl) ?_
                refine lv_iload hx hb dX11_owners_100 (lv_at hl 5 rfl) ?_
                refine lv_i2l hx hb dX11_owners_102 rfl ?_
                refine lv_topl (fun v17 e17 => ?_)
                refine o_cv hw (oRunV cx hA hw q_X11_tell k_m_X11_278 rfl ha0 (by decide) (As := [.long v17]) (c_X11_tell a0 ha0 v17 (kn_iv (rfl) (iv_w i14 (by decide)))) (by decide) rfl hl.1 rfl (Nat.le_of_ble_eq_true rfl) dX11_owners_103 (by decide)) (fun σ18 H locs hp hw => ?_)
                obtain ⟨p19_0, p19_1⟩ := hp
                have fr := oFr_tr fr p19_0 (by decide)
                have x21 : (σ18.1 657 a0).toInt = (σ_51.1 657 a0).toInt + 1 := fin_tr p19_1 (rfl)
                have i20 : Iv (σ18.1 657 a0) 1 6 := iv_fin x21 i14 (by decide)
                refine lv_iload hx hb dX11_owners_106 (lv_at hl 5 rfl) ?_
                refine lv_iload_n hx hb dX11_owners_108 rfl (lv_at hl 2 rfl) ?_
                have J_121 : ∀ (j121_1 : Int32) (ij121_1 : Iv j121_1 0 6) (j121_2 : Int32) (ij121_2 : Iv j121_2 (-1) 2147483647), ∀ (σ_121 : oSt) (H : Heap) (locs : List Loc), oI A L τ cy D s.heap σ_121 H locs → oFr τ fs_X11_owners ts_X11_owners σ σ_121 → Iv (σ_121.1 657 a0) 1 6 → (σ_121.1 657 a0).toInt ≤ j36_5.toInt + 1 → ∀ (ls : Array Slot), lv_has ls 8 [(0, .ref a0), (1, .int j121_1), (2, .int j121_2), (3, .long v7), (5, .int j36_5), (6, .int j51_6), (7, .int j51_7)] → W p l e ({ frames := 3, cells := 0, slots := 0, locals := 67 } : Room) s m args below meth c H locs 0 0 Q (F0 m 121 ls []) := by
                  intro j121_1 ij121_1 j121_2 ij121_2   σ_121 H locs hw fr f121_657_a0  le121_0 ls hl
                  obtain ⟨v22, e22⟩ : ∃ y : Int32, y = j36_5 + 1 := ⟨_, rfl⟩
                  have i22 : Iv v22 1 6 := iv_add e22 i11 (⟨by decide, by decide⟩ : Iv 1 1 1) (by decide)
                  have x22 : v22.toInt = j36_5.toInt + 1 := ex_add e22 i11 (⟨by decide, by decide⟩ : Iv 1 1 1) (by decide)
                  refine lv_iinc (v := v22) (lv' := [(5, .int v22), (0, .ref a0), (1, .int j121_1), (2, .int j121_2), (3, .long v7), (6, .int j51_6), (7, .int j51_7)]) hx hb dX11_owners_121 hl (k := 4) rfl (by rw [e22]; rfl) (by decide) rfl (fun ls hl => ?_)
                  refine lv_goto (tgt := 36) hx hb dX11_owners_124 (by decide) ?_
                  exact ih_36 j121_1 ij121_1 j121_2 ij121_2 v22 (iv_w i22 (by decide)) (ms_up x22 (by decide) (iv_w (a' := 0) (b' := 6) i22 (by decide)).2 hn_36) σ_121 _ _ hw fr (kn_iv (rfl) (iv_w f121_657_a0 (by decide))) (le_lin (Int.add_zero _).symm x22 le121_0 (by decide)) _ (lv_sub hl [1, 2, 3, 4, 0] rfl)
                refine lv_icmp_gt (tgt := 115) hx hb dX11_owners_109 (by decide) (fun c23 => ?_) (fun c23 => ?_)
                · --
                  have i24 : Iv j36_2 (-1) 2147483646 := iv_lt1 c23 ij36_2 (iv_top j51_6) (by decide)
                  have i25 : Iv j51_6 0 2147483647 := iv_lt2 c23 ij36_2 (iv_top j51_6) (by decide)
                  refine lv_iload hx hb dX11_owners_115 (lv_at hl 4 rfl) ?_
                  refine lv_istore_n (lv' := [(1, .int j36_5), (0, .ref a0), (2, .int j36_2), (3, .long v7), (5, .int j36_5), (6, .int j51_6), (7, .int j51_7)]) hx hb dX11_owners_117 rfl hl (by decide) rfl (fun ls hl => ?_)
                  refine lv_iload hx hb dX11_owners_118 (lv_at hl 5 rfl) ?_
                  refine lv_istore_n (lv' := [(2, .int j51_6), (1, .int j36_5), (0, .ref a0), (3, .long v7), (5, .int j36_5), (6, .int j51_6), (7, .int j51_7)]) hx hb dX11_owners_120 rfl hl (by decide) rfl (fun ls hl => ?_)
                  exact J_121 j36_5 (iv_w i11 (by decide)) j51_6 (iv_w i25 (by decide)) σ18 _ _ hw fr (kn_iv (rfl) (iv_w i20 (by decide))) (le_lin x21 (Int.add_zero _).symm le51_0 (by decide)) _ (lv_sub hl [2, 1, 0, 3, 4, 5, 6] rfl)
                · --
                  refine lv_goto (tgt := 121) hx hb dX11_owners_112 (by decide) ?_
                  exact J_121 j36_1 ij36_1 j36_2 ij36_2 σ18 _ _ hw fr (kn_iv (rfl) (iv_w i20 (by decide))) (le_lin x21 (Int.add_zero _).symm le51_0 (by decide)) _ (lv_sub hl [0, 1, 2, 3, 4, 5, 6] rfl)
              · --
                have i26 : Iv j51_7 0 63 := iv_lt1 (iv_nle c15) ij51_7 (⟨by decide, by decide⟩ : Iv 64 64 64) (by decide)
                refine lv_iload hx hb dX11_owners_58 (lv_at hl 5 rfl) ?_
                refine lv_lload_n hx hb dX11_owners_60 rfl (lv_at hl 3 rfl) ?_
                refine lv_iload hx hb dX11_owners_61 (lv_at hl 6 rfl) ?_
                refine o_ci hw (oRunS cx hA hw q_X11_has k_m_X11_215 (As := [.long v7, .int j51_7]) (c_X11_has v7 j51_7) (by decide) rfl hl.1 rfl (Nat.le_of_ble_eq_true rfl) dX11_owners_63 (by decide)) (fun v28 σ27 H locs hp hw => ?_)
                obtain ⟨p28_0, p28_1⟩ := hp
                rw [p28_0] at hw
                have J_90 : ∀ (k90_1 : Int32) (ik90_1 : Iv k90_1 0 1), ∀ (σ_90 : oSt) (H : Heap) (locs : List Loc), oI A L τ cy D s.heap σ_90 H locs → oFr τ fs_X11_owners ts_X11_owners σ σ_90 → Iv (σ_90.1 657 a0) 0 5 → (σ_90.1 657 a0).toInt ≤ j36_5.toInt + 0 → ∀ (ls : Array Slot), lv_has ls 8 [(0, .ref a0), (1, .int j36_1), (2, .int j36_2), (3, .long v7), (5, .int j36_5), (6, .int j51_6), (7, .int j51_7)] → W p l e ({ frames := 3, cells := 0, slots := 0, locals := 67 } : Room) s m args below meth c H locs 0 0 Q (F0 m 90 ls [.int k90_1, .int j51_6]) := by
                  intro k90_1 ik90_1   σ_90 H locs hw fr f90_657_a0  le90_0 ls hl
                  refine lv_iadd hx hb dX11_owners_90 ?_
                  refine lv_topi (fun v29 e29 => ?_)
                  refine lv_istore (lv' := [(6, .int v29), (0, .ref a0), (1, .int j36_1), (2, .int j36_2), (3, .long v7), (5, .int j36_5), (7, .int j51_7)]) hx hb dX11_owners_91 hl (by decide) rfl (fun ls hl => ?_)
                  obtain ⟨v30, e30⟩ : ∃ y : Int32, y = j51_7 + 1 := ⟨_, rfl⟩
                  have i30 : Iv v30 1 64 := iv_add e30 i26 (⟨by decide, by decide⟩ : Iv 1 1 1) (by decide)
                  have x30 : v30.toInt = j51_7.toInt + 1 := ex_add e30 i26 (⟨by decide, by decide⟩ : Iv 1 1 1) (by decide)
                  refine lv_iinc (v := v30) (lv' := [(7, .int v30), (6, .int v29), (0, .ref a0), (1, .int j36_1), (2, .int j36_2), (3, .long v7), (5, .int j36_5)]) hx hb dX11_owners_93 hl (k := 6) rfl (by rw [e30]; rfl) (by decide) rfl (fun ls hl => ?_)
                  refine lv_goto (tgt := 51) hx hb dX11_owners_96 (by decide) ?_
                  exact ih_51 v29 v30 (iv_w i30 (by decide)) (ms_up x30 (by decide) (iv_w (a' := 0) (b' := 64) i30 (by decide)).2 hn_51) σ_90 _ _ hw fr (kn_iv (rfl) (iv_w f90_657_a0 (by decide))) (le_lin (Int.add_zero _).symm (Int.add_zero _).symm le90_0 (by decide)) _ (lv_sub hl [2, 3, 4, 5, 6, 1, 0] rfl)
                have J_89 : ∀ (σ_89 : oSt) (H : Heap) (locs : List Loc), oI A L τ cy D s.heap σ_89 H locs → oFr τ fs_X11_owners ts_X11_owners σ σ_89 → Iv (σ_89.1 657 a0) 0 5 → (σ_89.1 657 a0).toInt ≤ j36_5.toInt + 0 → ∀ (ls : Array Slot), lv_has ls 8 [(0, .ref a0), (1, .int j36_1), (2, .int j36_2), (3, .long v7), (5, .int j36_5), (6, .int j51_6), (7, .int j51_7)] → W p l e ({ frames := 3, cells := 0, slots := 0, locals := 67 } : Room) s m args below meth c H locs 0 0 Q (F0 m 89 ls [.int j51_6]) := by
                  intro    σ_89 H locs hw fr f89_657_a0  le89_0 ls hl
                  refine lv_iconst (v := 0) hx hb dX11_owners_89 (by decide) ?_
                  exact J_90 0 (iv_w (⟨by decide, by decide⟩ : Iv 0 0 0) (by decide)) σ_89 _ _ hw fr (kn_iv (rfl) (iv_w f89_657_a0 (by decide))) (le_lin (Int.add_zero _).symm (Int.add_zero _).symm le89_0 (by decide)) _ (lv_sub hl [0, 1, 2, 3, 4, 5, 6] rfl)
                refine lv_if_eq (tgt := 89) hx hb dX11_owners_66 (by decide) (fun c31 => ?_) (fun c31 => ?_)
                · --
                  have i32 : Iv v28 0 0 := iv_eq1 c31 p28_1 (⟨by decide, by decide⟩ : Iv 0 0 0) (by decide)
                  exact J_89 σ_51 _ _ hw fr (kn_iv (rfl) (iv_w i14 (by decide))) (le_lin (Int.add_zero _).symm (Int.add_zero _).symm le51_0 (by decide)) _ (lv_sub hl [0, 1, 2, 3, 4, 5, 6] rfl)
                · --
                  have i33 : Iv v28 1 1 := iv_ne1 c31 p28_1 (⟨by decide, by decide⟩ : Iv 0 0 0) (by decide)
                  refine lv_aload_n hx hb dX11_owners_69 rfl (lv_at hl 0 rfl) ?_
                  refine g_640 cx hw ha0 k_f_X11_9 dX11_owners_70 (fun v34 e34 h34 => ?_)
                  refine lv_sipush (v := 256) hx hb dX11_owners_73 (by decide) ?_
                  refine lv_iload hx hb dX11_owners_76 (lv_at hl 6 rfl) ?_
                  refine lv_iadd hx hb dX11_owners_78 ?_
                  refine lv_topi (fun v35 e35 => ?_)
                  have i35 : Iv v35 256 319 := iv_add e35 (⟨by decide, by decide⟩ : Iv 256 256 256) i26 (by decide)
                  have x35 : v35.toInt = j51_7.toInt + 256 := (ex_add e35 (⟨by decide, by decide⟩ : Iv 256 256 256) i26 (by decide)).trans (Int.add_comm _ _)
                  refine o_iald cx hw h34 (by decide) rfl (iv_in i35 (by decide)) dX11_owners_79 (fun v36 e36 b36 => ?_)
                  refine lv_iload hx hb dX11_owners_80 (lv_at hl 4 rfl) ?_
                  refine lv_icmp_ne (tgt := 89) hx hb dX11_owners_82 (by decide) (fun c37 => ?_) (fun c37 => ?_)
                  · --
                    exact J_89 σ_51 _ _ hw fr (kn_iv (rfl) (iv_w i14 (by decide))) (le_lin (Int.add_zero _).symm (Int.add_zero _).symm le51_0 (by decide)) _ (lv_sub hl [0, 1, 2, 3, 4, 5, 6] rfl)
                  · --
                    have i38 : Iv v36 0 5 := iv_eq1 c37 (iv_top v36) i11 (by decide)
                    refine lv_iconst (v := 1) hx hb dX11_owners_85 (by decide) ?_
                    refine lv_goto (tgt := 90) hx hb dX11_owners_86 (by decide) ?_
                    exact J_90 1 (iv_w (⟨by decide, by decide⟩ : Iv 1 1 1) (by decide)) σ_51 _ _ hw fr (kn_iv (rfl) (iv_w i14 (by decide))) (le_lin (Int.add_zero _).symm (Int.add_zero _).symm le51_0 (by decide)) _ (lv_sub hl [0, 1, 2, 3, 4, 5, 6] rfl)
          exact J_51 _ 0 0 (iv_w (⟨by decide, by decide⟩ : Iv 0 0 0) (by decide)) (Nat.lt_succ_self _) σ_36 _ _ hw fr (kn_iv (rfl) (iv_w i12 (by decide))) (le_lin (Int.add_zero _).symm (Int.add_zero _).symm le36_0 (by decide)) _ (lv_sub hl [2, 3, 4, 5, 6, 1, 0] rfl)
    exact J_36 _ 0 (iv_w (⟨by decide, by decide⟩ : Iv 0 0 0) (by decide)) (-1) (iv_w (⟨by decide, by decide⟩ : Iv (-1) (-1) (-1)) (by decide)) 0 (iv_w (⟨by decide, by decide⟩ : Iv 0 0 0) (by decide)) (Nat.lt_succ_self _) σ8 _ _ hw fr (kn_iv ((kp_s eσ8)) (iv_w (⟨by decide, by decide⟩ : Iv 0 0 0) (by decide))) (le_cl ((kp_s eσ8)) (le_iv (⟨by decide, by decide⟩ : Iv 0 0 0) (⟨by decide, by decide⟩ : Iv 0 0 0) (by decide))) _ (lv_sub hl [4, 3, 2, 1, 0] rfl)
  · --
    have i39 : Iv v2 0 0 := iv_eq1 c3 i2 (⟨by decide, by decide⟩ : Iv 0 0 0) (by decide)
    refine lv_bipush (v := (-2)) hx hb dX11_owners_12 (by decide) ?_
    rw [← hQ]
    exact o_ri cx rx hw dX11_owners_14 ⟨fr, (iv_w (⟨by decide, by decide⟩ : Iv (-2) (-2) (-2)) (by decide))⟩
set_option maxHeartbeats 4000000 in
set_option maxRecDepth 100000 in
theorem c_X11_isLook (a0 : Int32) : oMet l A L τ cy D K yX11_isLook cX11_isLook 1 (some .boolean) 1 22 [.int a0] σ (va_Qi (fun r σ1 => σ1 = σ ∧ Iv r 0 1) (oPo A L τ cy D) A) := by
  refine oMk (by decide) (Nat.le_of_ble_eq_true rfl) rfl ?_
  intro p e s m args below meth c ls cx rx hA hw hl
  generalize hQ : MQ below _ args s 0 0 A = Q
  have hx := cx.1.1
  have hb := cx.1.2.1
  have hml := cx.1.2.2.1
  have hown := cx.1.2.2.2.1
  have hts := cx.1.2.2.2.2
  have hl : lv_has ls 1 [(0, .int a0)] := hl
  refine lv_iload_n hx hb dX11_isLook_0 rfl (lv_at hl 0 rfl) ?_
  refine lv_iconst (v := 0) hx hb dX11_isLook_1 (by decide) ?_
  refine lv_bipush (v := 100) hx hb dX11_isLook_2 (by decide) ?_
  refine o_ci hw (oRunS cx hA hw q_X11_in k_m_X11_95 (As := [.int a0, .int 0, .int 100]) (c_X11_in a0 0 100) (by decide) rfl hl.1 rfl (Nat.le_of_ble_eq_true rfl) dX11_isLook_4 (by decide)) (fun v2 σ1 H locs hp hw => ?_)
  obtain ⟨p2_0, p2_1, p2_2⟩ := hp
  rw [p2_0] at hw
  rw [← hQ]
  exact o_rz cx rx hw (iv_nz01 (iv_w p2_1 (by decide))) dX11_isLook_7 ⟨rfl, (iv_w p2_1 (by decide))⟩
set_option maxHeartbeats 4000000 in
set_option maxRecDepth 100000 in
theorem c_X11_canHedge (a0 : Nat) (ha0 : oA L τ a0 10) (a1 : Int32) : oMet l A L τ cy D K yX11_canHedge cX11_canHedge 2 (some .boolean) 2 43 [.ref a0, .int a1] σ (va_Qi (fun r σ1 => σ1 = σ ∧ Iv r 0 1 ∧ (¬ r = 0 → Iv a1 0 63)) (oPo A L τ cy D) A) := by
  refine oMk (by decide) (Nat.le_of_ble_eq_true rfl) rfl ?_
  intro p e s m args below meth c ls cx rx hA hw hl
  generalize hQ : MQ below _ args s 0 0 A = Q
  have hx := cx.1.1
  have hb := cx.1.2.1
  have hml := cx.1.2.2.1
  have hown := cx.1.2.2.2.1
  have hts := cx.1.2.2.2.2
  have hl : lv_has ls 2 [(0, .ref a0), (1, .int a1)] := hl
  refine lv_aload_n hx hb dX11_canHedge_0 rfl (lv_at hl 0 rfl) ?_
  refine lv_iload_n hx hb dX11_canHedge_1 rfl (lv_at hl 1 rfl) ?_
  refine o_ci hw (oRunV cx hA hw q_X11_isCell k_m_X11_157 rfl ha0 (by decide) (As := [.int a1]) (c_X11_isCell a0 ha0 a1) (by decide) rfl hl.1 rfl (Nat.le_of_ble_eq_true rfl) dX11_canHedge_2 (by decide)) (fun v2 σ1 H locs hp hw => ?_)
  obtain ⟨p2_0, p2_1, p2_2⟩ := hp
  rw [p2_0] at hw
  refine lv_if_eq (tgt := 21) hx hb dX11_canHedge_5 (by decide) (fun c3 => ?_) (fun c3 => ?_)
  · --
    have i4 : Iv v2 0 0 := iv_eq1 c3 p2_1 (⟨by decide, by decide⟩ : Iv 0 0 0) (by decide)
    refine lv_iconst (v := 0) hx hb dX11_canHedge_21 (by decide) ?_
    rw [← hQ]
    exact o_rz cx rx hw (iv_nz01 (iv_w (⟨by decide, by decide⟩ : Iv 0 0 0) (by decide))) dX11_canHedge_22 ⟨rfl, (iv_w (⟨by decide, by decide⟩ : Iv 0 0 0) (by decide)), (fun h => absurd rfl h)⟩
  · --
    have i5 : Iv v2 1 1 := iv_ne1 c3 p2_1 (⟨by decide, by decide⟩ : Iv 0 0 0) (by decide)
    have i6 : Iv a1 0 63 := p2_2 c3
    refine lv_aload_n hx hb dX11_canHedge_8 rfl (lv_at hl 0 rfl) ?_
    refine g_643 cx hw ha0 k_f_X11_13 dX11_canHedge_9 (fun v7 e7 h7 => ?_)
    refine lv_iload_n hx hb dX11_canHedge_12 rfl (lv_at hl 1 rfl) ?_
    refine o_iald cx hw h7 (by decide) rfl (iv_in i6 (by decide)) dX11_canHedge_13 (fun v8 e8 b8 => ?_)
    refine lv_if_ne (tgt := 21) hx hb dX11_canHedge_14 (by decide) (fun c9 => ?_) (fun c9 => ?_)
    · --
      refine lv_iconst (v := 0) hx hb dX11_canHedge_21 (by decide) ?_
      rw [← hQ]
      exact o_rz cx rx hw (iv_nz01 (iv_w (⟨by decide, by decide⟩ : Iv 0 0 0) (by decide))) dX11_canHedge_22 ⟨rfl, (iv_w (⟨by decide, by decide⟩ : Iv 0 0 0) (by decide)), (fun h => absurd rfl h)⟩
    · --
      have i10 : Iv v8 0 0 := iv_eq1 c9 (iv_top v8) (⟨by decide, by decide⟩ : Iv 0 0 0) (by decide)
      refine lv_iconst (v := 1) hx hb dX11_canHedge_17 (by decide) ?_
      refine lv_goto (tgt := 22) hx hb dX11_canHedge_18 (by decide) ?_
      rw [← hQ]
      exact o_rz cx rx hw (iv_nz01 (iv_w (⟨by decide, by decide⟩ : Iv 1 1 1) (by decide))) dX11_canHedge_22 ⟨rfl, (iv_w (⟨by decide, by decide⟩ : Iv 1 1 1) (by decide)), (fun _ => iv_w i6 (by decide))⟩
set_option maxHeartbeats 4000000 in
set_option maxRecDepth 100000 in
theorem c_X11_sumBeside (a0 : Nat) (ha0 : oA L τ a0 10) (a1 : Nat) (ha1 : oA L τ a1 49) (a2 : Int32) (ia2 : Iv a2 0 63) : oMet l A L τ cy D K yX11_sumBeside cX11_sumBeside 6 (some .int) 2 46 [.ref a0, .ref a1, .int a2] σ (va_Qi (fun r σ1 => σ1 = σ ∧ Iv r (-2147483648) 1000000) (oPo A L τ cy D) A) := by
  refine oMk (by decide) (Nat.le_of_ble_eq_true rfl) rfl ?_
  intro p e s m args below meth c ls cx rx hA hw hl
  generalize hQ : MQ below _ args s 0 0 A = Q
  have hx := cx.1.1
  have hb := cx.1.2.1
  have hml := cx.1.2.2.1
  have hown := cx.1.2.2.2.1
  have hts := cx.1.2.2.2.2
  have hl : lv_has ls 6 [(0, .ref a0), (1, .ref a1), (2, .int a2)] := hl
  refine lv_iconst (v := 0) hx hb dX11_sumBeside_0 (by decide) ?_
  refine lv_istore_n (lv' := [(3, .int 0), (0, .ref a0), (1, .ref a1), (2, .int a2)]) hx hb dX11_sumBeside_1 rfl hl (by decide) rfl (fun ls hl => ?_)
  refine lv_iconst (v := 0) hx hb dX11_sumBeside_2 (by decide) ?_
  refine lv_istore (lv' := [(4, .int 0), (3, .int 0), (0, .ref a0), (1, .ref a1), (2, .int a2)]) hx hb dX11_sumBeside_3 hl (by decide) rfl (fun ls hl => ?_)
  have J_5 : ∀ n : Nat, ∀ (j5_3 : Int32) (j5_4 : Int32) (ij5_4 : Iv j5_4 0 4), (4 - j5_4.toInt).toNat < n → ∀ (H : Heap) (locs : List Loc), oI A L τ cy D s.heap σ H locs → ∀ (ls : Array Slot), lv_has ls 6 [(0, .ref a0), (1, .ref a1), (2, .int a2), (3, .int j5_3), (4, .int j5_4)] → W p l e ({ frames := 2, cells := 0, slots := 0, locals := 46 } : Room) s m args below meth c H locs 0 0 Q (F0 m 5 ls []) := by
    intro n
    induction n with
    | zero => intro j5_3 j5_4 ij5_4 hn_5  H locs hw  ls hl; exact absurd hn_5 (Nat.not_lt_zero _)
    | succ n ih_5 =>
      intro j5_3 j5_4 ij5_4 hn_5  H locs hw  ls hl
      refine lv_iload hx hb dX11_sumBeside_5 (lv_at hl 4 rfl) ?_
      refine lv_iconst (v := 4) hx hb dX11_sumBeside_7 (by decide) ?_
      refine lv_icmp_ge (tgt := 43) hx hb dX11_sumBeside_8 (by decide) (fun c1 => ?_) (fun c1 => ?_)
      · --
        have i2 : Iv j5_4 4 4 := iv_le2 c1 (⟨by decide, by decide⟩ : Iv 4 4 4) ij5_4 (by decide)
        refine lv_ldcw (v := 1000000) hx hb hown (hts _ k_k_X11_359) dX11_sumBeside_43 ?_
        refine lv_iload_n hx hb dX11_sumBeside_46 rfl (lv_at hl 3 rfl) ?_
        refine va_mmin hx hb (hml.trans hl.1.symm) hown (hts _ k_m_X11_243) (hts _ k_s_J9_min_7cf53) (hts _ k_i_J9) (hts _ k_code_J9_min_7cf53) (by decide) (Nat.le_of_ble_eq_true rfl) (by decide) (by decide) dX11_sumBeside_47 ?_
        refine lv_topi (fun v3 e3 => ?_)
        have i3 : Iv v3 (-2147483648) 1000000 := iv_min e3 (⟨by decide, by decide⟩ : Iv 1000000 1000000 1000000) (iv_top j5_3) (by decide)
        rw [← hQ]
        exact o_ri cx rx hw dX11_sumBeside_50 ⟨rfl, (iv_w i3 (by decide))⟩
      · --
        have i4 : Iv j5_4 0 3 := iv_lt1 (iv_nle c1) ij5_4 (⟨by decide, by decide⟩ : Iv 4 4 4) (by decide)
        refine lv_aload_n hx hb dX11_sumBeside_11 rfl (lv_at hl 0 rfl) ?_
        refine lv_iload_n hx hb dX11_sumBeside_12 rfl (lv_at hl 2 rfl) ?_
        refine lv_iload hx hb dX11_sumBeside_13 (lv_at hl 4 rfl) ?_
        refine o_ci hw (oRunV cx hA hw q_X11_beside k_m_X11_223 rfl ha0 (by decide) (As := [.int a2, .int j5_4]) (c_X11_beside a0 ha0 a2 (iv_w ia2 (by decide)) j5_4) (by decide) rfl hl.1 rfl (Nat.le_of_ble_eq_true rfl) dX11_sumBeside_15 (by decide)) (fun v6 σ5 H locs hp hw => ?_)
        obtain ⟨p6_0, p6_1⟩ := hp
        rw [p6_0] at hw
        refine lv_istore (lv' := [(5, .int v6), (0, .ref a0), (1, .ref a1), (2, .int a2), (3, .int j5_3), (4, .int j5_4)]) hx hb dX11_sumBeside_18 hl (by decide) rfl (fun ls hl => ?_)
        refine lv_iload_n hx hb dX11_sumBeside_20 rfl (lv_at hl 4 rfl) ?_
        refine lv_iload hx hb dX11_sumBeside_21 (lv_at hl 0 rfl) ?_
        refine lv_iconst (v := (-1)) hx hb dX11_sumBeside_23 (by decide) ?_
        have J_35 : ∀ (k35_1 : Int32), ∀ (H : Heap) (locs : List Loc), oI A L τ cy D s.heap σ H locs → ∀ (ls : Array Slot), lv_has ls 6 [(0, .ref a0), (1, .ref a1), (2, .int a2), (3, .int j5_3), (4, .int j5_4), (5, .int v6)] → W p l e ({ frames := 2, cells := 0, slots := 0, locals := 46 } : Room) s m args below meth c H locs 0 0 Q (F0 m 35 ls [.int k35_1, .int j5_3]) := by
          intro k35_1   H locs hw  ls hl
          refine lv_iadd hx hb dX11_sumBeside_35 ?_
          refine lv_topi (fun v7 e7 => ?_)
          refine lv_istore_n (lv' := [(3, .int v7), (0, .ref a0), (1, .ref a1), (2, .int a2), (4, .int j5_4), (5, .int v6)]) hx hb dX11_sumBeside_36 rfl hl (by decide) rfl (fun ls hl => ?_)
          obtain ⟨v8, e8⟩ : ∃ y : Int32, y = j5_4 + 1 := ⟨_, rfl⟩
          have i8 : Iv v8 1 4 := iv_add e8 i4 (⟨by decide, by decide⟩ : Iv 1 1 1) (by decide)
          have x8 : v8.toInt = j5_4.toInt + 1 := ex_add e8 i4 (⟨by decide, by decide⟩ : Iv 1 1 1) (by decide)
          refine lv_iinc (v := v8) (lv' := [(4, .int v8), (3, .int v7), (0, .ref a0), (1, .ref a1), (2, .int a2), (5, .int v6)]) hx hb dX11_sumBeside_37 hl (k := 4) rfl (by rw [e8]; rfl) (by decide) rfl (fun ls hl => ?_)
          refine lv_goto (tgt := 5) hx hb dX11_sumBeside_40 (by decide) ?_
          exact ih_5 v7 v8 (iv_w i8 (by decide)) (ms_up x8 (by decide) (iv_w (a' := 0) (b' := 4) i8 (by decide)).2 hn_5) _ _ hw _ (lv_sub hl [2, 3, 4, 1, 0] rfl)
        refine lv_icmp_ne (tgt := 31) hx hb dX11_sumBeside_24 (by decide) (fun c9 => ?_) (fun c9 => ?_)
        · --
          have i10 : Iv v6 0 63 := iv_ne1 c9 p6_1 (⟨by decide, by decide⟩ : Iv (-1) (-1) (-1)) (by decide)
          refine lv_aload_n hx hb dX11_sumBeside_31 rfl (lv_at hl 2 rfl) ?_
          refine lv_iload hx hb dX11_sumBeside_32 (lv_at hl 0 rfl) ?_
          refine o_iald cx hw ha1 (by decide) rfl (iv_in i10 (by decide)) dX11_sumBeside_34 (fun v11 e11 b11 => ?_)
          exact J_35 v11 _ _ hw _ (lv_sub hl [1, 2, 3, 4, 5, 0] rfl)
        · --
          have i12 : Iv v6 (-1) (-1) := iv_eq1 c9 p6_1 (⟨by decide, by decide⟩ : Iv (-1) (-1) (-1)) (by decide)
          refine lv_iconst (v := 0) hx hb dX11_sumBeside_27 (by decide) ?_
          refine lv_goto (tgt := 35) hx hb dX11_sumBeside_28 (by decide) ?_
          exact J_35 0 _ _ hw _ (lv_sub hl [1, 2, 3, 4, 5, 0] rfl)
  exact J_5 _ 0 0 (iv_w (⟨by decide, by decide⟩ : Iv 0 0 0) (by decide)) (Nat.lt_succ_self _) _ _ hw _ (lv_sub hl [2, 3, 4, 1, 0] rfl)
abbrev fs_X11_findWalks : List Nat := []
abbrev ts_X11_findWalks : List Nat := [49]
set_option maxHeartbeats 4000000 in
set_option maxRecDepth 100000 in
theorem c_X11_findWalks (a0 : Nat) (ha0 : oA L τ a0 10) (a1 : Int32) (a2 : Int32) (a3 : Int64) : oMet l A L τ cy D K yX11_findWalks cX11_findWalks 7 none 3 71 [.ref a0, .int a1, .int a2, .long a3] σ (va_Qv (fun σ1 => oFr τ fs_X11_findWalks ts_X11_findWalks σ σ1) (oPo A L τ cy D) A) := by
  refine oMk (by decide) (Nat.le_of_ble_eq_true rfl) rfl ?_
  intro p e s m args below meth c ls cx rx hA hw hl
  generalize hQ : MQ below _ args s 0 0 A = Q
  have hx := cx.1.1
  have hb := cx.1.2.1
  have hml := cx.1.2.2.1
  have hown := cx.1.2.2.2.1
  have hts := cx.1.2.2.2.2
  have hl : lv_has ls 7 [(0, .ref a0), (1, .int a1), (2, .int a2), (3, .long a3)] := hl
  have fr : oFr τ fs_X11_findWalks ts_X11_findWalks σ σ := oFr_rf
  refine lv_iconst (v := 0) hx hb dX11_findWalks_0 (by decide) ?_
  refine lv_istore (lv' := [(5, .int 0), (0, .ref a0), (1, .int a1), (2, .int a2), (3, .long a3)]) hx hb dX11_findWalks_1 hl (by decide) rfl (fun ls hl => ?_)
  have J_3 : ∀ n : Nat, ∀ (j3_5 : Int32) (ij3_5 : Iv j3_5 0 64), (64 - j3_5.toInt).toNat < n → ∀ (σ_3 : oSt) (H : Heap) (locs : List Loc), oI A L τ cy D s.heap σ_3 H locs → oFr τ fs_X11_findWalks ts_X11_findWalks σ σ_3 → ∀ (ls : Array Slot), lv_has ls 7 [(0, .ref a0), (1, .int a1), (2, .int a2), (3, .long a3), (5, .int j3_5)] → W p l e ({ frames := 3, cells := 0, slots := 0, locals := 71 } : Room) s m args below meth c H locs 0 0 Q (F0 m 3 ls []) := by
    intro n
    induction n with
    | zero => intro j3_5 ij3_5 hn_3  σ_3 H locs hw fr   ls hl; exact absurd hn_3 (Nat.not_lt_zero _)
    | succ n ih_3 =>
      intro j3_5 ij3_5 hn_3  σ_3 H locs hw fr   ls hl
      refine lv_iload hx hb dX11_findWalks_3 (lv_at hl 4 rfl) ?_
      refine lv_bipush (v := 64) hx hb dX11_findWalks_5 (by decide) ?_
      refine lv_icmp_ge (tgt := 43) hx hb dX11_findWalks_7 (by decide) (fun c1 => ?_) (fun c1 => ?_)
      · --
        have i2 : Iv j3_5 64 64 := iv_le2 c1 (⟨by decide, by decide⟩ : Iv 64 64 64) ij3_5 (by decide)
        refine lv_iconst (v := 0) hx hb dX11_findWalks_43 (by decide) ?_
        refine lv_istore (lv' := [(5, .int 0), (0, .ref a0), (1, .int a1), (2, .int a2), (3, .long a3)]) hx hb dX11_findWalks_44 hl (by decide) rfl (fun ls hl => ?_)
        have J_46 : ∀ n : Nat, ∀ (j46_5 : Int32) (ij46_5 : Iv j46_5 0 2147483647), (2147483647 - j46_5.toInt).toNat < n → ∀ (σ_46 : oSt) (H : Heap) (locs : List Loc), oI A L τ cy D s.heap σ_46 H locs → oFr τ fs_X11_findWalks ts_X11_findWalks σ σ_46 → ∀ (ls : Array Slot), lv_has ls 7 [(0, .ref a0), (1, .int a1), (2, .int a2), (3, .long a3), (5, .int j46_5)] → W p l e ({ frames := 3, cells := 0, slots := 0, locals := 71 } : Room) s m args below meth c H locs 0 0 Q (F0 m 46 ls []) := by
          intro n
          induction n with
          | zero => intro j46_5 ij46_5 hn_46  σ_46 H locs hw fr   ls hl; exact absurd hn_46 (Nat.not_lt_zero _)
          | succ n ih_46 =>
            intro j46_5 ij46_5 hn_46  σ_46 H locs hw fr   ls hl
            refine lv_iload hx hb dX11_findWalks_46 (lv_at hl 4 rfl) ?_
            refine lv_iload_n hx hb dX11_findWalks_48 rfl (lv_at hl 2 rfl) ?_
            refine lv_icmp_ge (tgt := 134) hx hb dX11_findWalks_49 (by decide) (fun c3 => ?_) (fun c3 => ?_)
            · --
              rw [← hQ]
              exact o_rv cx rx hw dX11_findWalks_134 fr
            · --
              have i4 : Iv j46_5 0 2147483646 := iv_lt1 (iv_nle c3) ij46_5 (iv_top a2) (by decide)
              have i5 : Iv a2 1 2147483647 := iv_lt2 (iv_nle c3) ij46_5 (iv_top a2) (by decide)
              refine lv_iconst (v := 0) hx hb dX11_findWalks_52 (by decide) ?_
              refine lv_istore (lv' := [(6, .int 0), (0, .ref a0), (1, .int a1), (2, .int a2), (3, .long a3), (5, .int j46_5)]) hx hb dX11_findWalks_53 hl (by decide) rfl (fun ls hl => ?_)
              have J_55 : ∀ n : Nat, ∀ (j55_6 : Int32) (ij55_6 : Iv j55_6 0 64), (64 - j55_6.toInt).toNat < n → ∀ (σ_55 : oSt) (H : Heap) (locs : List Loc), oI A L τ cy D s.heap σ_55 H locs → oFr τ fs_X11_findWalks ts_X11_findWalks σ σ_55 → ∀ (ls : Array Slot), lv_has ls 7 [(0, .ref a0), (1, .int a1), (2, .int a2), (3, .long a3), (5, .int j46_5), (6, .int j55_6)] → W p l e ({ frames := 3, cells := 0, slots := 0, locals := 71 } : Room) s m args below meth c H locs 0 0 Q (F0 m 55 ls []) := by
                intro n
                induction n with
                | zero => intro j55_6 ij55_6 hn_55  σ_55 H locs hw fr   ls hl; exact absurd hn_55 (Nat.not_lt_zero _)
                | succ n ih_55 =>
                  intro j55_6 ij55_6 hn_55  σ_55 H locs hw fr   ls hl
                  refine lv_iload hx hb dX11_findWalks_55 (lv_at hl 5 rfl) ?_
                  refine lv_bipush (v := 64) hx hb dX11_findWalks_57 (by decide) ?_
                  refine lv_icmp_ge (tgt := 98) hx hb dX11_findWalks_59 (by decide) (fun c6 => ?_) (fun c6 => ?_)
                  · --
                    have i7 : Iv j55_6 64 64 := iv_le2 c6 (⟨by decide, by decide⟩ : Iv 64 64 64) ij55_6 (by decide)
                    refine lv_iconst (v := 0) hx hb dX11_findWalks_98 (by decide) ?_
                    refine lv_istore (lv' := [(6, .int 0), (0, .ref a0), (1, .int a1), (2, .int a2), (3, .long a3), (5, .int j46_5)]) hx hb dX11_findWalks_99 hl (by decide) rfl (fun ls hl => ?_)
                    have J_101 : ∀ n : Nat, ∀ (j101_6 : Int32) (ij101_6 : Iv j101_6 0 64), (64 - j101_6.toInt).toNat < n → ∀ (σ_101 : oSt) (H : Heap) (locs : List Loc), oI A L τ cy D s.heap σ_101 H locs → oFr τ fs_X11_findWalks ts_X11_findWalks σ σ_101 → ∀ (ls : Array Slot), lv_has ls 7 [(0, .ref a0), (1, .int a1), (2, .int a2), (3, .long a3), (5, .int j46_5), (6, .int j101_6)] → W p l e ({ frames := 3, cells := 0, slots := 0, locals := 71 } : Room) s m args below meth c H locs 0 0 Q (F0 m 101 ls []) := by
                      intro n
                      induction n with
                      | zero => intro j101_6 ij101_6 hn_101  σ_101 H locs hw fr   ls hl; exact absurd hn_101 (Nat.not_lt_zero _)
                      | succ n ih_101 =>
                        intro j101_6 ij101_6 hn_101  σ_101 H locs hw fr   ls hl
                        refine lv_iload hx hb dX11_findWalks_101 (lv_at hl 5 rfl) ?_
                        refine lv_bipush (v := 64) hx hb dX11_findWalks_103 (by decide) ?_
                        refine lv_icmp_ge (tgt := 128) hx hb dX11_findWalks_105 (by decide) (fun c8 => ?_) (fun c8 => ?_)
                        · --
                          have i9 : Iv j101_6 64 64 := iv_le2 c8 (⟨by decide, by decide⟩ : Iv 64 64 64) ij101_6 (by decide)
                          obtain ⟨v10, e10⟩ : ∃ y : Int32, y = j46_5 + 1 := ⟨_, rfl⟩
                          have i10 : Iv v10 1 2147483647 := iv_add e10 i4 (⟨by decide, by decide⟩ : Iv 1 1 1) (by decide)
                          have x10 : v10.toInt = j46_5.toInt + 1 := ex_add e10 i4 (⟨by decide, by decide⟩ : Iv 1 1 1) (by decide)
                          refine lv_iinc (v := v10) (lv' := [(5, .int v10), (0, .ref a0), (1, .int a1), (2, .int a2), (3, .long a3), (6, .int j101_6)]) hx hb dX11_findWalks_128 hl (k := 4) rfl (by rw [e10]; rfl) (by decide) rfl (fun ls hl => ?_)
                          refine lv_goto (tgt := 46) hx hb dX11_findWalks_131 (by decide) ?_
                          exact ih_46 v10 (iv_w i10 (by decide)) (ms_up x10 (by decide) (iv_w (a' := 0) (b' := 2147483647) i10 (by decide)).2 hn_46) σ_101 _ _ hw fr _ (lv_sub hl [1, 2, 3, 4, 0] rfl)
                        · --
                          have i11 : Iv j101_6 0 63 := iv_lt1 (iv_nle c8) ij101_6 (⟨by decide, by decide⟩ : Iv 64 64 64) (by decide)
                          refine lv_aload_n hx hb dX11_findWalks_108 rfl (lv_at hl 0 rfl) ?_
                          refine g_678 cx hw ha0 k_f_X11_70 dX11_findWalks_109 (fun v12 e12 h12 => ?_)
                          refine lv_iload hx hb dX11_findWalks_112 (lv_at hl 5 rfl) ?_
                          refine lv_aload_n hx hb dX11_findWalks_114 rfl (lv_at hl 0 rfl) ?_
                          refine g_679 cx hw ha0 k_f_X11_73 dX11_findWalks_115 (fun v13 e13 h13 => ?_)
                          refine lv_iload hx hb dX11_findWalks_118 (lv_at hl 5 rfl) ?_
                          refine o_iald cx hw h13 (by decide) rfl (iv_in i11 (by decide)) dX11_findWalks_120 (fun v14 e14 b14 => ?_)
                          refine o_iast cx hw h12 (by decide) rfl (iv_in i11 (by decide)) trivial dX11_findWalks_121 (fun σ15 H locs eσ15 hw => ?_)
                          have fr := oFr_p fr eσ15 h12 (by decide)
                          obtain ⟨v16, e16⟩ : ∃ y : Int32, y = j101_6 + 1 := ⟨_, rfl⟩
                          have i16 : Iv v16 1 64 := iv_add e16 i11 (⟨by decide, by decide⟩ : Iv 1 1 1) (by decide)
                          have x16 : v16.toInt = j101_6.toInt + 1 := ex_add e16 i11 (⟨by decide, by decide⟩ : Iv 1 1 1) (by decide)
                          refine lv_iinc (v := v16) (lv' := [(6, .int v16), (0, .ref a0), (1, .int a1), (2, .int a2), (3, .long a3), (5, .int j46_5)]) hx hb dX11_findWalks_122 hl (k := 5) rfl (by rw [e16]; rfl) (by decide) rfl (fun ls hl => ?_)
                          refine lv_goto (tgt := 101) hx hb dX11_findWalks_125 (by decide) ?_
                          exact ih_101 v16 (iv_w i16 (by decide)) (ms_up x16 (by decide) (iv_w (a' := 0) (b' := 64) i16 (by decide)).2 hn_101) σ15 _ _ hw fr _ (lv_sub hl [1, 2, 3, 4, 5, 0] rfl)
                    exact J_101 _ 0 (iv_w (⟨by decide, by decide⟩ : Iv 0 0 0) (by decide)) (Nat.lt_succ_self _) σ_55 _ _ hw fr _ (lv_sub hl [1, 2, 3, 4, 5, 0] rfl)
                  · --
                    have i17 : Iv j55_6 0 63 := iv_lt1 (iv_nle c6) ij55_6 (⟨by decide, by decide⟩ : Iv 64 64 64) (by decide)
                    refine lv_aload_n hx hb dX11_findWalks_62 rfl (lv_at hl 0 rfl) ?_
                    refine g_679 cx hw ha0 k_f_X11_73 dX11_findWalks_63 (fun v18 e18 h18 => ?_)
                    refine lv_iload hx hb dX11_findWalks_66 (lv_at hl 5 rfl) ?_
                    refine lv_lload_n hx hb dX11_findWalks_68 rfl (lv_at hl 3 rfl) ?_
                    refine lv_iload hx hb dX11_findWalks_69 (lv_at hl 5 rfl) ?_
                    refine o_ci hw (oRunS cx hA hw q_X11_has k_m_X11_215 (As := [.long a3, .int j55_6]) (c_X11_has a3 j55_6) (by decide) rfl hl.1 rfl (Nat.le_of_ble_eq_true rfl) dX11_findWalks_71 (by decide)) (fun v20 σ19 H locs hp hw => ?_)
                    obtain ⟨p20_0, p20_1⟩ := hp
                    rw [p20_0] at hw
                    have J_91 : ∀ (k91_2 : Int32) (ik91_2 : Iv k91_2 (-2147483648) 1000000), ∀ (σ_91 : oSt) (H : Heap) (locs : List Loc), oI A L τ cy D s.heap σ_91 H locs → oFr τ fs_X11_findWalks ts_X11_findWalks σ σ_91 → ∀ (ls : Array Slot), lv_has ls 7 [(0, .ref a0), (1, .int a1), (2, .int a2), (3, .long a3), (5, .int j46_5), (6, .int j55_6)] → W p l e ({ frames := 3, cells := 0, slots := 0, locals := 71 } : Room) s m args below meth c H locs 0 0 Q (F0 m 91 ls [.int k91_2, .int j55_6, .ref v18]) := by
                      intro k91_2 ik91_2   σ_91 H locs hw fr   ls hl
                      refine o_iast cx hw h18 (by decide) rfl (iv_in i17 (by decide)) trivial dX11_findWalks_91 (fun σ21 H locs eσ21 hw => ?_)
                      have fr := oFr_p fr eσ21 h18 (by decide)
                      obtain ⟨v22, e22⟩ : ∃ y : Int32, y = j55_6 + 1 := ⟨_, rfl⟩
                      have i22 : Iv v22 1 64 := iv_add e22 i17 (⟨by decide, by decide⟩ : Iv 1 1 1) (by decide)
                      have x22 : v22.toInt = j55_6.toInt + 1 := ex_add e22 i17 (⟨by decide, by decide⟩ : Iv 1 1 1) (by decide)
                      refine lv_iinc (v := v22) (lv' := [(6, .int v22), (0, .ref a0), (1, .int a1), (2, .int a2), (3, .long a3), (5, .int j46_5)]) hx hb dX11_findWalks_92 hl (k := 5) rfl (by rw [e22]; rfl) (by decide) rfl (fun ls hl => ?_)
                      refine lv_goto (tgt := 55) hx hb dX11_findWalks_95 (by decide) ?_
                      exact ih_55 v22 (iv_w i22 (by decide)) (ms_up x22 (by decide) (iv_w (a' := 0) (b' := 64) i22 (by decide)).2 hn_55) σ21 _ _ hw fr _ (lv_sub hl [1, 2, 3, 4, 5, 0] rfl)
                    refine lv_if_eq (tgt := 90) hx hb dX11_findWalks_74 (by decide) (fun c23 => ?_) (fun c23 => ?_)
                    · --
                      have i24 : Iv v20 0 0 := iv_eq1 c23 p20_1 (⟨by decide, by decide⟩ : Iv 0 0 0) (by decide)
                      refine lv_iconst (v := 0) hx hb dX11_findWalks_90 (by decide) ?_
                      exact J_91 0 (iv_w (⟨by decide, by decide⟩ : Iv 0 0 0) (by decide)) σ_55 _ _ hw fr _ (lv_sub hl [0, 1, 2, 3, 4, 5] rfl)
                    · --
                      have i25 : Iv v20 1 1 := iv_ne1 c23 p20_1 (⟨by decide, by decide⟩ : Iv 0 0 0) (by decide)
                      refine lv_aload_n hx hb dX11_findWalks_77 rfl (lv_at hl 0 rfl) ?_
                      refine lv_aload_n hx hb dX11_findWalks_78 rfl (lv_at hl 0 rfl) ?_
                      refine g_678 cx hw ha0 k_f_X11_70 dX11_findWalks_79 (fun v26 e26 h26 => ?_)
                      refine lv_iload hx hb dX11_findWalks_82 (lv_at hl 5 rfl) ?_
                      refine o_ci hw (oRunV cx hA hw q_X11_sumBeside k_m_X11_360 rfl ha0 (by decide) (As := [.ref v26, .int j55_6]) (c_X11_sumBeside a0 ha0 v26 h26 j55_6 (iv_w i17 (by decide))) (by decide) rfl hl.1 rfl (Nat.le_of_ble_eq_true rfl) dX11_findWalks_84 (by decide)) (fun v28 σ27 H locs hp hw => ?_)
                      obtain ⟨p28_0, p28_1⟩ := hp
                      rw [p28_0] at hw
                      refine lv_goto (tgt := 91) hx hb dX11_findWalks_87 (by decide) ?_
                      exact J_91 v28 p28_1 σ_55 _ _ hw fr _ (lv_sub hl [0, 1, 2, 3, 4, 5] rfl)
              exact J_55 _ 0 (iv_w (⟨by decide, by decide⟩ : Iv 0 0 0) (by decide)) (Nat.lt_succ_self _) σ_46 _ _ hw fr _ (lv_sub hl [1, 2, 3, 4, 5, 0] rfl)
        exact J_46 _ 0 (iv_w (⟨by decide, by decide⟩ : Iv 0 0 0) (by decide)) (Nat.lt_succ_self _) σ_3 _ _ hw fr _ (lv_sub hl [1, 2, 3, 4, 0] rfl)
      · --
        have i29 : Iv j3_5 0 63 := iv_lt1 (iv_nle c1) ij3_5 (⟨by decide, by decide⟩ : Iv 64 64 64) (by decide)
        refine lv_aload_n hx hb dX11_findWalks_10 rfl (lv_at hl 0 rfl) ?_
        refine g_678 cx hw ha0 k_f_X11_70 dX11_findWalks_11 (fun v30 e30 h30 => ?_)
        refine lv_iload hx hb dX11_findWalks_14 (lv_at hl 4 rfl) ?_
        refine lv_iload hx hb dX11_findWalks_16 (lv_at hl 4 rfl) ?_
        refine lv_iload_n hx hb dX11_findWalks_18 rfl (lv_at hl 1 rfl) ?_
        have J_36 : ∀ (k36_2 : Int32) (ik36_2 : Iv k36_2 0 1), ∀ (σ_36 : oSt) (H : Heap) (locs : List Loc), oI A L τ cy D s.heap σ_36 H locs → oFr τ fs_X11_findWalks ts_X11_findWalks σ σ_36 → ∀ (ls : Array Slot), lv_has ls 7 [(0, .ref a0), (1, .int a1), (2, .int a2), (3, .long a3), (5, .int j3_5)] → W p l e ({ frames := 3, cells := 0, slots := 0, locals := 71 } : Room) s m args below meth c H locs 0 0 Q (F0 m 36 ls [.int k36_2, .int j3_5, .ref v30]) := by
          intro k36_2 ik36_2   σ_36 H locs hw fr   ls hl
          refine o_iast cx hw h30 (by decide) rfl (iv_in i29 (by decide)) trivial dX11_findWalks_36 (fun σ31 H locs eσ31 hw => ?_)
          have fr := oFr_p fr eσ31 h30 (by decide)
          obtain ⟨v32, e32⟩ : ∃ y : Int32, y = j3_5 + 1 := ⟨_, rfl⟩
          have i32 : Iv v32 1 64 := iv_add e32 i29 (⟨by decide, by decide⟩ : Iv 1 1 1) (by decide)
          have x32 : v32.toInt = j3_5.toInt + 1 := ex_add e32 i29 (⟨by decide, by decide⟩ : Iv 1 1 1) (by decide)
          refine lv_iinc (v := v32) (lv' := [(5, .int v32), (0, .ref a0), (1, .int a1), (2, .int a2), (3, .long a3)]) hx hb dX11_findWalks_37 hl (k := 4) rfl (by rw [e32]; rfl) (by decide) rfl (fun ls hl => ?_)
          refine lv_goto (tgt := 3) hx hb dX11_findWalks_40 (by decide) ?_
          exact ih_3 v32 (iv_w i32 (by decide)) (ms_up x32 (by decide) (iv_w (a' := 0) (b' := 64) i32 (by decide)).2 hn_3) σ31 _ _ hw fr _ (lv_sub hl [1, 2, 3, 4, 0] rfl)
        have J_35 : ∀ (σ_35 : oSt) (H : Heap) (locs : List Loc), oI A L τ cy D s.heap σ_35 H locs → oFr τ fs_X11_findWalks ts_X11_findWalks σ σ_35 → ∀ (ls : Array Slot), lv_has ls 7 [(0, .ref a0), (1, .int a1), (2, .int a2), (3, .long a3), (5, .int j3_5)] → W p l e ({ frames := 3, cells := 0, slots := 0, locals := 71 } : Room) s m args below meth c H locs 0 0 Q (F0 m 35 ls [.int j3_5, .ref v30]) := by
          intro    σ_35 H locs hw fr   ls hl
          refine lv_iconst (v := 0) hx hb dX11_findWalks_35 (by decide) ?_
          exact J_36 0 (iv_w (⟨by decide, by decide⟩ : Iv 0 0 0) (by decide)) σ_35 _ _ hw fr _ (lv_sub hl [0, 1, 2, 3, 4] rfl)
        refine lv_icmp_ne (tgt := 35) hx hb dX11_findWalks_19 (by decide) (fun c33 => ?_) (fun c33 => ?_)
        · --
          exact J_35 σ_3 _ _ hw fr _ (lv_sub hl [0, 1, 2, 3, 4] rfl)
        · --
          have i34 : Iv a1 0 63 := iv_eq1 (Eq.symm c33) (iv_top a1) i29 (by decide)
          refine lv_lload_n hx hb dX11_findWalks_22 rfl (lv_at hl 3 rfl) ?_
          refine lv_iload hx hb dX11_findWalks_23 (lv_at hl 4 rfl) ?_
          refine o_ci hw (oRunS cx hA hw q_X11_has k_m_X11_215 (As := [.long a3, .int j3_5]) (c_X11_has a3 j3_5) (by decide) rfl hl.1 rfl (Nat.le_of_ble_eq_true rfl) dX11_findWalks_25 (by decide)) (fun v36 σ35 H locs hp hw => ?_)
          obtain ⟨p36_0, p36_1⟩ := hp
          rw [p36_0] at hw
          refine lv_if_eq (tgt := 35) hx hb dX11_findWalks_28 (by decide) (fun c37 => ?_) (fun c37 => ?_)
          · --
            have i38 : Iv v36 0 0 := iv_eq1 c37 p36_1 (⟨by decide, by decide⟩ : Iv 0 0 0) (by decide)
            exact J_35 σ_3 _ _ hw fr _ (lv_sub hl [0, 1, 2, 3, 4] rfl)
          · --
            have i39 : Iv v36 1 1 := iv_ne1 c37 p36_1 (⟨by decide, by decide⟩ : Iv 0 0 0) (by decide)
            refine lv_iconst (v := 1) hx hb dX11_findWalks_31 (by decide) ?_
            refine lv_goto (tgt := 36) hx hb dX11_findWalks_32 (by decide) ?_
            exact J_36 1 (iv_w (⟨by decide, by decide⟩ : Iv 1 1 1) (by decide)) σ_3 _ _ hw fr _ (lv_sub hl [0, 1, 2, 3, 4] rfl)
  exact J_3 _ 0 (iv_w (⟨by decide, by decide⟩ : Iv 0 0 0) (by decide)) (Nat.lt_succ_self _) σ _ _ hw fr _ (lv_sub hl [1, 2, 3, 4, 0] rfl)
abbrev fs_X11_ways : List Nat := [657, 658]
abbrev ts_X11_ways : List Nat := [49, 52]
set_option maxHeartbeats 4000000 in
set_option maxRecDepth 100000 in
theorem c_X11_ways (a0 : Nat) (ha0 : oA L τ a0 10) (a1 : Int32) (a2 : Int32) (a3 : Int32) : oMet l A L τ cy D K yX11_ways cX11_ways 9 (some .int) 4 97 [.ref a0, .int a1, .int a2, .int a3] σ (va_Qi (fun r σ1 => oFr τ fs_X11_ways ts_X11_ways σ σ1) (oPo A L τ cy D) A) := by
  refine oMk (by decide) (Nat.le_of_ble_eq_true rfl) rfl ?_
  intro p e s m args below meth c ls cx rx hA hw hl
  generalize hQ : MQ below _ args s 0 0 A = Q
  have hx := cx.1.1
  have hb := cx.1.2.1
  have hml := cx.1.2.2.1
  have hown := cx.1.2.2.2.1
  have hts := cx.1.2.2.2.2
  have hl : lv_has ls 9 [(0, .ref a0), (1, .int a1), (2, .int a2), (3, .int a3)] := hl
  have fr : oFr τ fs_X11_ways ts_X11_ways σ σ := oFr_rf
  refine lv_aload_n hx hb dX11_ways_0 rfl (lv_at hl 0 rfl) ?_
  refine lv_iconst (v := 0) hx hb dX11_ways_1 (by decide) ?_
  refine p_658 cx hw ha0 k_f_X11_89 dX11_ways_2 (fun σ1 H locs eσ1 hw => ?_)
  have fr := oFr_i fr eσ1 (by decide)
  refine lv_aload_n hx hb dX11_ways_5 rfl (lv_at hl 0 rfl) ?_
  refine lv_iload_n hx hb dX11_ways_6 rfl (lv_at hl 1 rfl) ?_
  refine o_ci hw (oRunV cx hA hw q_X11_isCell k_m_X11_157 rfl ha0 (by decide) (As := [.int a1]) (c_X11_isCell a0 ha0 a1) (by decide) rfl hl.1 rfl (Nat.le_of_ble_eq_true rfl) dX11_ways_7 (by decide)) (fun v3 σ2 H locs hp hw => ?_)
  obtain ⟨p3_0, p3_1, p3_2⟩ := hp
  rw [p3_0] at hw
  refine lv_if_eq (tgt := 31) hx hb dX11_ways_10 (by decide) (fun c4 => ?_) (fun c4 => ?_)
  · --
    have i5 : Iv v3 0 0 := iv_eq1 c4 p3_1 (⟨by decide, by decide⟩ : Iv 0 0 0) (by decide)
    refine lv_iconst (v := (-1)) hx hb dX11_ways_31 (by decide) ?_
    rw [← hQ]
    exact o_ri cx rx hw dX11_ways_32 fr
  · --
    have i6 : Iv v3 1 1 := iv_ne1 c4 p3_1 (⟨by decide, by decide⟩ : Iv 0 0 0) (by decide)
    have i7 : Iv a1 0 63 := p3_2 c4
    refine lv_aload_n hx hb dX11_ways_13 rfl (lv_at hl 0 rfl) ?_
    refine lv_iload_n hx hb dX11_ways_14 rfl (lv_at hl 2 rfl) ?_
    refine o_ci hw (oRunV cx hA hw q_X11_isCell k_m_X11_157 rfl ha0 (by decide) (As := [.int a2]) (c_X11_isCell a0 ha0 a2) (by decide) rfl hl.1 rfl (Nat.le_of_ble_eq_true rfl) dX11_ways_15 (by decide)) (fun v9 σ8 H locs hp hw => ?_)
    obtain ⟨p9_0, p9_1, p9_2⟩ := hp
    rw [p9_0] at hw
    refine lv_if_eq (tgt := 31) hx hb dX11_ways_18 (by decide) (fun c10 => ?_) (fun c10 => ?_)
    · --
      have i11 : Iv v9 0 0 := iv_eq1 c10 p9_1 (⟨by decide, by decide⟩ : Iv 0 0 0) (by decide)
      refine lv_iconst (v := (-1)) hx hb dX11_ways_31 (by decide) ?_
      rw [← hQ]
      exact o_ri cx rx hw dX11_ways_32 fr
    · --
      have i12 : Iv v9 1 1 := iv_ne1 c10 p9_1 (⟨by decide, by decide⟩ : Iv 0 0 0) (by decide)
      have i13 : Iv a2 0 63 := p9_2 c10
      refine lv_iload_n hx hb dX11_ways_21 rfl (lv_at hl 3 rfl) ?_
      refine lv_iconst (v := 0) hx hb dX11_ways_22 (by decide) ?_
      refine lv_bipush (v := 20) hx hb dX11_ways_23 (by decide) ?_
      refine o_ci hw (oRunS cx hA hw q_X11_in k_m_X11_95 (As := [.int a3, .int 0, .int 20]) (c_X11_in a3 0 20) (by decide) rfl hl.1 rfl (Nat.le_of_ble_eq_true rfl) dX11_ways_25 (by decide)) (fun v15 σ14 H locs hp hw => ?_)
      obtain ⟨p15_0, p15_1, p15_2⟩ := hp
      rw [p15_0] at hw
      refine lv_if_ne (tgt := 33) hx hb dX11_ways_28 (by decide) (fun c16 => ?_) (fun c16 => ?_)
      · --
        have i17 : Iv v15 1 1 := iv_ne1 c16 p15_1 (⟨by decide, by decide⟩ : Iv 0 0 0) (by decide)
        have i18 : Iv a3 0 20 := (fun h => iv_rel (p15_2 h) (⟨by decide, by decide⟩ : Iv 0 0 0) (⟨by decide, by decide⟩ : Iv 20 20 20)) c16
        refine lv_aload_n hx hb dX11_ways_33 rfl (lv_at hl 0 rfl) ?_
        refine lv_aload_n hx hb dX11_ways_34 rfl (lv_at hl 0 rfl) ?_
        refine g_640 cx hw ha0 k_f_X11_9 dX11_ways_35 (fun v19 e19 h19 => ?_)
        refine o_cl hw (oRunV cx hA hw q_X11_roadOf k_m_X11_313 rfl ha0 (by decide) (As := [.ref v19]) (c_X11_roadOf a0 ha0 v19 h19) (by decide) rfl hl.1 rfl (Nat.le_of_ble_eq_true rfl) dX11_ways_38 (by decide)) (fun v21 σ20 H locs hp hw => ?_)
        have p21_0 := hp
        rw [p21_0] at hw
        refine lv_lstore (lv' := [(4, .long v21), (0, .ref a0), (1, .int a1), (2, .int a2), (3, .int a3)]) hx hb dX11_ways_41 hl (by decide) rfl (fun ls hl => ?_)
        refine lv_aload_n hx hb dX11_ways_43 rfl (lv_at hl 1 rfl) ?_
        refine lv_iload_n hx hb dX11_ways_44 rfl (lv_at hl 3 rfl) ?_
        refine lv_iload_n hx hb dX11_ways_45 rfl (lv_at hl 4 rfl) ?_
        refine lv_lload hx hb dX11_ways_46 (lv_at hl 0 rfl) ?_
        refine o_cv hw (oRunV cx hA hw q_X11_findWalks k_m_X11_363 rfl ha0 (by decide) (As := [.int a2, .int a3, .long v21]) (c_X11_findWalks a0 ha0 a2 a3 v21) (by decide) rfl hl.1 rfl (Nat.le_of_ble_eq_true rfl) dX11_ways_48 (by decide)) (fun σ22 H locs hp hw => ?_)
        have p23_0 := hp
        have fr := oFr_tr fr p23_0 (by decide)
        refine lv_aload_n hx hb dX11_ways_51 rfl (lv_at hl 1 rfl) ?_
        refine g_678 cx hw ha0 k_f_X11_70 dX11_ways_52 (fun v24 e24 h24 => ?_)
        refine lv_iload_n hx hb dX11_ways_55 rfl (lv_at hl 2 rfl) ?_
        refine o_iald cx hw h24 (by decide) rfl (iv_in i7 (by decide)) dX11_ways_56 (fun v25 e25 b25 => ?_)
        refine lv_istore (lv' := [(6, .int v25), (4, .long v21), (0, .ref a0), (1, .int a1), (2, .int a2), (3, .int a3)]) hx hb dX11_ways_57 hl (by decide) rfl (fun ls hl => ?_)
        refine lv_iconst (v := (-1)) hx hb dX11_ways_59 (by decide) ?_
        refine lv_istore (lv' := [(7, .int (-1)), (6, .int v25), (4, .long v21), (0, .ref a0), (1, .int a1), (2, .int a2), (3, .int a3)]) hx hb dX11_ways_60 hl (by decide) rfl (fun ls hl => ?_)
        refine lv_iload_n hx hb dX11_ways_62 rfl (lv_at hl 6 rfl) ?_
        have J_124 : ∀ (j124_7 : Int32) (ij124_7 : Iv j124_7 (-1) 63), ∀ (σ_124 : oSt) (H : Heap) (locs : List Loc), oI A L τ cy D s.heap σ_124 H locs → oFr τ fs_X11_ways ts_X11_ways σ σ_124 → ∀ (ls : Array Slot), lv_has ls 9 [(0, .ref a0), (1, .int a1), (2, .int a2), (3, .int a3), (4, .long v21), (6, .int v25), (7, .int j124_7)] → W p l e ({ frames := 4, cells := 0, slots := 0, locals := 97 } : Room) s m args below meth c H locs 0 0 Q (F0 m 124 ls []) := by
          intro j124_7 ij124_7   σ_124 H locs hw fr   ls hl
          refine lv_aload_n hx hb dX11_ways_124 rfl (lv_at hl 0 rfl) ?_
          refine lv_iconst (v := 0) hx hb dX11_ways_125 (by decide) ?_
          refine p_657 cx hw ha0 (iv_w (⟨by decide, by decide⟩ : Iv 0 0 0) (by decide)) k_f_X11_92 dX11_ways_126 (fun σ26 H locs eσ26 hw => ?_)
          have fr := oFr_i fr eσ26 (by decide)
          refine lv_aload_n hx hb dX11_ways_129 rfl (lv_at hl 0 rfl) ?_
          refine lv_iload hx hb dX11_ways_130 (lv_at hl 6 rfl) ?_
          refine lv_i2l hx hb dX11_ways_132 rfl ?_
          refine lv_topl (fun v27 e27 => ?_)
          refine o_cv hw (oRunV cx hA hw q_X11_tell k_m_X11_278 rfl ha0 (by decide) (As := [.long v27]) (c_X11_tell a0 ha0 v27 (kn_iv ((kp_s eσ26)) (iv_w (⟨by decide, by decide⟩ : Iv 0 0 0) (by decide)))) (by decide) rfl hl.1 rfl (Nat.le_of_ble_eq_true rfl) dX11_ways_133 (by decide)) (fun σ28 H locs hp hw => ?_)
          obtain ⟨p29_0, p29_1⟩ := hp
          have fr := oFr_tr fr p29_0 (by decide)
          have x31 : (σ28.1 657 a0).toInt = (0 : Int32).toInt + 1 := fin_tr p29_1 ((kp_s eσ26))
          have i30 : Iv (σ28.1 657 a0) 1 1 := iv_fin x31 (⟨by decide, by decide⟩ : Iv 0 0 0) (by decide)
          refine lv_iload hx hb dX11_ways_136 (lv_at hl 5 rfl) ?_
          rw [← hQ]
          exact o_ri cx rx hw dX11_ways_138 fr
        refine lv_if_le (tgt := 124) hx hb dX11_ways_63 (by decide) (fun c32 => ?_) (fun c32 => ?_)
        · --
          have i33 : Iv a3 0 0 := iv_le1 c32 i18 (⟨by decide, by decide⟩ : Iv 0 0 0) (by decide)
          exact J_124 (-1) (iv_w (⟨by decide, by decide⟩ : Iv (-1) (-1) (-1)) (by decide)) σ22 _ _ hw fr _ (lv_sub hl [3, 4, 5, 6, 2, 1, 0] rfl)
        · --
          have i34 : Iv a3 1 20 := iv_lt2 (iv_nle c32) (⟨by decide, by decide⟩ : Iv 0 0 0) i18 (by decide)
          refine lv_iload hx hb dX11_ways_66 (lv_at hl 1 rfl) ?_
          refine lv_if_le (tgt := 124) hx hb dX11_ways_68 (by decide) (fun c35 => ?_) (fun c35 => ?_)
          · --
            have i36 : Iv v25 (-2147483648) 0 := iv_le1 c35 (iv_top v25) (⟨by decide, by decide⟩ : Iv 0 0 0) (by decide)
            exact J_124 (-1) (iv_w (⟨by decide, by decide⟩ : Iv (-1) (-1) (-1)) (by decide)) σ22 _ _ hw fr _ (lv_sub hl [3, 4, 5, 6, 2, 1, 0] rfl)
          · --
            have i37 : Iv v25 1 2147483647 := iv_lt2 (iv_nle c35) (⟨by decide, by decide⟩ : Iv 0 0 0) (iv_top v25) (by decide)
            refine lv_aload_n hx hb dX11_ways_71 rfl (lv_at hl 3 rfl) ?_
            refine lv_iload_n hx hb dX11_ways_72 rfl (lv_at hl 5 rfl) ?_
            refine lv_iload_n hx hb dX11_ways_73 rfl (lv_at hl 6 rfl) ?_
            refine lv_iconst (v := 1) hx hb dX11_ways_74 (by decide) ?_
            refine lv_isub hx hb dX11_ways_75 ?_
            refine lv_topi (fun v38 e38 => ?_)
            have i38 : Iv v38 0 19 := iv_sub e38 i34 (⟨by decide, by decide⟩ : Iv 1 1 1) (by decide)
            have x38 : v38.toInt = a3.toInt + (-1) := ex_sub e38 i34 (⟨by decide, by decide⟩ : Iv 1 1 1) (by decide)
            refine lv_lload hx hb dX11_ways_76 (lv_at hl 2 rfl) ?_
            refine o_cv hw (oRunV cx hA hw q_X11_findWalks k_m_X11_363 rfl ha0 (by decide) (As := [.int a2, .int v38, .long v21]) (c_X11_findWalks a0 ha0 a2 v38 v21) (by decide) rfl hl.1 rfl (Nat.le_of_ble_eq_true rfl) dX11_ways_78 (by decide)) (fun σ39 H locs hp hw => ?_)
            have p40_0 := hp
            have fr := oFr_tr fr p40_0 (by decide)
            refine lv_bipush (v := 63) hx hb dX11_ways_81 (by decide) ?_
            refine lv_istore (lv' := [(8, .int 63), (7, .int (-1)), (6, .int v25), (4, .long v21), (0, .ref a0), (1, .int a1), (2, .int a2), (3, .int a3)]) hx hb dX11_ways_83 hl (by decide) rfl (fun ls hl => ?_)
            have J_85 : ∀ n : Nat, ∀ (j85_7 : Int32) (ij85_7 : Iv j85_7 (-1) 63) (j85_8 : Int32) (ij85_8 : Iv j85_8 (-1) 63), (j85_8.toInt - (-1)).toNat < n → ∀ (σ_85 : oSt) (H : Heap) (locs : List Loc), oI A L τ cy D s.heap σ_85 H locs → oFr τ fs_X11_ways ts_X11_ways σ σ_85 → ∀ (ls : Array Slot), lv_has ls 9 [(0, .ref a0), (1, .int a1), (2, .int a2), (3, .int a3), (4, .long v21), (6, .int v25), (7, .int j85_7), (8, .int j85_8)] → W p l e ({ frames := 4, cells := 0, slots := 0, locals := 97 } : Room) s m args below meth c H locs 0 0 Q (F0 m 85 ls []) := by
              intro n
              induction n with
              | zero => intro j85_7 ij85_7 j85_8 ij85_8 hn_85  σ_85 H locs hw fr   ls hl; exact absurd hn_85 (Nat.not_lt_zero _)
              | succ n ih_85 =>
                intro j85_7 ij85_7 j85_8 ij85_8 hn_85  σ_85 H locs hw fr   ls hl
                refine lv_iload hx hb dX11_ways_85 (lv_at hl 7 rfl) ?_
                refine lv_if_lt (tgt := 124) hx hb dX11_ways_87 (by decide) (fun c41 => ?_) (fun c41 => ?_)
                · --
                  have i42 : Iv j85_8 (-1) (-1) := iv_lt1 c41 ij85_8 (⟨by decide, by decide⟩ : Iv 0 0 0) (by decide)
                  exact J_124 j85_7 ij85_7 σ_85 _ _ hw fr _ (lv_sub hl [0, 1, 2, 3, 4, 5, 6] rfl)
                · --
                  have i43 : Iv j85_8 0 63 := iv_le2 (iv_nlt c41) (⟨by decide, by decide⟩ : Iv 0 0 0) ij85_8 (by decide)
                  refine lv_lconst (v := 1) hx hb dX11_ways_90 (by decide) ?_
                  refine lv_iload_n hx hb dX11_ways_91 rfl (lv_at hl 1 rfl) ?_
                  refine lv_lshl hx hb dX11_ways_92 rfl ?_
                  refine lv_topl (fun v44 e44 => ?_)
                  refine o_cl hw (oRunS cx hA hw q_X11_besides k_m_X11_309 (As := [.long v44]) (c_X11_besides v44) (by decide) rfl hl.1 rfl (Nat.le_of_ble_eq_true rfl) dX11_ways_93 (by decide)) (fun v46 σ45 H locs hp hw => ?_)
                  have p46_0 := hp
                  rw [p46_0] at hw
                  refine lv_iload hx hb dX11_ways_96 (lv_at hl 7 rfl) ?_
                  refine o_ci hw (oRunS cx hA hw q_X11_has k_m_X11_215 (As := [.long v46, .int j85_8]) (c_X11_has v46 j85_8) (by decide) rfl hl.1 rfl (Nat.le_of_ble_eq_true rfl) dX11_ways_98 (by decide)) (fun v48 σ47 H locs hp hw => ?_)
                  obtain ⟨p48_0, p48_1⟩ := hp
                  rw [p48_0] at hw
                  have J_118 : ∀ (j118_7 : Int32) (ij118_7 : Iv j118_7 (-1) 63), ∀ (σ_118 : oSt) (H : Heap) (locs : List Loc), oI A L τ cy D s.heap σ_118 H locs → oFr τ fs_X11_ways ts_X11_ways σ σ_118 → ∀ (ls : Array Slot), lv_has ls 9 [(0, .ref a0), (1, .int a1), (2, .int a2), (3, .int a3), (4, .long v21), (6, .int v25), (7, .int j118_7), (8, .int j85_8)] → W p l e ({ frames := 4, cells := 0, slots := 0, locals := 97 } : Room) s m args below meth c H locs 0 0 Q (F0 m 118 ls []) := by
                    intro j118_7 ij118_7   σ_118 H locs hw fr   ls hl
                    obtain ⟨v49, e49⟩ : ∃ y : Int32, y = j85_8 + (-1) := ⟨_, rfl⟩
                    have i49 : Iv v49 (-1) 62 := iv_add e49 i43 (⟨by decide, by decide⟩ : Iv (-1) (-1) (-1)) (by decide)
                    have x49 : v49.toInt = j85_8.toInt + (-1) := ex_add e49 i43 (⟨by decide, by decide⟩ : Iv (-1) (-1) (-1)) (by decide)
                    refine lv_iinc (v := v49) (lv' := [(8, .int v49), (0, .ref a0), (1, .int a1), (2, .int a2), (3, .int a3), (4, .long v21), (6, .int v25), (7, .int j118_7)]) hx hb dX11_ways_118 hl (k := 7) rfl (by rw [e49]; rfl) (by decide) rfl (fun ls hl => ?_)
                    refine lv_goto (tgt := 85) hx hb dX11_ways_121 (by decide) ?_
                    exact ih_85 j118_7 ij118_7 v49 (iv_w i49 (by decide)) (ms_dn x49 (by decide) (iv_w (a' := (-1)) (b' := 63) i49 (by decide)).1 hn_85) σ_118 _ _ hw fr _ (lv_sub hl [1, 2, 3, 4, 5, 6, 7, 0] rfl)
                  refine lv_if_eq (tgt := 118) hx hb dX11_ways_101 (by decide) (fun c50 => ?_) (fun c50 => ?_)
                  · --
                    have i51 : Iv v48 0 0 := iv_eq1 c50 p48_1 (⟨by decide, by decide⟩ : Iv 0 0 0) (by decide)
                    exact J_118 j85_7 ij85_7 σ_85 _ _ hw fr _ (lv_sub hl [0, 1, 2, 3, 4, 5, 6, 7] rfl)
                  · --
                    have i52 : Iv v48 1 1 := iv_ne1 c50 p48_1 (⟨by decide, by decide⟩ : Iv 0 0 0) (by decide)
                    refine lv_aload_n hx hb dX11_ways_104 rfl (lv_at hl 0 rfl) ?_
                    refine g_678 cx hw ha0 k_f_X11_70 dX11_ways_105 (fun v53 e53 h53 => ?_)
                    refine lv_iload hx hb dX11_ways_108 (lv_at hl 7 rfl) ?_
                    refine o_iald cx hw h53 (by decide) rfl (iv_in i43 (by decide)) dX11_ways_110 (fun v54 e54 b54 => ?_)
                    refine lv_if_le (tgt := 118) hx hb dX11_ways_111 (by decide) (fun c55 => ?_) (fun c55 => ?_)
                    · --
                      have i56 : Iv v54 (-2147483648) 0 := iv_le1 c55 (iv_top v54) (⟨by decide, by decide⟩ : Iv 0 0 0) (by decide)
                      exact J_118 j85_7 ij85_7 σ_85 _ _ hw fr _ (lv_sub hl [0, 1, 2, 3, 4, 5, 6, 7] rfl)
                    · --
                      have i57 : Iv v54 1 2147483647 := iv_lt2 (iv_nle c55) (⟨by decide, by decide⟩ : Iv 0 0 0) (iv_top v54) (by decide)
                      refine lv_iload hx hb dX11_ways_114 (lv_at hl 7 rfl) ?_
                      refine lv_istore (lv' := [(7, .int j85_8), (0, .ref a0), (1, .int a1), (2, .int a2), (3, .int a3), (4, .long v21), (6, .int v25), (8, .int j85_8)]) hx hb dX11_ways_116 hl (by decide) rfl (fun ls hl => ?_)
                      exact J_118 j85_8 (iv_w i43 (by decide)) σ_85 _ _ hw fr _ (lv_sub hl [1, 2, 3, 4, 5, 6, 0, 7] rfl)
            exact J_85 _ (-1) (iv_w (⟨by decide, by decide⟩ : Iv (-1) (-1) (-1)) (by decide)) 63 (iv_w (⟨by decide, by decide⟩ : Iv 63 63 63) (by decide)) (Nat.lt_succ_self _) σ39 _ _ hw fr _ (lv_sub hl [4, 5, 6, 7, 3, 2, 1, 0] rfl)
      · --
        have i58 : Iv v15 0 0 := iv_eq1 c16 p15_1 (⟨by decide, by decide⟩ : Iv 0 0 0) (by decide)
        refine lv_iconst (v := (-1)) hx hb dX11_ways_31 (by decide) ?_
        rw [← hQ]
        exact o_ri cx rx hw dX11_ways_32 fr
set_option maxHeartbeats 4000000 in
set_option maxRecDepth 100000 in
theorem c_X11_goesBeside (a0 : Nat) (ha0 : oA L τ a0 10) (a1 : Int32) (ia1 : Iv a1 0 63) (a2 : Int32) : oMet l A L τ cy D K yX11_goesBeside cX11_goesBeside 4 (some .boolean) 2 46 [.ref a0, .int a1, .int a2] σ (va_Qi (fun r σ1 => σ1 = σ ∧ Iv r 0 1) (oPo A L τ cy D) A) := by
  refine oMk (by decide) (Nat.le_of_ble_eq_true rfl) rfl ?_
  intro p e s m args below meth c ls cx rx hA hw hl
  generalize hQ : MQ below _ args s 0 0 A = Q
  have hx := cx.1.1
  have hb := cx.1.2.1
  have hml := cx.1.2.2.1
  have hown := cx.1.2.2.2.1
  have hts := cx.1.2.2.2.2
  have hl : lv_has ls 4 [(0, .ref a0), (1, .int a1), (2, .int a2)] := hl
  refine lv_aload_n hx hb dX11_goesBeside_0 rfl (lv_at hl 0 rfl) ?_
  refine lv_iload_n hx hb dX11_goesBeside_1 rfl (lv_at hl 1 rfl) ?_
  refine lv_iload_n hx hb dX11_goesBeside_2 rfl (lv_at hl 2 rfl) ?_
  refine o_ci hw (oRunV cx hA hw q_X11_beside k_m_X11_223 rfl ha0 (by decide) (As := [.int a1, .int a2]) (c_X11_beside a0 ha0 a1 (iv_w ia1 (by decide)) a2) (by decide) rfl hl.1 rfl (Nat.le_of_ble_eq_true rfl) dX11_goesBeside_3 (by decide)) (fun v2 σ1 H locs hp hw => ?_)
  obtain ⟨p2_0, p2_1⟩ := hp
  rw [p2_0] at hw
  refine lv_istore_n (lv' := [(3, .int v2), (0, .ref a0), (1, .int a1), (2, .int a2)]) hx hb dX11_goesBeside_6 rfl hl (by decide) rfl (fun ls hl => ?_)
  refine lv_iload_n hx hb dX11_goesBeside_7 rfl (lv_at hl 0 rfl) ?_
  refine lv_iconst (v := (-1)) hx hb dX11_goesBeside_8 (by decide) ?_
  refine lv_icmp_eq (tgt := 28) hx hb dX11_goesBeside_9 (by decide) (fun c3 => ?_) (fun c3 => ?_)
  · --
    have i4 : Iv v2 (-1) (-1) := iv_eq1 c3 p2_1 (⟨by decide, by decide⟩ : Iv (-1) (-1) (-1)) (by decide)
    refine lv_iconst (v := 0) hx hb dX11_goesBeside_28 (by decide) ?_
    rw [← hQ]
    exact o_rz cx rx hw (iv_nz01 (iv_w (⟨by decide, by decide⟩ : Iv 0 0 0) (by decide))) dX11_goesBeside_29 ⟨rfl, (iv_w (⟨by decide, by decide⟩ : Iv 0 0 0) (by decide))⟩
  · --
    have i5 : Iv v2 0 63 := iv_ne1 c3 p2_1 (⟨by decide, by decide⟩ : Iv (-1) (-1) (-1)) (by decide)
    refine lv_aload_n hx hb dX11_goesBeside_12 rfl (lv_at hl 1 rfl) ?_
    refine lv_aload_n hx hb dX11_goesBeside_13 rfl (lv_at hl 1 rfl) ?_
    refine g_640 cx hw ha0 k_f_X11_9 dX11_goesBeside_14 (fun v6 e6 h6 => ?_)
    refine lv_iload_n hx hb dX11_goesBeside_17 rfl (lv_at hl 0 rfl) ?_
    refine o_ci hw (oRunV cx hA hw q_X11_canBe k_m_X11_227 rfl ha0 (by decide) (As := [.ref v6, .int v2]) (c_X11_canBe a0 ha0 v6 h6 v2 (iv_w i5 (by decide))) (by decide) rfl hl.1 rfl (Nat.le_of_ble_eq_true rfl) dX11_goesBeside_18 (by decide)) (fun v8 σ7 H locs hp hw => ?_)
    obtain ⟨p8_0, p8_1⟩ := hp
    rw [p8_0] at hw
    refine lv_if_eq (tgt := 28) hx hb dX11_goesBeside_21 (by decide) (fun c9 => ?_) (fun c9 => ?_)
    · --
      have i10 : Iv v8 0 0 := iv_eq1 c9 p8_1 (⟨by decide, by decide⟩ : Iv 0 0 0) (by decide)
      refine lv_iconst (v := 0) hx hb dX11_goesBeside_28 (by decide) ?_
      rw [← hQ]
      exact o_rz cx rx hw (iv_nz01 (iv_w (⟨by decide, by decide⟩ : Iv 0 0 0) (by decide))) dX11_goesBeside_29 ⟨rfl, (iv_w (⟨by decide, by decide⟩ : Iv 0 0 0) (by decide))⟩
    · --
      have i11 : Iv v8 1 1 := iv_ne1 c9 p8_1 (⟨by decide, by decide⟩ : Iv 0 0 0) (by decide)
      refine lv_iconst (v := 1) hx hb dX11_goesBeside_24 (by decide) ?_
      refine lv_goto (tgt := 29) hx hb dX11_goesBeside_25 (by decide) ?_
      rw [← hQ]
      exact o_rz cx rx hw (iv_nz01 (iv_w (⟨by decide, by decide⟩ : Iv 1 1 1) (by decide))) dX11_goesBeside_29 ⟨rfl, (iv_w (⟨by decide, by decide⟩ : Iv 1 1 1) (by decide))⟩
abbrev fs_X11_snow : List Nat := [652, 653, 658]
abbrev ts_X11_snow : List Nat := []
set_option maxHeartbeats 4000000 in
set_option maxRecDepth 100000 in
theorem c_X11_snow (a0 : Nat) (ha0 : oA L τ a0 10) : oMet l A L τ cy D K yX11_snow cX11_snow 1 (some .int) 3 67 [.ref a0] σ (va_Qi (fun r σ1 => oFr τ fs_X11_snow ts_X11_snow σ σ1 ∧ Iv r 0 127) (oPo A L τ cy D) A) := by
  refine oMk (by decide) (Nat.le_of_ble_eq_true rfl) rfl ?_
  intro p e s m args below meth c ls cx rx hA hw hl
  generalize hQ : MQ below _ args s 0 0 A = Q
  have hx := cx.1.1
  have hb := cx.1.2.1
  have hml := cx.1.2.2.1
  have hown := cx.1.2.2.2.1
  have hts := cx.1.2.2.2.2
  have hl : lv_has ls 1 [(0, .ref a0)] := hl
  have fr : oFr τ fs_X11_snow ts_X11_snow σ σ := oFr_rf
  refine lv_aload_n hx hb dX11_snow_0 rfl (lv_at hl 0 rfl) ?_
  refine lv_iconst (v := 0) hx hb dX11_snow_1 (by decide) ?_
  refine p_658 cx hw ha0 k_f_X11_89 dX11_snow_2 (fun σ1 H locs eσ1 hw => ?_)
  have fr := oFr_i fr eσ1 (by decide)
  refine lv_aload_n hx hb dX11_snow_5 rfl (lv_at hl 0 rfl) ?_
  refine lv_aload_n hx hb dX11_snow_6 rfl (lv_at hl 0 rfl) ?_
  refine lv_aload_n hx hb dX11_snow_7 rfl (lv_at hl 0 rfl) ?_
  refine g_640 cx hw ha0 k_f_X11_9 dX11_snow_8 (fun v2 e2 h2 => ?_)
  refine o_cl hw (oRunV cx hA hw q_X11_roadOf k_m_X11_313 rfl ha0 (by decide) (As := [.ref v2]) (c_X11_roadOf a0 ha0 v2 h2) (by decide) rfl hl.1 rfl (Nat.le_of_ble_eq_true rfl) dX11_snow_11 (by decide)) (fun v4 σ3 H locs hp hw => ?_)
  have p4_0 := hp
  rw [p4_0] at hw
  refine p_652 cx hw ha0 k_f_X11_377 dX11_snow_14 (fun σ5 H locs eσ5 hw => ?_)
  have fr := oFr_l fr eσ5 (by decide)
  refine lv_aload_n hx hb dX11_snow_17 rfl (lv_at hl 0 rfl) ?_
  refine lv_iconst (v := 1) hx hb dX11_snow_18 (by decide) ?_
  refine p_653 cx hw ha0 (iv_w (⟨by decide, by decide⟩ : Iv 1 1 1) (by decide)) k_f_X11_164 dX11_snow_19 (fun σ6 H locs eσ6 hw => ?_)
  have fr := oFr_i fr eσ6 (by decide)
  refine lv_aload_n hx hb dX11_snow_22 rfl (lv_at hl 0 rfl) ?_
  refine g_652 cx hw ha0 k_f_X11_377 dX11_snow_23 (fun v7 e7 => ?_)
  refine o_ci hw (oRunS cx hA hw q_J13_bitCount_95d88 k_m_X11_321 (As := [.long v7]) (c_J13_bitCount_95d88 v7) (by decide) rfl hl.1 rfl (Nat.le_of_ble_eq_true rfl) dX11_snow_26 (by decide)) (fun v9 σ8 H locs hp hw => ?_)
  obtain ⟨p9_0, p9_1⟩ := hp
  rw [p9_0] at hw
  rw [← hQ]
  exact o_ri cx rx hw dX11_snow_29 ⟨fr, (iv_w p9_1 (by decide))⟩
abbrev fs_X11_thaw : List Nat := [657, 658]
abbrev ts_X11_thaw : List Nat := [52]
set_option maxHeartbeats 4000000 in
set_option maxRecDepth 100000 in
theorem c_X11_thaw (a0 : Nat) (ha0 : oA L τ a0 10) : oMet l A L τ cy D K yX11_thaw cX11_thaw 3 (some .int) 3 67 [.ref a0] σ (va_Qi (fun r σ1 => oFr τ fs_X11_thaw ts_X11_thaw σ σ1 ∧ Iv r (-2) 127) (oPo A L τ cy D) A) := by
  refine oMk (by decide) (Nat.le_of_ble_eq_true rfl) rfl ?_
  intro p e s m args below meth c ls cx rx hA hw hl
  generalize hQ : MQ below _ args s 0 0 A = Q
  have hx := cx.1.1
  have hb := cx.1.2.1
  have hml := cx.1.2.2.1
  have hown := cx.1.2.2.2.1
  have hts := cx.1.2.2.2.2
  have hl : lv_has ls 3 [(0, .ref a0)] := hl
  have fr : oFr τ fs_X11_thaw ts_X11_thaw σ σ := oFr_rf
  refine lv_aload_n hx hb dX11_thaw_0 rfl (lv_at hl 0 rfl) ?_
  refine lv_iconst (v := 0) hx hb dX11_thaw_1 (by decide) ?_
  refine p_658 cx hw ha0 k_f_X11_89 dX11_thaw_2 (fun σ1 H locs eσ1 hw => ?_)
  have fr := oFr_i fr eσ1 (by decide)
  refine lv_aload_n hx hb dX11_thaw_5 rfl (lv_at hl 0 rfl) ?_
  refine g_653 cx hw ha0 k_f_X11_164 dX11_thaw_6 (fun v2 e2 => ?_)
  refine lv_if_ne (tgt := 15) hx hb dX11_thaw_9 (by decide) (fun c3 => ?_) (fun c3 => ?_)
  · --
    refine lv_aload_n hx hb dX11_thaw_15 rfl (lv_at hl 0 rfl) ?_
    refine lv_aload_n hx hb dX11_thaw_16 rfl (lv_at hl 0 rfl) ?_
    refine g_640 cx hw ha0 k_f_X11_9 dX11_thaw_17 (fun v4 e4 h4 => ?_)
    refine o_cl hw (oRunV cx hA hw q_X11_roadOf k_m_X11_313 rfl ha0 (by decide) (As := [.ref v4]) (c_X11_roadOf a0 ha0 v4 h4) (by decide) rfl hl.1 rfl (Nat.le_of_ble_eq_true rfl) dX11_thaw_20 (by decide)) (fun v6 σ5 H locs hp hw => ?_)
    have p6_0 := hp
    rw [p6_0] at hw
    refine lv_lstore_n (lv' := [(1, .long v6), (0, .ref a0)]) hx hb dX11_thaw_23 rfl hl (by decide) rfl (fun ls hl => ?_)
    refine lv_aload_n hx hb dX11_thaw_24 rfl (lv_at hl 1 rfl) ?_
    refine lv_iconst (v := 0) hx hb dX11_thaw_25 (by decide) ?_
    refine p_657 cx hw ha0 (iv_w (⟨by decide, by decide⟩ : Iv 0 0 0) (by decide)) k_f_X11_92 dX11_thaw_26 (fun σ7 H locs eσ7 hw => ?_)
    have fr := oFr_i fr eσ7 (by decide)
    refine lv_aload_n hx hb dX11_thaw_29 rfl (lv_at hl 1 rfl) ?_
    refine lv_aload_n hx hb dX11_thaw_30 rfl (lv_at hl 1 rfl) ?_
    refine g_652 cx hw ha0 k_f_X11_377 dX11_thaw_31 (fun v8 e8 => ?_)
    refine lv_lload_n hx hb dX11_thaw_34 rfl (lv_at hl 0 rfl) ?_
    refine lv_ldc2 (v := (-1)) hx hb hown (hts _ k_k_X11_327) dX11_thaw_35 ?_
    refine lv_lxor hx hb dX11_thaw_38 ?_
    refine lv_topl (fun v9 e9 => ?_)
    refine lv_land hx hb dX11_thaw_39 ?_
    refine lv_topl (fun v10 e10 => ?_)
    refine o_cv hw (oRunV cx hA hw q_X11_tell k_m_X11_278 rfl ha0 (by decide) (As := [.long v10]) (c_X11_tell a0 ha0 v10 (kn_iv ((kp_s eσ7)) (iv_w (⟨by decide, by decide⟩ : Iv 0 0 0) (by decide)))) (by decide) rfl hl.1 rfl (Nat.le_of_ble_eq_true rfl) dX11_thaw_40 (by decide)) (fun σ11 H locs hp hw => ?_)
    obtain ⟨p12_0, p12_1⟩ := hp
    have fr := oFr_tr fr p12_0 (by decide)
    have x14 : (σ11.1 657 a0).toInt = (0 : Int32).toInt + 1 := fin_tr p12_1 ((kp_s eσ7))
    have i13 : Iv (σ11.1 657 a0) 1 1 := iv_fin x14 (⟨by decide, by decide⟩ : Iv 0 0 0) (by decide)
    refine lv_aload_n hx hb dX11_thaw_43 rfl (lv_at hl 1 rfl) ?_
    refine lv_lload_n hx hb dX11_thaw_44 rfl (lv_at hl 0 rfl) ?_
    refine lv_aload_n hx hb dX11_thaw_45 rfl (lv_at hl 1 rfl) ?_
    refine g_652 cx hw ha0 k_f_X11_377 dX11_thaw_46 (fun v15 e15 => ?_)
    refine lv_ldc2 (v := (-1)) hx hb hown (hts _ k_k_X11_327) dX11_thaw_49 ?_
    refine lv_lxor hx hb dX11_thaw_52 ?_
    refine lv_topl (fun v16 e16 => ?_)
    refine lv_land hx hb dX11_thaw_53 ?_
    refine lv_topl (fun v17 e17 => ?_)
    refine o_cv hw (oRunV cx hA hw q_X11_tell k_m_X11_278 rfl ha0 (by decide) (As := [.long v17]) (c_X11_tell a0 ha0 v17 (kn_iv (rfl) (iv_w i13 (by decide)))) (by decide) rfl hl.1 rfl (Nat.le_of_ble_eq_true rfl) dX11_thaw_54 (by decide)) (fun σ18 H locs hp hw => ?_)
    obtain ⟨p19_0, p19_1⟩ := hp
    have fr := oFr_tr fr p19_0 (by decide)
    have x21 : (σ18.1 657 a0).toInt = (σ11.1 657 a0).toInt + 1 := fin_tr p19_1 (rfl)
    have i20 : Iv (σ18.1 657 a0) 2 2 := iv_fin x21 i13 (by decide)
    refine lv_aload_n hx hb dX11_thaw_57 rfl (lv_at hl 1 rfl) ?_
    refine g_652 cx hw ha0 k_f_X11_377 dX11_thaw_58 (fun v22 e22 => ?_)
    refine lv_lload_n hx hb dX11_thaw_61 rfl (lv_at hl 0 rfl) ?_
    refine lv_ldc2 (v := (-1)) hx hb hown (hts _ k_k_X11_327) dX11_thaw_62 ?_
    refine lv_lxor hx hb dX11_thaw_65 ?_
    refine lv_topl (fun v23 e23 => ?_)
    refine lv_land hx hb dX11_thaw_66 ?_
    refine lv_topl (fun v24 e24 => ?_)
    refine o_ci hw (oRunS cx hA hw q_J13_bitCount_95d88 k_m_X11_321 (As := [.long v24]) (c_J13_bitCount_95d88 v24) (by decide) rfl hl.1 rfl (Nat.le_of_ble_eq_true rfl) dX11_thaw_67 (by decide)) (fun v26 σ25 H locs hp hw => ?_)
    obtain ⟨p26_0, p26_1⟩ := hp
    rw [p26_0] at hw
    rw [← hQ]
    exact o_ri cx rx hw dX11_thaw_70 ⟨fr, (iv_w p26_1 (by decide))⟩
  · --
    have i27 : Iv v2 0 0 := iv_eq1 c3 (iv_top v2) (⟨by decide, by decide⟩ : Iv 0 0 0) (by decide)
    refine lv_bipush (v := (-2)) hx hb dX11_thaw_12 (by decide) ?_
    rw [← hQ]
    exact o_ri cx rx hw dX11_thaw_14 ⟨fr, (iv_w (⟨by decide, by decide⟩ : Iv (-2) (-2) (-2)) (by decide))⟩
end OM
