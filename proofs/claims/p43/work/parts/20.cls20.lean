section OM
variable {l : Launch} {A : Nat → Prop} {L : List Nat} {τ : Nat → Nat} {cy : Nat → ClassId} {D : va_G} {K : (Nat → Nat) × (Nat → Nat)} {σ : oSt}
abbrev fs_X11_season : List Nat := [657, 658, 659, 660, 661, 662, 663, 669]
abbrev ts_X11_season : List Nat := [48, 52, 55]
set_option maxHeartbeats 4000000 in
set_option maxRecDepth 100000 in
theorem c_X11_season (a0 : Nat) (ha0 : oA L τ a0 10) (a1 : Int32) (a2 : Int32) (hcr : (σ.1 641 a0).toInt = 0 ∨ 1 ≤ (σ.1 642 a0).toInt) (hf641 : Iv (σ.1 641 a0) 0 8) (hf642 : Iv (σ.1 642 a0) 0 8) : oMet l A L τ cy D K yX11_season cX11_season 9 (some .int) 341 8573 [.ref a0, .int a1, .int a2] σ (va_Qi (fun r σ1 => oFr τ fs_X11_season ts_X11_season σ σ1) (oPo A L τ cy D) A) := by
  refine oMk (by decide) (Nat.le_of_ble_eq_true rfl) rfl ?_
  intro p e s m args below meth c ls cx rx hA hw hl
  generalize hQ : MQ below _ args s 0 0 A = Q
  have hx := cx.1.1
  have hb := cx.1.2.1
  have hml := cx.1.2.2.1
  have hown := cx.1.2.2.2.1
  have hts := cx.1.2.2.2.2
  have hl : lv_has ls 9 [(0, .ref a0), (1, .int a1), (2, .int a2)] := hl
  have fr : oFr τ fs_X11_season ts_X11_season σ σ := oFr_rf
  refine lv_aload_n hx hb dX11_season_0 rfl (lv_at hl 0 rfl) ?_
  refine lv_iconst (v := 0) hx hb dX11_season_1 (by decide) ?_
  refine p_658 cx hw ha0 k_f_X11_89 dX11_season_2 (fun σ1 H locs eσ1 hw => ?_)
  have fr := oFr_i fr eσ1 (by decide)
  refine lv_iload_n hx hb dX11_season_5 rfl (lv_at hl 2 rfl) ?_
  refine lv_iconst (v := 1) hx hb dX11_season_6 (by decide) ?_
  refine lv_bipush (v := 60) hx hb dX11_season_7 (by decide) ?_
  refine o_ci hw (oRunS cx hA hw q_X11_in k_m_X11_95 (As := [.int a2, .int 1, .int 60]) (c_X11_in a2 1 60) (by decide) rfl hl.1 rfl (Nat.le_of_ble_eq_true rfl) dX11_season_9 (by decide)) (fun v3 σ2 H locs hp hw => ?_)
  obtain ⟨p3_0, p3_1, p3_2, p3_3, p3_4, p3_5⟩ := hp
  rw [p3_0] at hw
  refine lv_if_eq (tgt := 22) hx hb dX11_season_12 (by decide) (fun c4 => ?_) (fun c4 => ?_)
  · --
    have i5 : Iv v3 0 0 := iv_eq1 c4 p3_1 (⟨by decide, by decide⟩ : Iv 0 0 0) (by decide)
    refine lv_iconst (v := (-1)) hx hb dX11_season_22 (by decide) ?_
    rw [← hQ]
    exact o_ri cx rx hw dX11_season_23 fr
  · --
    have i6 : Iv v3 1 1 := iv_ne1 c4 p3_1 (⟨by decide, by decide⟩ : Iv 0 0 0) (by decide)
    have i7 : Iv a2 1 60 := (fun h => iv_rel (p3_2 h) (⟨by decide, by decide⟩ : Iv 1 1 1) (⟨by decide, by decide⟩ : Iv 60 60 60)) c4
    refine lv_aload_n hx hb dX11_season_15 rfl (lv_at hl 0 rfl) ?_
    refine g_641 cx hw ha0 k_f_X11_99 dX11_season_16 (fun v8 e8 i8 => ?_)
    rw [show v8 = (σ.1 641 a0) from e8.trans ((kp_i eσ1 (by decide)).trans rfl)]
    refine lv_if_ne (tgt := 24) hx hb dX11_season_19 (by decide) (fun c9 => ?_) (fun c9 => ?_)
    · --
      have i10 : Iv (σ.1 641 a0) 1 8 := iv_ne1 c9 hf641 (⟨by decide, by decide⟩ : Iv 0 0 0) (by decide)
      refine lv_iload_n hx hb dX11_season_24 rfl (lv_at hl 1 rfl) ?_
      refine lv_istore_n (lv' := [(3, .int a1), (0, .ref a0), (1, .int a1), (2, .int a2)]) hx hb dX11_season_25 rfl hl (by decide) rfl (fun ls hl => ?_)
      refine lv_iconst (v := 0) hx hb dX11_season_26 (by decide) ?_
      refine lv_istore (lv' := [(4, .int 0), (3, .int a1), (0, .ref a0), (1, .int a1), (2, .int a2)]) hx hb dX11_season_27 hl (by decide) rfl (fun ls hl => ?_)
      refine lv_aload_n hx hb dX11_season_29 rfl (lv_at hl 2 rfl) ?_
      refine g_640 cx hw ha0 k_f_X11_9 dX11_season_30 (fun v11 e11 h11 => ?_)
      refine lv_aload_n hx hb dX11_season_33 rfl (lv_at hl 2 rfl) ?_
      refine g_677 cx hw ha0 k_f_X11_67 dX11_season_34 (fun v12 e12 h12 => ?_)
      refine lv_iconst (v := 0) hx hb dX11_season_37 (by decide) ?_
      refine o_cv hw (oRunS cx hA hw q_X11_lay k_m_X11_251 (As := [.ref v11, .ref v12, .int 0]) (c_X11_layN v11 h11 v12 h12 0 (iv_w (⟨by decide, by decide⟩ : Iv 0 0 0) (by decide))) (by decide) rfl hl.1 rfl (Nat.le_of_ble_eq_true rfl) dX11_season_38 (by decide)) (fun σ13 H locs hp hw => ?_)
      have p14_0 := hp
      have fr := oFr_tr fr p14_0 (by decide)
      refine lv_iconst (v := 0) hx hb dX11_season_41 (by decide) ?_
      refine lv_istore (lv' := [(5, .int 0), (4, .int 0), (3, .int a1), (0, .ref a0), (1, .int a1), (2, .int a2)]) hx hb dX11_season_42 hl (by decide) rfl (fun ls hl => ?_)
      have frE_44 := fr
      have J_44 : ∀ n44 : Nat, ∀ (j44_3 : Int32) (j44_4 : Int32) (j44_5 : Int32) (ij44_5 : Iv j44_5 0 60), ∀ (σ_44 : oSt) (H : Heap) (locs : List Loc), oI A L τ cy D s.heap σ_44 H locs → oFr τ fs_X11_season ts_X11_season σ σ_44 → (60 - j44_5.toInt).toNat < n44 → ∀ (ls : Array Slot), lv_has ls 9 [(0, .ref a0), (1, .int a1), (2, .int a2), (3, .int j44_3), (4, .int j44_4), (5, .int j44_5)] → W p l e ({ frames := 341, cells := 0, slots := 0, locals := 8573 } : Room) s m args below meth c H locs 0 0 Q (F0 m 44 ls []) := by
        intro n44
        induction n44 with
        | zero => intro j44_3 j44_4 j44_5 ij44_5 σ_44 H locs hw fr   hn_44   ls hl; exact absurd hn_44 (Nat.not_lt_zero _)
        | succ n44 ih_44 =>
          intro j44_3 j44_4 j44_5 ij44_5 σ_44 H locs hw fr   hn_44   ls hl
          have fr_44 := fr
          refine lv_iload hx hb dX11_season_44 (lv_at hl 5 rfl) ?_
          refine lv_iload_n hx hb dX11_season_46 rfl (lv_at hl 2 rfl) ?_
          refine lv_icmp_ge (tgt := 164) hx hb dX11_season_47 (by decide) (fun c15 => ?_) (fun c15 => ?_)
          · --
            have i16 : Iv j44_5 1 60 := iv_le2 c15 i7 ij44_5 (by decide)
            refine lv_aload_n hx hb dX11_season_164 rfl (lv_at hl 0 rfl) ?_
            refine lv_aload_n hx hb dX11_season_165 rfl (lv_at hl 0 rfl) ?_
            refine g_677 cx hw ha0 k_f_X11_67 dX11_season_166 (fun v17 e17 h17 => ?_)
            rw [show v17 = v12 from Option.some.inj (e17.symm.trans (((kr_c fr_44 (by decide)).trans ((kr_c frE_44 (by decide)).symm.trans (((kr_c p14_0 (by decide)).trans e12))))))]
            refine o_cv hw (oRunV cx hA hw q_X11_tellHerds k_m_X11_289 rfl ha0 (by decide) (As := [.ref v12]) (c_X11_tellHerds a0 ha0 v12 h12) (by decide) rfl hl.1 rfl (Nat.le_of_ble_eq_true rfl) dX11_season_169 (by decide)) (fun σ18 H locs hp hw => ?_)
            have p19_0 := hp
            have fr := oFr_tr fr p19_0 (by decide)
            refine lv_iload hx hb dX11_season_172 (lv_at hl 4 rfl) ?_
            rw [← hQ]
            exact o_ri cx rx hw dX11_season_174 fr
          · --
            have i20 : Iv j44_5 0 59 := iv_lt1 (iv_nle c15) ij44_5 i7 (by decide)
            refine lv_iload_n hx hb dX11_season_50 rfl (lv_at hl 3 rfl) ?_
            refine lv_ldcw (v := 1103515245) hx hb hown (hts _ k_k_X11_381) dX11_season_51 ?_
            refine lv_imul hx hb dX11_season_54 ?_
            refine lv_topi (fun v21 e21 => ?_)
            refine lv_sipush (v := 12345) hx hb dX11_season_55 (by decide) ?_
            refine lv_iadd hx hb dX11_season_58 ?_
            refine lv_topi (fun v22 e22 => ?_)
            refine lv_istore_n (lv' := [(3, .int v22), (0, .ref a0), (1, .int a1), (2, .int a2), (4, .int j44_4), (5, .int j44_5)]) hx hb dX11_season_59 rfl hl (by decide) rfl (fun ls hl => ?_)
            refine lv_iload_n hx hb dX11_season_60 rfl (lv_at hl 0 rfl) ?_
            refine lv_bipush (v := 16) hx hb dX11_season_61 (by decide) ?_
            refine lv_iushr hx hb dX11_season_63 rfl ?_
            refine lv_topi (fun v23 e23 => ?_)
            have i23 : Iv v23 0 65535 := iv_ushr16 e23
            refine lv_aload_n hx hb dX11_season_64 rfl (lv_at hl 1 rfl) ?_
            refine g_641 cx hw ha0 k_f_X11_99 dX11_season_65 (fun v24 e24 i24 => ?_)
            rw [show v24 = (σ.1 641 a0) from e24.trans (kp_c fr_44 (by decide))]
            refine lv_aload_n hx hb dX11_season_68 rfl (lv_at hl 1 rfl) ?_
            refine g_642 cx hw ha0 k_f_X11_102 dX11_season_69 (fun v25 e25 i25 => ?_)
            rw [show v25 = (σ.1 642 a0) from e25.trans (kp_c fr_44 (by decide))]
            have i26 : Iv (σ.1 642 a0) 1 8 := (by have := (i7).1; have := (i7).2; have := (i20).1; have := (i20).2; have := (i23).1; have := (i23).2; have := (i10).1; have := (i10).2; have := (hf642).1; have := (hf642).2; have := (i6).1; have := (i6).2; have : (σ_44.1 641 a0).toInt = ((σ.1 641 a0) : Int32).toInt := congrArg Int32.toInt (show σ_44.1 641 a0 = (σ.1 641 a0) from (kp_c fr_44 (by decide))); have : (σ_44.1 642 a0).toInt = ((σ.1 642 a0) : Int32).toInt := congrArg Int32.toInt (show σ_44.1 642 a0 = (σ.1 642 a0) from (kp_c fr_44 (by decide))); have : (j44_5 : Int32).toInt < (a2 : Int32).toInt := iv_lt.mp (iv_nle c15); have : (0 : Int32).toInt = 0 := (by decide); have : (1 : Int32).toInt = 1 := (by decide); have : (60 : Int32).toInt = 60 := (by decide); exact ⟨by omega, by omega⟩)
            refine lv_imul hx hb dX11_season_72 ?_
            refine lv_topi (fun v27 e27 => ?_)
            have i27 : Iv v27 1 64 := iv_mul e27 i10 i26 (by decide)
            refine lv_irem hx hb dX11_season_73 (iv_nz i27 (by decide)) ?_
            refine lv_topi (fun v28 e28 => ?_)
            have i28 : Iv v28 0 63 := iv_rem e28 i23 i27 (by decide)
            refine lv_istore (lv' := [(6, .int v28), (3, .int v22), (0, .ref a0), (1, .int a1), (2, .int a2), (4, .int j44_4), (5, .int j44_5)]) hx hb dX11_season_74 hl (by decide) rfl (fun ls hl => ?_)
            refine lv_bipush (v := 8) hx hb dX11_season_76 (by decide) ?_
            refine lv_iload hx hb dX11_season_78 (lv_at hl 0 rfl) ?_
            refine lv_aload_n hx hb dX11_season_80 rfl (lv_at hl 2 rfl) ?_
            refine g_641 cx hw ha0 k_f_X11_99 dX11_season_81 (fun v29 e29 i29 => ?_)
            rw [show v29 = (σ.1 641 a0) from e29.trans (kp_c fr_44 (by decide))]
            refine lv_idiv hx hb dX11_season_84 c9 ?_
            refine lv_topi (fun v30 e30 => ?_)
            have i30 : Iv v30 0 63 := iv_div e30 i28 i10 (by decide)
            have i31 : Iv v30 0 7 := dr_row e28 i23 (by decide) i10 i26 e27 e30 i28
            refine lv_imul hx hb dX11_season_85 ?_
            refine lv_topi (fun v32 e32 => ?_)
            have i32 : Iv v32 0 56 := iv_mul e32 (⟨by decide, by decide⟩ : Iv 8 8 8) i31 (by decide)
            refine lv_iload hx hb dX11_season_86 (lv_at hl 0 rfl) ?_
            refine lv_aload_n hx hb dX11_season_88 rfl (lv_at hl 2 rfl) ?_
            refine g_641 cx hw ha0 k_f_X11_99 dX11_season_89 (fun v33 e33 i33 => ?_)
            rw [show v33 = (σ.1 641 a0) from e33.trans (kp_c fr_44 (by decide))]
            refine lv_irem hx hb dX11_season_92 c9 ?_
            refine lv_topi (fun v34 e34 => ?_)
            have i34 : Iv v34 0 7 := iv_rem e34 i28 i10 (by decide)
            refine lv_iadd hx hb dX11_season_93 ?_
            refine lv_topi (fun v35 e35 => ?_)
            have i35 : Iv v35 0 63 := iv_add e35 i32 i34 (by decide)
            have x35 : v35.toInt = v32.toInt + v34.toInt := ex_add e35 i32 i34 (by decide)
            refine lv_istore (lv' := [(7, .int v35), (6, .int v28), (3, .int v22), (0, .ref a0), (1, .int a1), (2, .int a2), (4, .int j44_4), (5, .int j44_5)]) hx hb dX11_season_94 hl (by decide) rfl (fun ls hl => ?_)
            refine lv_aload_n hx hb dX11_season_96 rfl (lv_at hl 3 rfl) ?_
            refine g_677 cx hw ha0 k_f_X11_67 dX11_season_97 (fun v36 e36 h36 => ?_)
            rw [show v36 = v12 from Option.some.inj (e36.symm.trans (((kr_c fr_44 (by decide)).trans ((kr_c frE_44 (by decide)).symm.trans (((kr_c p14_0 (by decide)).trans e12))))))]
            refine lv_sipush (v := 128) hx hb dX11_season_100 (by decide) ?_
            refine lv_iload hx hb dX11_season_103 (lv_at hl 0 rfl) ?_
            refine lv_iadd hx hb dX11_season_105 ?_
            refine lv_topi (fun v37 e37 => ?_)
            have i37 : Iv v37 128 191 := iv_add e37 (⟨by decide, by decide⟩ : Iv 128 128 128) i35 (by decide)
            have x37 : v37.toInt = v35.toInt + 128 := (ex_add e37 (⟨by decide, by decide⟩ : Iv 128 128 128) i35 (by decide)).trans (Int.add_comm _ _)
            refine o_iald cx hw h12 (by decide) rfl (iv_in i37 (by decide)) dX11_season_106 (fun v38 e38 b38 => ?_)
            refine lv_istore (lv' := [(8, .int v38), (7, .int v35), (6, .int v28), (3, .int v22), (0, .ref a0), (1, .int a1), (2, .int a2), (4, .int j44_4), (5, .int j44_5)]) hx hb dX11_season_107 hl (by decide) rfl (fun ls hl => ?_)
            refine lv_aload_n hx hb dX11_season_109 rfl (lv_at hl 4 rfl) ?_
            refine g_643 cx hw ha0 k_f_X11_13 dX11_season_110 (fun v39 e39 h39 => ?_)
            refine lv_iload hx hb dX11_season_113 (lv_at hl 1 rfl) ?_
            refine o_iald cx hw h39 (by decide) rfl (iv_in i35 (by decide)) dX11_season_115 (fun v40 e40 b40 => ?_)
            have frE_132 := fr
            have J_132 : ∀ (σ_132 : oSt) (H : Heap) (locs : List Loc), oI A L τ cy D s.heap σ_132 H locs → oFr τ fs_X11_season ts_X11_season σ σ_132 → ∀ (ls : Array Slot), lv_has ls 9 [(0, .ref a0), (1, .int a1), (2, .int a2), (3, .int v22), (4, .int j44_4), (5, .int j44_5), (6, .int v28), (7, .int v35), (8, .int v38)] → W p l e ({ frames := 341, cells := 0, slots := 0, locals := 8573 } : Room) s m args below meth c H locs 0 0 Q (F0 m 132 ls []) := by
              intro  σ_132 H locs hw fr      ls hl
              have fr_132 := fr
              refine lv_iload hx hb dX11_season_132 (lv_at hl 4 rfl) ?_
              refine lv_aload_n hx hb dX11_season_134 rfl (lv_at hl 0 rfl) ?_
              refine lv_aload_n hx hb dX11_season_135 rfl (lv_at hl 0 rfl) ?_
              refine g_677 cx hw ha0 k_f_X11_67 dX11_season_136 (fun v41 e41 h41 => ?_)
              rw [show v41 = v12 from Option.some.inj (e41.symm.trans (((kr_c fr_132 (by decide)).trans ((kr_c frE_132 (by decide)).symm.trans (((kr_c fr_44 (by decide)).trans ((kr_c frE_44 (by decide)).symm.trans (((kr_c p14_0 (by decide)).trans e12)))))))))]
              refine o_ci hw (oRunV cx hA hw q_X11_goHour k_m_X11_285 rfl ha0 (by decide) (As := [.ref v12]) (c_X11_goHour a0 ha0 v12 h12) (by decide) rfl hl.1 rfl (Nat.le_of_ble_eq_true rfl) dX11_season_139 (by decide)) (fun v43 σ42 H locs hp hw => ?_)
              have p43_0 := hp
              have fr := oFr_tr fr p43_0 (by decide)
              refine lv_iadd hx hb dX11_season_142 ?_
              refine lv_topi (fun v44 e44 => ?_)
              refine lv_istore (lv' := [(4, .int v44), (0, .ref a0), (1, .int a1), (2, .int a2), (3, .int v22), (5, .int j44_5), (6, .int v28), (7, .int v35), (8, .int v38)]) hx hb dX11_season_143 hl (by decide) rfl (fun ls hl => ?_)
              refine lv_aload_n hx hb dX11_season_145 rfl (lv_at hl 1 rfl) ?_
              refine g_677 cx hw ha0 k_f_X11_67 dX11_season_146 (fun v45 e45 h45 => ?_)
              rw [show v45 = v12 from Option.some.inj (e45.symm.trans (((kr_c p43_0 (by decide)).trans ((kr_c fr_132 (by decide)).trans ((kr_c frE_132 (by decide)).symm.trans (((kr_c fr_44 (by decide)).trans ((kr_c frE_44 (by decide)).symm.trans (((kr_c p14_0 (by decide)).trans e12))))))))))]
              refine lv_sipush (v := 128) hx hb dX11_season_149 (by decide) ?_
              refine lv_iload hx hb dX11_season_152 (lv_at hl 7 rfl) ?_
              refine lv_iadd hx hb dX11_season_154 ?_
              refine lv_topi (fun v46 e46 => ?_)
              have i46 : Iv v46 128 191 := iv_add e46 (⟨by decide, by decide⟩ : Iv 128 128 128) i35 (by decide)
              have x46 : v46.toInt = v35.toInt + 128 := (ex_add e46 (⟨by decide, by decide⟩ : Iv 128 128 128) i35 (by decide)).trans (Int.add_comm _ _)
              refine lv_iload hx hb dX11_season_155 (lv_at hl 8 rfl) ?_
              refine o_iast cx hw h12 (by decide) rfl (iv_in i46 (by decide)) (rb_lo i46 (by decide)) dX11_season_157 (fun σ47 H locs eσ47 hw => ?_)
              have fr := oFr_p fr eσ47 h12 (by decide)
              obtain ⟨v48, e48⟩ : ∃ y : Int32, y = j44_5 + 1 := ⟨_, rfl⟩
              have i48 : Iv v48 1 60 := iv_add e48 i20 (⟨by decide, by decide⟩ : Iv 1 1 1) (by decide)
              have x48 : v48.toInt = j44_5.toInt + 1 := ex_add e48 i20 (⟨by decide, by decide⟩ : Iv 1 1 1) (by decide)
              refine lv_iinc (v := v48) (lv' := [(5, .int v48), (4, .int v44), (0, .ref a0), (1, .int a1), (2, .int a2), (3, .int v22), (6, .int v28), (7, .int v35), (8, .int v38)]) hx hb dX11_season_158 hl (k := 5) rfl (by rw [e48]; rfl) (by decide) rfl (fun ls hl => ?_)
              refine lv_goto (tgt := 44) hx hb dX11_season_161 (by decide) ?_
              exact ih_44 v22 v44 v48 (iv_w i48 (by decide)) σ47 _ _ hw fr (ms_up x48 (by decide) (iv_w (a' := 0) (b' := 60) i48 (by decide)).2 hn_44) _ (lv_sub hl [2, 3, 4, 5, 1, 0] rfl)
            refine lv_if_ne (tgt := 132) hx hb dX11_season_116 (by decide) (fun c49 => ?_) (fun c49 => ?_)
            · --
              exact J_132 σ_44 _ _ hw fr _ (lv_sub hl [4, 5, 6, 3, 7, 8, 2, 1, 0] rfl)
            · --
              have i50 : Iv v40 0 0 := iv_eq1 c49 (iv_top v40) (⟨by decide, by decide⟩ : Iv 0 0 0) (by decide)
              refine lv_aload_n hx hb dX11_season_119 rfl (lv_at hl 4 rfl) ?_
              refine g_677 cx hw ha0 k_f_X11_67 dX11_season_120 (fun v51 e51 h51 => ?_)
              rw [show v51 = v12 from Option.some.inj (e51.symm.trans (((kr_c fr_44 (by decide)).trans ((kr_c frE_44 (by decide)).symm.trans (((kr_c p14_0 (by decide)).trans e12))))))]
              refine lv_sipush (v := 128) hx hb dX11_season_123 (by decide) ?_
              refine lv_iload hx hb dX11_season_126 (lv_at hl 1 rfl) ?_
              refine lv_iadd hx hb dX11_season_128 ?_
              refine lv_topi (fun v52 e52 => ?_)
              have i52 : Iv v52 128 191 := iv_add e52 (⟨by decide, by decide⟩ : Iv 128 128 128) i35 (by decide)
              have x52 : v52.toInt = v35.toInt + 128 := (ex_add e52 (⟨by decide, by decide⟩ : Iv 128 128 128) i35 (by decide)).trans (Int.add_comm _ _)
              refine lv_bipush (v := 9) hx hb dX11_season_129 (by decide) ?_
              refine o_iast cx hw h12 (by decide) rfl (iv_in i52 (by decide)) (fun _ _ => iv_w (⟨by decide, by decide⟩ : Iv 9 9 9) (by decide)) dX11_season_131 (fun σ53 H locs eσ53 hw => ?_)
              have fr := oFr_p fr eσ53 h12 (by decide)
              exact J_132 σ53 _ _ hw fr _ (lv_sub hl [4, 5, 6, 3, 7, 8, 2, 1, 0] rfl)
      exact J_44 _ a1 0 0 (iv_w (⟨by decide, by decide⟩ : Iv 0 0 0) (by decide)) σ13 _ _ hw fr (Nat.lt_succ_self _) _ (lv_sub hl [3, 4, 5, 2, 1, 0] rfl)
    · --
      have i54 : Iv (σ.1 641 a0) 0 0 := iv_eq1 c9 hf641 (⟨by decide, by decide⟩ : Iv 0 0 0) (by decide)
      refine lv_iconst (v := (-1)) hx hb dX11_season_22 (by decide) ?_
      rw [← hQ]
      exact o_ri cx rx hw dX11_season_23 fr
abbrev fs_X11_keep : List Nat := [658]
abbrev ts_X11_keep : List Nat := [59, 60, 61]
set_option maxHeartbeats 4000000 in
set_option maxRecDepth 100000 in
theorem c_X11_keep (a0 : Nat) (ha0 : oA L τ a0 10) (a1 : Int32) : oMet l A L τ cy D K yX11_keep cX11_keep 2 (some .boolean) 1 23 [.ref a0, .int a1] σ (va_Qi (fun r σ1 => oFr τ fs_X11_keep ts_X11_keep σ σ1 ∧ Iv r 0 1 ∧ ((0 ≤ a1.toInt ∧ a1.toInt ≤ 1 ∧ r.toInt = 1) ∨ ((a1.toInt < 0 ∨ 1 < a1.toInt) ∧ r.toInt = 0)) ∧ ((r.toInt = 0 ∧ (a1.toInt < 0 ∨ 2 ≤ a1.toInt) ∧ oRw σ1 683 a0 = oRw σ 683 a0 ∧ oRw σ1 684 a0 = oRw σ 684 a0) ∨ (r.toInt = 1 ∧ Iv a1 0 1 ∧ oRw σ1 683 a0 = upd (oRw σ 683 a0) a1.toNatClampNeg 1 ∧ oRw σ1 684 a0 = upd (oRw σ 684 a0) a1.toNatClampNeg (σ.1 681 a0)))) (oPo A L τ cy D) A) := by
  refine oMk (by decide) (Nat.le_of_ble_eq_true rfl) rfl ?_
  intro p e s m args below meth c ls cx rx hA hw hl
  generalize hQ : MQ below _ args s 0 0 A = Q
  have hx := cx.1.1
  have hb := cx.1.2.1
  have hml := cx.1.2.2.1
  have hown := cx.1.2.2.2.1
  have hts := cx.1.2.2.2.2
  have hl : lv_has ls 2 [(0, .ref a0), (1, .int a1)] := hl
  have fr : oFr τ fs_X11_keep ts_X11_keep σ σ := oFr_rf
  obtain ⟨b683, hF683, hb683⟩ := hw.2.2.2.2.2 683 a0 60 (by rw [ha0.2]; rfl) ha0.1
  obtain ⟨b684, hF684, hb684⟩ := hw.2.2.2.2.2 684 a0 61 (by rw [ha0.2]; rfl) ha0.1
  refine lv_aload_n hx hb dX11_keep_0 rfl (lv_at hl 0 rfl) ?_
  refine lv_iconst (v := 0) hx hb dX11_keep_1 (by decide) ?_
  refine p_658 cx hw ha0 k_f_X11_89 dX11_keep_2 (fun σ1 H locs eσ1 hw => ?_)
  have fr := oFr_i fr eσ1 (by decide)
  refine lv_iload_n hx hb dX11_keep_5 rfl (lv_at hl 1 rfl) ?_
  refine lv_iconst (v := 0) hx hb dX11_keep_6 (by decide) ?_
  refine lv_iconst (v := 1) hx hb dX11_keep_7 (by decide) ?_
  refine o_ci hw (oRunS cx hA hw q_X11_in k_m_X11_95 (As := [.int a1, .int 0, .int 1]) (c_X11_in a1 0 1) (by decide) rfl hl.1 rfl (Nat.le_of_ble_eq_true rfl) dX11_keep_8 (by decide)) (fun v3 σ2 H locs hp hw => ?_)
  obtain ⟨p3_0, p3_1, p3_2, p3_3, p3_4, p3_5⟩ := hp
  rw [p3_0] at hw
  refine lv_if_ne (tgt := 16) hx hb dX11_keep_11 (by decide) (fun c4 => ?_) (fun c4 => ?_)
  · --
    have i5 : Iv v3 1 1 := iv_ne1 c4 p3_1 (⟨by decide, by decide⟩ : Iv 0 0 0) (by decide)
    have i6 : Iv a1 0 1 := (fun h => iv_rel (p3_2 h) (⟨by decide, by decide⟩ : Iv 0 0 0) (⟨by decide, by decide⟩ : Iv 1 1 1)) c4
    refine lv_aload_n hx hb dX11_keep_16 rfl (lv_at hl 0 rfl) ?_
    refine g_683 cx hw ha0 k_f_X11_82 dX11_keep_17 (fun v7 e7 h7 => ?_)
    rw [show v7 = b683 from Option.some.inj (e7.symm.trans (((kr_i eσ1).trans hF683)))]
    refine lv_iload_n hx hb dX11_keep_20 rfl (lv_at hl 1 rfl) ?_
    refine lv_iconst (v := 1) hx hb dX11_keep_21 (by decide) ?_
    refine o_zast cx hw hb683 (by decide) rfl (iv_in i6 (by decide)) trivial dX11_keep_22 (fun σ8 H locs eσ8 hw => ?_)
    have fr := oFr_p fr eσ8 hb683 (by decide)
    refine lv_aload_n hx hb dX11_keep_23 rfl (lv_at hl 0 rfl) ?_
    refine g_684 cx hw ha0 k_f_X11_86 dX11_keep_24 (fun v9 e9 h9 => ?_)
    rw [show v9 = b684 from Option.some.inj (e9.symm.trans (((kr_p eσ8).trans ((kr_i eσ1).trans hF684))))]
    refine lv_iload_n hx hb dX11_keep_27 rfl (lv_at hl 1 rfl) ?_
    refine lv_aload_n hx hb dX11_keep_28 rfl (lv_at hl 0 rfl) ?_
    refine g_681 cx hw ha0 k_f_X11_182 dX11_keep_29 (fun v10 e10 => ?_)
    rw [show v10 = (σ.1 681 a0) from e10.trans ((kp_p eσ8).trans ((kp_i eσ1 (by decide)).trans rfl))]
    refine o_iast cx hw hb684 (by decide) rfl (iv_in i6 (by decide)) trivial dX11_keep_32 (fun σ11 H locs eσ11 hw => ?_)
    have fr := oFr_p fr eσ11 hb684 (by decide)
    refine lv_aload_n hx hb dX11_keep_33 rfl (lv_at hl 0 rfl) ?_
    refine g_640 cx hw ha0 k_f_X11_9 dX11_keep_34 (fun v12 e12 h12 => ?_)
    refine lv_aload_n hx hb dX11_keep_37 rfl (lv_at hl 0 rfl) ?_
    refine g_682 cx hw ha0 k_f_X11_79 dX11_keep_38 (fun v13 e13 h13 => ?_)
    refine lv_sipush (v := 334) hx hb dX11_keep_41 (by decide) ?_
    refine lv_iload_n hx hb dX11_keep_44 rfl (lv_at hl 1 rfl) ?_
    refine lv_imul hx hb dX11_keep_45 ?_
    refine lv_topi (fun v14 e14 => ?_)
    have i14 : Iv v14 0 334 := iv_mul e14 (⟨by decide, by decide⟩ : Iv 334 334 334) i6 (by decide)
    refine o_cv hw (oRunS cx hA hw q_X11_lay k_m_X11_251 (As := [.ref v12, .ref v13, .int v14]) (c_X11_layK v12 h12 v13 h13 v14 (iv_w i14 (by decide)) (by have q2 := ex_mul e14 (⟨by decide, by decide⟩ : Iv 334 334 334) i6 (by decide); have q3 : (334 : Int32).toInt = 334 := (by decide); rw [q3] at q2; omega)) (by decide) rfl hl.1 rfl (Nat.le_of_ble_eq_true rfl) dX11_keep_46 (by decide)) (fun σ15 H locs hp hw => ?_)
    have p16_0 := hp
    have fr := oFr_tr fr p16_0 (by decide)
    refine lv_iconst (v := 1) hx hb dX11_keep_49 (by decide) ?_
    rw [← hQ]
    exact o_rz cx rx hw (iv_nz01 (iv_w (⟨by decide, by decide⟩ : Iv 1 1 1) (by decide))) dX11_keep_50 ⟨fr, (iv_w (⟨by decide, by decide⟩ : Iv 1 1 1) (by decide)), (by exact (by have := (i6).1; have := (i6).2; have := (i5).1; have := (i5).2; have := (i14).1; have := (i14).2; have : (σ15.1 681 a0).toInt = ((σ.1 681 a0) : Int32).toInt := congrArg Int32.toInt (show σ15.1 681 a0 = (σ.1 681 a0) from ((kp_c p16_0 (by decide)).trans ((kp_p eσ11).trans ((kp_p eσ8).trans ((kp_i eσ1 (by decide)).trans rfl))))); have : (σ15.1 658 a0).toInt = (0 : Int32).toInt := congrArg Int32.toInt (show σ15.1 658 a0 = 0 from ((kp_c p16_0 (by decide)).trans ((kp_p eσ11).trans ((kp_p eσ8).trans (kp_s eσ1))))); have : (0 : Int32).toInt = 0 := (by decide); have : (1 : Int32).toInt = 1 := (by decide); omega)), (by have in9 := p3_3; unfold INN at in9; exact Or.inr ⟨(by have : (0 : Int32).toInt = 0 := (by decide); have : (1 : Int32).toInt = 1 := (by decide); have : (2 : Int32).toInt = 2 := (by decide); have := (i6).1; have := (i6).2; have := (i5).1; have := (i5).2; have := (i14).1; have := (i14).2; have : (σ15.1 681 a0).toInt = ((σ.1 681 a0) : Int32).toInt := congrArg Int32.toInt (show σ15.1 681 a0 = (σ.1 681 a0) from ((kp_c p16_0 (by decide)).trans ((kp_p eσ11).trans ((kp_p eσ8).trans ((kp_i eσ1 (by decide)).trans rfl))))); have : (σ15.1 658 a0).toInt = (0 : Int32).toInt := congrArg Int32.toInt (show σ15.1 658 a0 = 0 from ((kp_c p16_0 (by decide)).trans ((kp_p eσ11).trans ((kp_p eσ8).trans (kp_s eσ1))))); have : (0 : Int32).toInt = 0 := (by decide); have : (1 : Int32).toInt = 1 := (by decide); omega), (by have : (0 : Int32).toInt = 0 := (by decide); have : (1 : Int32).toInt = 1 := (by decide); have : (2 : Int32).toInt = 2 := (by decide); have := (i6).1; have := (i6).2; have := (i5).1; have := (i5).2; have := (i14).1; have := (i14).2; have : (σ15.1 681 a0).toInt = ((σ.1 681 a0) : Int32).toInt := congrArg Int32.toInt (show σ15.1 681 a0 = (σ.1 681 a0) from ((kp_c p16_0 (by decide)).trans ((kp_p eσ11).trans ((kp_p eσ8).trans ((kp_i eσ1 (by decide)).trans rfl))))); have : (σ15.1 658 a0).toInt = (0 : Int32).toInt := congrArg Int32.toInt (show σ15.1 658 a0 = 0 from ((kp_c p16_0 (by decide)).trans ((kp_p eσ11).trans ((kp_p eσ8).trans (kp_s eσ1))))); have : (0 : Int32).toInt = 0 := (by decide); have : (1 : Int32).toInt = 1 := (by decide); exact ⟨by omega, by omega⟩), by rw [oRw_s (((kr_c p16_0 (by decide)).trans ((kr_p eσ11).trans ((kr_p eσ8).trans ((kr_i eσ1).trans hF683))))), oRw_s hF683]; exact (show σ15.2.2.1 b683 = upd (σ.2.2.1 b683) a1.toNatClampNeg 1 from (((rw_c p16_0 hb683 (by decide)).trans ((rw_n eσ11 (rw_ne hb683 hb684 (by decide))).trans rfl))).trans ((rw_s eσ8).trans (by rw [show σ1.2.2.1 b683 = σ.2.2.1 b683 from ((rw_i eσ1).trans rfl)]; rfl))), by rw [oRw_s (((kr_c p16_0 (by decide)).trans ((kr_p eσ11).trans ((kr_p eσ8).trans ((kr_i eσ1).trans hF684))))), oRw_s hF684]; exact (show σ15.2.2.1 b684 = upd (σ.2.2.1 b684) a1.toNatClampNeg (σ.1 681 a0) from (((rw_c p16_0 hb684 (by decide)).trans rfl)).trans ((rw_s eσ11).trans (by rw [show σ8.2.2.1 b684 = σ.2.2.1 b684 from ((rw_n eσ8 (rw_ne hb684 hb683 (by decide))).trans ((rw_i eσ1).trans rfl))])))⟩)⟩
  · --
    have i17 : Iv v3 0 0 := iv_eq1 c4 p3_1 (⟨by decide, by decide⟩ : Iv 0 0 0) (by decide)
    refine lv_iconst (v := 0) hx hb dX11_keep_14 (by decide) ?_
    rw [← hQ]
    exact o_rz cx rx hw (iv_nz01 (iv_w (⟨by decide, by decide⟩ : Iv 0 0 0) (by decide))) dX11_keep_15 ⟨fr, (iv_w (⟨by decide, by decide⟩ : Iv 0 0 0) (by decide)), (by exact (by have := (i17).1; have := (i17).2; have : (σ1.1 681 a0).toInt = ((σ.1 681 a0) : Int32).toInt := congrArg Int32.toInt (show σ1.1 681 a0 = (σ.1 681 a0) from ((kp_i eσ1 (by decide)).trans rfl)); have : (σ1.1 658 a0).toInt = (0 : Int32).toInt := congrArg Int32.toInt (show σ1.1 658 a0 = 0 from (kp_s eσ1)); have : (v3 : Int32).toInt = (0 : Int32).toInt := congrArg Int32.toInt c4; have : (0 : Int32).toInt = 0 := (by decide); have : (1 : Int32).toInt = 1 := (by decide); omega)), (by have in9 := p3_3; unfold INN at in9; exact Or.inl ⟨(by have : (0 : Int32).toInt = 0 := (by decide); have : (1 : Int32).toInt = 1 := (by decide); have : (2 : Int32).toInt = 2 := (by decide); have := (i17).1; have := (i17).2; have : (σ1.1 681 a0).toInt = ((σ.1 681 a0) : Int32).toInt := congrArg Int32.toInt (show σ1.1 681 a0 = (σ.1 681 a0) from ((kp_i eσ1 (by decide)).trans rfl)); have : (σ1.1 658 a0).toInt = (0 : Int32).toInt := congrArg Int32.toInt (show σ1.1 658 a0 = 0 from (kp_s eσ1)); have : (v3 : Int32).toInt = (0 : Int32).toInt := congrArg Int32.toInt c4; have : (0 : Int32).toInt = 0 := (by decide); have : (1 : Int32).toInt = 1 := (by decide); omega), (by have : (0 : Int32).toInt = 0 := (by decide); have : (1 : Int32).toInt = 1 := (by decide); have : (2 : Int32).toInt = 2 := (by decide); have := (i17).1; have := (i17).2; have : (σ1.1 681 a0).toInt = ((σ.1 681 a0) : Int32).toInt := congrArg Int32.toInt (show σ1.1 681 a0 = (σ.1 681 a0) from ((kp_i eσ1 (by decide)).trans rfl)); have : (σ1.1 658 a0).toInt = (0 : Int32).toInt := congrArg Int32.toInt (show σ1.1 658 a0 = 0 from (kp_s eσ1)); have : (v3 : Int32).toInt = (0 : Int32).toInt := congrArg Int32.toInt c4; have : (0 : Int32).toInt = 0 := (by decide); have : (1 : Int32).toInt = 1 := (by decide); omega), by rw [oRw_s (((kr_i eσ1).trans hF683)), oRw_s hF683]; exact ((rw_i eσ1).trans rfl), by rw [oRw_s (((kr_i eσ1).trans hF684)), oRw_s hF684]; exact ((rw_i eσ1).trans rfl)⟩)⟩
abbrev fs_X11_again : List Nat := [658, 672]
abbrev ts_X11_again : List Nat := [48]
set_option maxHeartbeats 4000000 in
set_option maxRecDepth 100000 in
theorem c_X11_again (a0 : Nat) (ha0 : oA L τ a0 10) (a1 : Int32) : oMet l A L τ cy D K yX11_again cX11_again 3 (some .boolean) 1 22 [.ref a0, .int a1] σ (va_Qi (fun r σ1 => oFr τ fs_X11_again ts_X11_again σ σ1 ∧ Iv r 0 1 ∧ ((r.toInt = 1 ∧ Iv a1 0 1 ∧ oRw σ 683 a0 a1.toNatClampNeg ≠ 0 ∧ oRw σ 684 a0 a1.toNatClampNeg = σ.1 681 a0) ∨ (r.toInt = 0 ∧ ¬ (Iv a1 0 1 ∧ oRw σ 683 a0 a1.toNatClampNeg ≠ 0 ∧ oRw σ 684 a0 a1.toNatClampNeg = σ.1 681 a0)))) (oPo A L τ cy D) A) := by
  refine oMk (by decide) (Nat.le_of_ble_eq_true rfl) rfl ?_
  intro p e s m args below meth c ls cx rx hA hw hl
  generalize hQ : MQ below _ args s 0 0 A = Q
  have hx := cx.1.1
  have hb := cx.1.2.1
  have hml := cx.1.2.2.1
  have hown := cx.1.2.2.2.1
  have hts := cx.1.2.2.2.2
  have hl : lv_has ls 3 [(0, .ref a0), (1, .int a1)] := hl
  have fr : oFr τ fs_X11_again ts_X11_again σ σ := oFr_rf
  obtain ⟨b683, hF683, hb683⟩ := hw.2.2.2.2.2 683 a0 60 (by rw [ha0.2]; rfl) ha0.1
  obtain ⟨b684, hF684, hb684⟩ := hw.2.2.2.2.2 684 a0 61 (by rw [ha0.2]; rfl) ha0.1
  refine lv_aload_n hx hb dX11_again_0 rfl (lv_at hl 0 rfl) ?_
  refine lv_iconst (v := 0) hx hb dX11_again_1 (by decide) ?_
  refine p_658 cx hw ha0 k_f_X11_89 dX11_again_2 (fun σ1 H locs eσ1 hw => ?_)
  have fr := oFr_i fr eσ1 (by decide)
  refine lv_iload_n hx hb dX11_again_5 rfl (lv_at hl 1 rfl) ?_
  refine lv_iconst (v := 0) hx hb dX11_again_6 (by decide) ?_
  refine lv_iconst (v := 1) hx hb dX11_again_7 (by decide) ?_
  refine o_ci hw (oRunS cx hA hw q_X11_in k_m_X11_95 (As := [.int a1, .int 0, .int 1]) (c_X11_in a1 0 1) (by decide) rfl hl.1 rfl (Nat.le_of_ble_eq_true rfl) dX11_again_8 (by decide)) (fun v3 σ2 H locs hp hw => ?_)
  obtain ⟨p3_0, p3_1, p3_2, p3_3, p3_4, p3_5⟩ := hp
  rw [p3_0] at hw
  refine lv_if_eq (tgt := 36) hx hb dX11_again_11 (by decide) (fun c4 => ?_) (fun c4 => ?_)
  · --
    have i5 : Iv v3 0 0 := iv_eq1 c4 p3_1 (⟨by decide, by decide⟩ : Iv 0 0 0) (by decide)
    refine lv_iconst (v := 0) hx hb dX11_again_36 (by decide) ?_
    rw [← hQ]
    exact o_rz cx rx hw (iv_nz01 (iv_w (⟨by decide, by decide⟩ : Iv 0 0 0) (by decide))) dX11_again_37 ⟨fr, (iv_w (⟨by decide, by decide⟩ : Iv 0 0 0) (by decide)), (by have in9 := p3_3; unfold INN at in9; exact Or.inr ⟨(by have : (0 : Int32).toInt = 0 := (by decide); have : (1 : Int32).toInt = 1 := (by decide); have : (2 : Int32).toInt = 2 := (by decide); have := (i5).1; have := (i5).2; have : (σ1.1 681 a0).toInt = ((σ.1 681 a0) : Int32).toInt := congrArg Int32.toInt (show σ1.1 681 a0 = (σ.1 681 a0) from ((kp_i eσ1 (by decide)).trans rfl)); have : (σ1.1 658 a0).toInt = (0 : Int32).toInt := congrArg Int32.toInt (show σ1.1 658 a0 = 0 from (kp_s eσ1)); have : (v3 : Int32).toInt = (0 : Int32).toInt := congrArg Int32.toInt c4; have : (0 : Int32).toInt = 0 := (by decide); have : (1 : Int32).toInt = 1 := (by decide); omega), fun z => by have z1 := z.1.1; have z2 := z.1.2; exact absurd z1 (by have : (0 : Int32).toInt = 0 := (by decide); have : (1 : Int32).toInt = 1 := (by decide); have : (2 : Int32).toInt = 2 := (by decide); have := (i5).1; have := (i5).2; have : (σ1.1 681 a0).toInt = ((σ.1 681 a0) : Int32).toInt := congrArg Int32.toInt (show σ1.1 681 a0 = (σ.1 681 a0) from ((kp_i eσ1 (by decide)).trans rfl)); have : (σ1.1 658 a0).toInt = (0 : Int32).toInt := congrArg Int32.toInt (show σ1.1 658 a0 = 0 from (kp_s eσ1)); have : (v3 : Int32).toInt = (0 : Int32).toInt := congrArg Int32.toInt c4; have : (0 : Int32).toInt = 0 := (by decide); have : (1 : Int32).toInt = 1 := (by decide); omega)⟩)⟩
  · --
    have i6 : Iv v3 1 1 := iv_ne1 c4 p3_1 (⟨by decide, by decide⟩ : Iv 0 0 0) (by decide)
    have i7 : Iv a1 0 1 := (fun h => iv_rel (p3_2 h) (⟨by decide, by decide⟩ : Iv 0 0 0) (⟨by decide, by decide⟩ : Iv 1 1 1)) c4
    refine lv_aload_n hx hb dX11_again_14 rfl (lv_at hl 0 rfl) ?_
    refine g_683 cx hw ha0 k_f_X11_82 dX11_again_15 (fun v8 e8 h8 => ?_)
    rw [show v8 = b683 from Option.some.inj (e8.symm.trans (((kr_i eσ1).trans hF683)))]
    refine lv_iload_n hx hb dX11_again_18 rfl (lv_at hl 1 rfl) ?_
    refine o_zald cx hw hb683 (by decide) rfl (iv_in i7 (by decide)) dX11_again_19 (fun v9 e9 b9 => ?_)
    have r20 : v9 = oRw σ 683 a0 a1.toNatClampNeg := e9.trans (by rw [oRw_s hF683, show σ1.2.2.1 b683 = σ.2.2.1 b683 from ((rw_i eσ1).trans rfl)])
    refine lv_if_eq (tgt := 36) hx hb dX11_again_20 (by decide) (fun c10 => ?_) (fun c10 => ?_)
    · --
      have i11 : Iv v9 0 0 := iv_eq1 c10 (iv_top v9) (⟨by decide, by decide⟩ : Iv 0 0 0) (by decide)
      refine lv_iconst (v := 0) hx hb dX11_again_36 (by decide) ?_
      rw [← hQ]
      exact o_rz cx rx hw (iv_nz01 (iv_w (⟨by decide, by decide⟩ : Iv 0 0 0) (by decide))) dX11_again_37 ⟨fr, (iv_w (⟨by decide, by decide⟩ : Iv 0 0 0) (by decide)), (by have in9 := p3_3; unfold INN at in9; exact Or.inr ⟨(by have : (0 : Int32).toInt = 0 := (by decide); have : (1 : Int32).toInt = 1 := (by decide); have : (2 : Int32).toInt = 2 := (by decide); have := (i7).1; have := (i7).2; have := (i6).1; have := (i6).2; have := (i11).1; have := (i11).2; have : (σ1.1 681 a0).toInt = ((σ.1 681 a0) : Int32).toInt := congrArg Int32.toInt (show σ1.1 681 a0 = (σ.1 681 a0) from ((kp_i eσ1 (by decide)).trans rfl)); have : (σ1.1 658 a0).toInt = (0 : Int32).toInt := congrArg Int32.toInt (show σ1.1 658 a0 = 0 from (kp_s eσ1)); have : (v9 : Int32).toInt = (0 : Int32).toInt := congrArg Int32.toInt c10; have : (0 : Int32).toInt = 0 := (by decide); have : (1 : Int32).toInt = 1 := (by decide); omega), fun z => z.2.1 (r20.symm.trans c10)⟩)⟩
    · --
      refine lv_aload_n hx hb dX11_again_23 rfl (lv_at hl 0 rfl) ?_
      refine g_684 cx hw ha0 k_f_X11_86 dX11_again_24 (fun v12 e12 h12 => ?_)
      rw [show v12 = b684 from Option.some.inj (e12.symm.trans (((kr_i eσ1).trans hF684)))]
      refine lv_iload_n hx hb dX11_again_27 rfl (lv_at hl 1 rfl) ?_
      refine o_iald cx hw hb684 (by decide) rfl (iv_in i7 (by decide)) dX11_again_28 (fun v13 e13 b13 => ?_)
      have r28 : v13 = oRw σ 684 a0 a1.toNatClampNeg := e13.trans (by rw [oRw_s hF684, show σ1.2.2.1 b684 = σ.2.2.1 b684 from ((rw_i eσ1).trans rfl)])
      refine lv_aload_n hx hb dX11_again_29 rfl (lv_at hl 0 rfl) ?_
      refine g_681 cx hw ha0 k_f_X11_182 dX11_again_30 (fun v14 e14 => ?_)
      rw [show v14 = (σ.1 681 a0) from e14.trans ((kp_i eσ1 (by decide)).trans rfl)]
      refine lv_icmp_eq (tgt := 38) hx hb dX11_again_33 (by decide) (fun c15 => ?_) (fun c15 => ?_)
      · --
        refine lv_iconst (v := 0) hx hb dX11_again_38 (by decide) ?_
        refine lv_istore_n (lv' := [(2, .int 0), (0, .ref a0), (1, .int a1)]) hx hb dX11_again_39 rfl hl (by decide) rfl (fun ls hl => ?_)
        have frE_40 := fr
        have J_40 : ∀ n40 : Nat, ∀ (j40_2 : Int32) (ij40_2 : Iv j40_2 0 334), ∀ (σ_40 : oSt) (H : Heap) (locs : List Loc), oI A L τ cy D s.heap σ_40 H locs → oFr τ fs_X11_again ts_X11_again σ σ_40 → (334 - j40_2.toInt).toNat < n40 → ∀ (ls : Array Slot), lv_has ls 3 [(0, .ref a0), (1, .int a1), (2, .int j40_2)] → W p l e ({ frames := 1, cells := 0, slots := 0, locals := 22 } : Room) s m args below meth c H locs 0 0 Q (F0 m 40 ls []) := by
          intro n40
          induction n40 with
          | zero => intro j40_2 ij40_2 σ_40 H locs hw fr   hn_40   ls hl; exact absurd hn_40 (Nat.not_lt_zero _)
          | succ n40 ih_40 =>
            intro j40_2 ij40_2 σ_40 H locs hw fr   hn_40   ls hl
            have fr_40 := fr
            refine lv_iload_n hx hb dX11_again_40 rfl (lv_at hl 2 rfl) ?_
            refine lv_sipush (v := 334) hx hb dX11_again_41 (by decide) ?_
            refine lv_icmp_ge (tgt := 71) hx hb dX11_again_44 (by decide) (fun c16 => ?_) (fun c16 => ?_)
            · --
              have i17 : Iv j40_2 334 334 := iv_le2 c16 (⟨by decide, by decide⟩ : Iv 334 334 334) ij40_2 (by decide)
              refine lv_aload_n hx hb dX11_again_71 rfl (lv_at hl 0 rfl) ?_
              refine lv_iconst (v := 0) hx hb dX11_again_72 (by decide) ?_
              refine p_672 cx hw ha0 (iv_w (⟨by decide, by decide⟩ : Iv 0 0 0) (by decide)) k_f_X11_168 dX11_again_73 (fun σ18 H locs eσ18 hw => ?_)
              have fr := oFr_i fr eσ18 (by decide)
              refine lv_iconst (v := 1) hx hb dX11_again_76 (by decide) ?_
              rw [← hQ]
              exact o_rz cx rx hw (iv_nz01 (iv_w (⟨by decide, by decide⟩ : Iv 1 1 1) (by decide))) dX11_again_77 ⟨fr, (iv_w (⟨by decide, by decide⟩ : Iv 1 1 1) (by decide)), (by have in9 := p3_3; unfold INN at in9; exact Or.inl ⟨(by have : (0 : Int32).toInt = 0 := (by decide); have : (1 : Int32).toInt = 1 := (by decide); have : (2 : Int32).toInt = 2 := (by decide); have := (i7).1; have := (i7).2; have := (i17).1; have := (i17).2; have := (i6).1; have := (i6).2; have : (σ18.1 681 a0).toInt = ((σ.1 681 a0) : Int32).toInt := congrArg Int32.toInt (show σ18.1 681 a0 = (σ.1 681 a0) from ((kp_i eσ18 (by decide)).trans ((kp_c fr_40 (by decide)).trans ((kp_c frE_40 (by decide)).symm.trans (((kp_i eσ1 (by decide)).trans rfl)))))); have : (σ18.1 672 a0).toInt = (0 : Int32).toInt := congrArg Int32.toInt (show σ18.1 672 a0 = 0 from (kp_s eσ18)); have : (v9 : Int32).toInt ≠ (0 : Int32).toInt := fun q => c10 (Int32.toInt_inj.mp q); have : (v13 : Int32).toInt = ((σ.1 681 a0) : Int32).toInt := congrArg Int32.toInt c15; have : (334 : Int32).toInt ≤ (j40_2 : Int32).toInt := iv_le.mp c16; have : (0 : Int32).toInt = 0 := (by decide); have : (1 : Int32).toInt = 1 := (by decide); have : (334 : Int32).toInt = 334 := (by decide); omega), (by have : (0 : Int32).toInt = 0 := (by decide); have : (1 : Int32).toInt = 1 := (by decide); have : (2 : Int32).toInt = 2 := (by decide); have := (i7).1; have := (i7).2; have := (i17).1; have := (i17).2; have := (i6).1; have := (i6).2; have : (σ18.1 681 a0).toInt = ((σ.1 681 a0) : Int32).toInt := congrArg Int32.toInt (show σ18.1 681 a0 = (σ.1 681 a0) from ((kp_i eσ18 (by decide)).trans ((kp_c fr_40 (by decide)).trans ((kp_c frE_40 (by decide)).symm.trans (((kp_i eσ1 (by decide)).trans rfl)))))); have : (σ18.1 672 a0).toInt = (0 : Int32).toInt := congrArg Int32.toInt (show σ18.1 672 a0 = 0 from (kp_s eσ18)); have : (v9 : Int32).toInt ≠ (0 : Int32).toInt := fun q => c10 (Int32.toInt_inj.mp q); have : (v13 : Int32).toInt = ((σ.1 681 a0) : Int32).toInt := congrArg Int32.toInt c15; have : (334 : Int32).toInt ≤ (j40_2 : Int32).toInt := iv_le.mp c16; have : (0 : Int32).toInt = 0 := (by decide); have : (1 : Int32).toInt = 1 := (by decide); have : (334 : Int32).toInt = 334 := (by decide); exact ⟨by omega, by omega⟩), by rw [← r20]; exact c10, by rw [← r28]; exact c15⟩)⟩
            · --
              have i19 : Iv j40_2 0 333 := iv_lt1 (iv_nle c16) ij40_2 (⟨by decide, by decide⟩ : Iv 334 334 334) (by decide)
              refine lv_aload_n hx hb dX11_again_47 rfl (lv_at hl 0 rfl) ?_
              refine g_640 cx hw ha0 k_f_X11_9 dX11_again_48 (fun v20 e20 h20 => ?_)
              refine lv_iload_n hx hb dX11_again_51 rfl (lv_at hl 2 rfl) ?_
              refine lv_aload_n hx hb dX11_again_52 rfl (lv_at hl 0 rfl) ?_
              refine g_682 cx hw ha0 k_f_X11_79 dX11_again_53 (fun v21 e21 h21 => ?_)
              refine lv_sipush (v := 334) hx hb dX11_again_56 (by decide) ?_
              refine lv_iload_n hx hb dX11_again_59 rfl (lv_at hl 1 rfl) ?_
              refine lv_imul hx hb dX11_again_60 ?_
              refine lv_topi (fun v22 e22 => ?_)
              have i22 : Iv v22 0 334 := iv_mul e22 (⟨by decide, by decide⟩ : Iv 334 334 334) i7 (by decide)
              refine lv_iload_n hx hb dX11_again_61 rfl (lv_at hl 2 rfl) ?_
              refine lv_iadd hx hb dX11_again_62 ?_
              refine lv_topi (fun v23 e23 => ?_)
              have i23 : Iv v23 0 667 := iv_add e23 i22 i19 (by decide)
              have x23 : v23.toInt = v22.toInt + j40_2.toInt := ex_add e23 i22 i19 (by decide)
              refine o_iald cx hw h21 (by decide) rfl (iv_in i23 (by decide)) dX11_again_63 (fun v24 e24 b24 => ?_)
              refine o_iast cx hw h20 (by decide) rfl (iv_in i19 (by decide)) (rb_cp i19 i23 (by decide) b24 (by have q := ex_add e23 i22 i19 (by decide); have q2 := ex_mul e22 (⟨by decide, by decide⟩ : Iv 334 334 334) i7 (by decide); have q3 : (334 : Int32).toInt = 334 := (by decide); rw [q3] at q2; have q4 := (i19).1; have q5 := (i19).2; omega)) dX11_again_64 (fun σ25 H locs eσ25 hw => ?_)
              have fr := oFr_p fr eσ25 h20 (by decide)
              obtain ⟨v26, e26⟩ : ∃ y : Int32, y = j40_2 + 1 := ⟨_, rfl⟩
              have i26 : Iv v26 1 334 := iv_add e26 i19 (⟨by decide, by decide⟩ : Iv 1 1 1) (by decide)
              have x26 : v26.toInt = j40_2.toInt + 1 := ex_add e26 i19 (⟨by decide, by decide⟩ : Iv 1 1 1) (by decide)
              refine lv_iinc (v := v26) (lv' := [(2, .int v26), (0, .ref a0), (1, .int a1)]) hx hb dX11_again_65 hl (k := 2) rfl (by rw [e26]; rfl) (by decide) rfl (fun ls hl => ?_)
              refine lv_goto (tgt := 40) hx hb dX11_again_68 (by decide) ?_
              exact ih_40 v26 (iv_w i26 (by decide)) σ25 _ _ hw fr (ms_up x26 (by decide) (iv_w (a' := 0) (b' := 334) i26 (by decide)).2 hn_40) _ (lv_sub hl [1, 2, 0] rfl)
        exact J_40 _ 0 (iv_w (⟨by decide, by decide⟩ : Iv 0 0 0) (by decide)) σ1 _ _ hw fr (Nat.lt_succ_self _) _ (lv_sub hl [1, 2, 0] rfl)
      · --
        refine lv_iconst (v := 0) hx hb dX11_again_36 (by decide) ?_
        rw [← hQ]
        exact o_rz cx rx hw (iv_nz01 (iv_w (⟨by decide, by decide⟩ : Iv 0 0 0) (by decide))) dX11_again_37 ⟨fr, (iv_w (⟨by decide, by decide⟩ : Iv 0 0 0) (by decide)), (by have in9 := p3_3; unfold INN at in9; exact Or.inr ⟨(by have : (0 : Int32).toInt = 0 := (by decide); have : (1 : Int32).toInt = 1 := (by decide); have : (2 : Int32).toInt = 2 := (by decide); have := (i7).1; have := (i7).2; have := (i6).1; have := (i6).2; have : (σ1.1 681 a0).toInt = ((σ.1 681 a0) : Int32).toInt := congrArg Int32.toInt (show σ1.1 681 a0 = (σ.1 681 a0) from ((kp_i eσ1 (by decide)).trans rfl)); have : (σ1.1 658 a0).toInt = (0 : Int32).toInt := congrArg Int32.toInt (show σ1.1 658 a0 = 0 from (kp_s eσ1)); have : (v9 : Int32).toInt ≠ (0 : Int32).toInt := fun q => c10 (Int32.toInt_inj.mp q); have : (v13 : Int32).toInt ≠ ((σ.1 681 a0) : Int32).toInt := fun q => c15 (Int32.toInt_inj.mp q); have : (0 : Int32).toInt = 0 := (by decide); have : (1 : Int32).toInt = 1 := (by decide); omega), fun z => c15 (r28.trans z.2.2)⟩)⟩
abbrev fs_X11_count : List Nat := [658]
abbrev ts_X11_count : List Nat := []
set_option maxHeartbeats 4000000 in
set_option maxRecDepth 100000 in
theorem c_X11_count (a0 : Nat) (ha0 : oA L τ a0 10) (a1 : Int32) : oMet l A L τ cy D K yX11_count cX11_count 4 (some .int) 0 0 [.ref a0, .int a1] σ (va_Qi (fun r σ1 => oFr τ fs_X11_count ts_X11_count σ σ1) (oPo A L τ cy D) A) := by
  refine oMk (by decide) (Nat.le_of_ble_eq_true rfl) rfl ?_
  intro p e s m args below meth c ls cx rx hA hw hl
  generalize hQ : MQ below _ args s 0 0 A = Q
  have hx := cx.1.1
  have hb := cx.1.2.1
  have hml := cx.1.2.2.1
  have hown := cx.1.2.2.2.1
  have hts := cx.1.2.2.2.2
  have hl : lv_has ls 4 [(0, .ref a0), (1, .int a1)] := hl
  have fr : oFr τ fs_X11_count ts_X11_count σ σ := oFr_rf
  refine lv_aload_n hx hb dX11_count_0 rfl (lv_at hl 0 rfl) ?_
  refine lv_iconst (v := 0) hx hb dX11_count_1 (by decide) ?_
  refine p_658 cx hw ha0 k_f_X11_89 dX11_count_2 (fun σ1 H locs eσ1 hw => ?_)
  have fr := oFr_i fr eσ1 (by decide)
  refine lv_iconst (v := 0) hx hb dX11_count_5 (by decide) ?_
  refine lv_istore_n (lv' := [(2, .int 0), (0, .ref a0), (1, .int a1)]) hx hb dX11_count_6 rfl hl (by decide) rfl (fun ls hl => ?_)
  refine lv_iload_n hx hb dX11_count_7 rfl (lv_at hl 2 rfl) ?_
  by_cases q2 : a1 = 0
  · --
    refine lv_tableIn (tgt := 76) hx hb dX11_count_8 (by rw [q2]; decide) (by rw [q2]; decide) (by rw [q2]; rfl) (by decide) ?_
    have i3 : Iv a1 0 0 := iv_eq1 q2 (iv_top a1) (⟨by decide, by decide⟩ : Iv 0 0 0) (by decide)
    refine lv_aload_n hx hb dX11_count_76 rfl (lv_at hl 1 rfl) ?_
    refine g_641 cx hw ha0 k_f_X11_99 dX11_count_77 (fun v4 e4 i4 => ?_)
    rw [← hQ]
    exact o_ri cx rx hw dX11_count_80 fr
  by_cases q5 : a1 = 1
  · --
    refine lv_tableIn (tgt := 81) hx hb dX11_count_8 (by rw [q5]; decide) (by rw [q5]; decide) (by rw [q5]; rfl) (by decide) ?_
    have i6 : Iv a1 1 1 := iv_eq1 q5 (iv_top a1) (⟨by decide, by decide⟩ : Iv 1 1 1) (by decide)
    refine lv_aload_n hx hb dX11_count_81 rfl (lv_at hl 1 rfl) ?_
    refine g_642 cx hw ha0 k_f_X11_102 dX11_count_82 (fun v7 e7 i7 => ?_)
    rw [← hQ]
    exact o_ri cx rx hw dX11_count_85 fr
  by_cases q8 : a1 = 2
  · --
    refine lv_tableIn (tgt := 86) hx hb dX11_count_8 (by rw [q8]; decide) (by rw [q8]; decide) (by rw [q8]; rfl) (by decide) ?_
    have i9 : Iv a1 2 2 := iv_eq1 q8 (iv_top a1) (⟨by decide, by decide⟩ : Iv 2 2 2) (by decide)
    refine lv_aload_n hx hb dX11_count_86 rfl (lv_at hl 1 rfl) ?_
    refine g_645 cx hw ha0 k_f_X11_154 dX11_count_87 (fun v10 e10 i10 => ?_)
    rw [← hQ]
    exact o_ri cx rx hw dX11_count_90 fr
  by_cases q11 : a1 = 3
  · --
    refine lv_tableIn (tgt := 91) hx hb dX11_count_8 (by rw [q11]; decide) (by rw [q11]; decide) (by rw [q11]; rfl) (by decide) ?_
    have i12 : Iv a1 3 3 := iv_eq1 q11 (iv_top a1) (⟨by decide, by decide⟩ : Iv 3 3 3) (by decide)
    refine lv_aload_n hx hb dX11_count_91 rfl (lv_at hl 1 rfl) ?_
    refine g_640 cx hw ha0 k_f_X11_9 dX11_count_92 (fun v13 e13 h13 => ?_)
    refine lv_sipush (v := 332) hx hb dX11_count_95 (by decide) ?_
    refine o_iald cx hw h13 (by decide) rfl (iv_in (⟨by decide, by decide⟩ : Iv 332 332 332) (by decide)) dX11_count_98 (fun v14 e14 b14 => ?_)
    rw [← hQ]
    exact o_ri cx rx hw dX11_count_99 fr
  by_cases q15 : a1 = 4
  · --
    refine lv_tableIn (tgt := 100) hx hb dX11_count_8 (by rw [q15]; decide) (by rw [q15]; decide) (by rw [q15]; rfl) (by decide) ?_
    have i16 : Iv a1 4 4 := iv_eq1 q15 (iv_top a1) (⟨by decide, by decide⟩ : Iv 4 4 4) (by decide)
    refine lv_aload_n hx hb dX11_count_100 rfl (lv_at hl 1 rfl) ?_
    refine g_647 cx hw ha0 k_f_X11_105 dX11_count_101 (fun v17 e17 i17 => ?_)
    rw [← hQ]
    exact o_ri cx rx hw dX11_count_104 fr
  by_cases q18 : a1 = 5
  · --
    refine lv_tableIn (tgt := 105) hx hb dX11_count_8 (by rw [q18]; decide) (by rw [q18]; decide) (by rw [q18]; rfl) (by decide) ?_
    have i19 : Iv a1 5 5 := iv_eq1 q18 (iv_top a1) (⟨by decide, by decide⟩ : Iv 5 5 5) (by decide)
    refine lv_iconst (v := 0) hx hb dX11_count_105 (by decide) ?_
    refine lv_istore_n (lv' := [(3, .int 0), (2, .int 0), (0, .ref a0), (1, .int a1)]) hx hb dX11_count_106 rfl hl (by decide) rfl (fun ls hl => ?_)
    have J_107 : ∀ n107 : Nat, ∀ (j107_2 : Int32) (j107_3 : Int32) (ij107_3 : Iv j107_3 0 6), ∀ (H : Heap) (locs : List Loc), oI A L τ cy D s.heap σ1 H locs → (6 - j107_3.toInt).toNat < n107 → ∀ (ls : Array Slot), lv_has ls 4 [(0, .ref a0), (1, .int a1), (2, .int j107_2), (3, .int j107_3)] → W p l e ({ frames := 0, cells := 0, slots := 0, locals := 0 } : Room) s m args below meth c H locs 0 0 Q (F0 m 107 ls []) := by
      intro n107
      induction n107 with
      | zero => intro j107_2 j107_3 ij107_3 H locs hw  hn_107   ls hl; exact absurd hn_107 (Nat.not_lt_zero _)
      | succ n107 ih_107 =>
        intro j107_2 j107_3 ij107_3 H locs hw  hn_107   ls hl
        refine lv_iload_n hx hb dX11_count_107 rfl (lv_at hl 3 rfl) ?_
        refine lv_aload_n hx hb dX11_count_108 rfl (lv_at hl 0 rfl) ?_
        refine g_647 cx hw ha0 k_f_X11_105 dX11_count_109 (fun v20 e20 i20 => ?_)
        refine lv_icmp_ge (tgt := 136) hx hb dX11_count_112 (by decide) (fun c21 => ?_) (fun c21 => ?_)
        · --
          refine lv_iload_n hx hb dX11_count_136 rfl (lv_at hl 2 rfl) ?_
          rw [← hQ]
          exact o_ri cx rx hw dX11_count_137 fr
        · --
          have i22 : Iv j107_3 0 5 := iv_lt1 (iv_nle c21) ij107_3 i20 (by decide)
          have i23 : Iv v20 1 6 := iv_lt2 (iv_nle c21) ij107_3 i20 (by decide)
          refine lv_iload_n hx hb dX11_count_115 rfl (lv_at hl 2 rfl) ?_
          refine lv_aload_n hx hb dX11_count_116 rfl (lv_at hl 0 rfl) ?_
          refine g_640 cx hw ha0 k_f_X11_9 dX11_count_117 (fun v24 e24 h24 => ?_)
          refine lv_sipush (v := 326) hx hb dX11_count_120 (by decide) ?_
          refine lv_iload_n hx hb dX11_count_123 rfl (lv_at hl 3 rfl) ?_
          refine lv_iadd hx hb dX11_count_124 ?_
          refine lv_topi (fun v25 e25 => ?_)
          have i25 : Iv v25 326 331 := iv_add e25 (⟨by decide, by decide⟩ : Iv 326 326 326) i22 (by decide)
          have x25 : v25.toInt = j107_3.toInt + 326 := (ex_add e25 (⟨by decide, by decide⟩ : Iv 326 326 326) i22 (by decide)).trans (Int.add_comm _ _)
          refine o_iald cx hw h24 (by decide) rfl (iv_in i25 (by decide)) dX11_count_125 (fun v26 e26 b26 => ?_)
          refine lv_iload_n hx hb dX11_count_126 rfl (lv_at hl 3 rfl) ?_
          refine lv_ishl hx hb dX11_count_127 ?_
          refine lv_topi (fun v27 e27 => ?_)
          refine lv_ior hx hb dX11_count_128 ?_
          refine lv_topi (fun v28 e28 => ?_)
          refine lv_istore_n (lv' := [(2, .int v28), (0, .ref a0), (1, .int a1), (3, .int j107_3)]) hx hb dX11_count_129 rfl hl (by decide) rfl (fun ls hl => ?_)
          obtain ⟨v29, e29⟩ : ∃ y : Int32, y = j107_3 + 1 := ⟨_, rfl⟩
          have i29 : Iv v29 1 6 := iv_add e29 i22 (⟨by decide, by decide⟩ : Iv 1 1 1) (by decide)
          have x29 : v29.toInt = j107_3.toInt + 1 := ex_add e29 i22 (⟨by decide, by decide⟩ : Iv 1 1 1) (by decide)
          refine lv_iinc (v := v29) (lv' := [(3, .int v29), (2, .int v28), (0, .ref a0), (1, .int a1)]) hx hb dX11_count_130 hl (k := 3) rfl (by rw [e29]; rfl) (by decide) rfl (fun ls hl => ?_)
          refine lv_goto (tgt := 107) hx hb dX11_count_133 (by decide) ?_
          exact ih_107 v28 v29 (iv_w i29 (by decide)) _ _ hw (ms_up x29 (by decide) (iv_w (a' := 0) (b' := 6) i29 (by decide)).2 hn_107) _ (lv_sub hl [2, 3, 1, 0] rfl)
    exact J_107 _ 0 0 (iv_w (⟨by decide, by decide⟩ : Iv 0 0 0) (by decide)) _ _ hw (Nat.lt_succ_self _) _ (lv_sub hl [2, 3, 1, 0] rfl)
  by_cases q30 : a1 = 6
  · --
    refine lv_tableIn (tgt := 138) hx hb dX11_count_8 (by rw [q30]; decide) (by rw [q30]; decide) (by rw [q30]; rfl) (by decide) ?_
    have i31 : Iv a1 6 6 := iv_eq1 q30 (iv_top a1) (⟨by decide, by decide⟩ : Iv 6 6 6) (by decide)
    refine lv_aload_n hx hb dX11_count_138 rfl (lv_at hl 1 rfl) ?_
    refine g_640 cx hw ha0 k_f_X11_9 dX11_count_139 (fun v32 e32 h32 => ?_)
    refine lv_sipush (v := 333) hx hb dX11_count_142 (by decide) ?_
    refine o_iald cx hw h32 (by decide) rfl (iv_in (⟨by decide, by decide⟩ : Iv 333 333 333) (by decide)) dX11_count_145 (fun v33 e33 b33 => ?_)
    rw [← hQ]
    exact o_ri cx rx hw dX11_count_146 fr
  by_cases q34 : a1 = 7
  · --
    refine lv_tableIn (tgt := 147) hx hb dX11_count_8 (by rw [q34]; decide) (by rw [q34]; decide) (by rw [q34]; rfl) (by decide) ?_
    have i35 : Iv a1 7 7 := iv_eq1 q34 (iv_top a1) (⟨by decide, by decide⟩ : Iv 7 7 7) (by decide)
    refine lv_aload_n hx hb dX11_count_147 rfl (lv_at hl 1 rfl) ?_
    refine g_650 cx hw ha0 k_f_X11_25 dX11_count_148 (fun v36 e36 => ?_)
    rw [← hQ]
    exact o_ri cx rx hw dX11_count_151 fr
  by_cases q37 : a1 = 8
  · --
    refine lv_tableIn (tgt := 152) hx hb dX11_count_8 (by rw [q37]; decide) (by rw [q37]; decide) (by rw [q37]; rfl) (by decide) ?_
    have i38 : Iv a1 8 8 := iv_eq1 q37 (iv_top a1) (⟨by decide, by decide⟩ : Iv 8 8 8) (by decide)
    refine lv_aload_n hx hb dX11_count_152 rfl (lv_at hl 1 rfl) ?_
    refine g_651 cx hw ha0 k_f_X11_29 dX11_count_153 (fun v39 e39 i39 => ?_)
    rw [← hQ]
    exact o_ri cx rx hw dX11_count_156 fr
  by_cases q40 : a1 = 9
  · --
    refine lv_tableIn (tgt := 157) hx hb dX11_count_8 (by rw [q40]; decide) (by rw [q40]; decide) (by rw [q40]; rfl) (by decide) ?_
    have i41 : Iv a1 9 9 := iv_eq1 q40 (iv_top a1) (⟨by decide, by decide⟩ : Iv 9 9 9) (by decide)
    refine lv_iconst (v := 0) hx hb dX11_count_157 (by decide) ?_
    refine lv_istore_n (lv' := [(3, .int 0), (2, .int 0), (0, .ref a0), (1, .int a1)]) hx hb dX11_count_158 rfl hl (by decide) rfl (fun ls hl => ?_)
    have J_159 : ∀ n159 : Nat, ∀ (j159_2 : Int32) (j159_3 : Int32) (ij159_3 : Iv j159_3 0 64), ∀ (H : Heap) (locs : List Loc), oI A L τ cy D s.heap σ1 H locs → (64 - j159_3.toInt).toNat < n159 → ∀ (ls : Array Slot), lv_has ls 4 [(0, .ref a0), (1, .int a1), (2, .int j159_2), (3, .int j159_3)] → W p l e ({ frames := 0, cells := 0, slots := 0, locals := 0 } : Room) s m args below meth c H locs 0 0 Q (F0 m 159 ls []) := by
      intro n159
      induction n159 with
      | zero => intro j159_2 j159_3 ij159_3 H locs hw  hn_159   ls hl; exact absurd hn_159 (Nat.not_lt_zero _)
      | succ n159 ih_159 =>
        intro j159_2 j159_3 ij159_3 H locs hw  hn_159   ls hl
        refine lv_iload_n hx hb dX11_count_159 rfl (lv_at hl 3 rfl) ?_
        refine lv_bipush (v := 64) hx hb dX11_count_160 (by decide) ?_
        refine lv_icmp_ge (tgt := 182) hx hb dX11_count_162 (by decide) (fun c42 => ?_) (fun c42 => ?_)
        · --
          have i43 : Iv j159_3 64 64 := iv_le2 c42 (⟨by decide, by decide⟩ : Iv 64 64 64) ij159_3 (by decide)
          refine lv_iload_n hx hb dX11_count_182 rfl (lv_at hl 2 rfl) ?_
          rw [← hQ]
          exact o_ri cx rx hw dX11_count_183 fr
        · --
          have i44 : Iv j159_3 0 63 := iv_lt1 (iv_nle c42) ij159_3 (⟨by decide, by decide⟩ : Iv 64 64 64) (by decide)
          refine lv_iload_n hx hb dX11_count_165 rfl (lv_at hl 2 rfl) ?_
          refine lv_aload_n hx hb dX11_count_166 rfl (lv_at hl 0 rfl) ?_
          refine g_640 cx hw ha0 k_f_X11_9 dX11_count_167 (fun v45 e45 h45 => ?_)
          refine lv_iconst (v := 0) hx hb dX11_count_170 (by decide) ?_
          refine lv_iload_n hx hb dX11_count_171 rfl (lv_at hl 3 rfl) ?_
          refine lv_iadd hx hb dX11_count_172 ?_
          refine lv_topi (fun v46 e46 => ?_)
          have i46 : Iv v46 0 63 := iv_add e46 (⟨by decide, by decide⟩ : Iv 0 0 0) i44 (by decide)
          have x46 : v46.toInt = j159_3.toInt + 0 := (ex_add e46 (⟨by decide, by decide⟩ : Iv 0 0 0) i44 (by decide)).trans (Int.add_comm _ _)
          refine o_iald cx hw h45 (by decide) rfl (iv_in i46 (by decide)) dX11_count_173 (fun v47 e47 b47 => ?_)
          refine lv_iadd hx hb dX11_count_174 ?_
          refine lv_topi (fun v48 e48 => ?_)
          refine lv_istore_n (lv' := [(2, .int v48), (0, .ref a0), (1, .int a1), (3, .int j159_3)]) hx hb dX11_count_175 rfl hl (by decide) rfl (fun ls hl => ?_)
          obtain ⟨v49, e49⟩ : ∃ y : Int32, y = j159_3 + 1 := ⟨_, rfl⟩
          have i49 : Iv v49 1 64 := iv_add e49 i44 (⟨by decide, by decide⟩ : Iv 1 1 1) (by decide)
          have x49 : v49.toInt = j159_3.toInt + 1 := ex_add e49 i44 (⟨by decide, by decide⟩ : Iv 1 1 1) (by decide)
          refine lv_iinc (v := v49) (lv' := [(3, .int v49), (2, .int v48), (0, .ref a0), (1, .int a1)]) hx hb dX11_count_176 hl (k := 3) rfl (by rw [e49]; rfl) (by decide) rfl (fun ls hl => ?_)
          refine lv_goto (tgt := 159) hx hb dX11_count_179 (by decide) ?_
          exact ih_159 v48 v49 (iv_w i49 (by decide)) _ _ hw (ms_up x49 (by decide) (iv_w (a' := 0) (b' := 64) i49 (by decide)).2 hn_159) _ (lv_sub hl [2, 3, 1, 0] rfl)
    exact J_159 _ 0 0 (iv_w (⟨by decide, by decide⟩ : Iv 0 0 0) (by decide)) _ _ hw (Nat.lt_succ_self _) _ (lv_sub hl [2, 3, 1, 0] rfl)
  by_cases q50 : a1 = 10
  · --
    refine lv_tableIn (tgt := 184) hx hb dX11_count_8 (by rw [q50]; decide) (by rw [q50]; decide) (by rw [q50]; rfl) (by decide) ?_
    have i51 : Iv a1 10 10 := iv_eq1 q50 (iv_top a1) (⟨by decide, by decide⟩ : Iv 10 10 10) (by decide)
    refine lv_aload_n hx hb dX11_count_184 rfl (lv_at hl 1 rfl) ?_
    refine g_672 cx hw ha0 k_f_X11_168 dX11_count_185 (fun v52 e52 i52 => ?_)
    rw [← hQ]
    exact o_ri cx rx hw dX11_count_188 fr
  by_cases q53 : a1 = 11
  · --
    refine lv_tableIn (tgt := 189) hx hb dX11_count_8 (by rw [q53]; decide) (by rw [q53]; decide) (by rw [q53]; rfl) (by decide) ?_
    have i54 : Iv a1 11 11 := iv_eq1 q53 (iv_top a1) (⟨by decide, by decide⟩ : Iv 11 11 11) (by decide)
    refine lv_aload_n hx hb dX11_count_189 rfl (lv_at hl 1 rfl) ?_
    refine g_657 cx hw ha0 k_f_X11_92 dX11_count_190 (fun v55 e55 i55 => ?_)
    rw [← hQ]
    exact o_ri cx rx hw dX11_count_193 fr
  by_cases q56 : a1 = 12
  · --
    refine lv_tableIn (tgt := 194) hx hb dX11_count_8 (by rw [q56]; decide) (by rw [q56]; decide) (by rw [q56]; rfl) (by decide) ?_
    have i57 : Iv a1 12 12 := iv_eq1 q56 (iv_top a1) (⟨by decide, by decide⟩ : Iv 12 12 12) (by decide)
    refine lv_aload_n hx hb dX11_count_194 rfl (lv_at hl 1 rfl) ?_
    refine g_655 cx hw ha0 k_f_X11_108 dX11_count_195 (fun v58 e58 i58 => ?_)
    rw [← hQ]
    exact o_ri cx rx hw dX11_count_198 fr
  have q2 := iv_nt q2 (k := 0) (by decide)
  have q5 := iv_nt q5 (k := 1) (by decide)
  have q8 := iv_nt q8 (k := 2) (by decide)
  have q11 := iv_nt q11 (k := 3) (by decide)
  have q15 := iv_nt q15 (k := 4) (by decide)
  have q18 := iv_nt q18 (k := 5) (by decide)
  have q30 := iv_nt q30 (k := 6) (by decide)
  have q34 := iv_nt q34 (k := 7) (by decide)
  have q37 := iv_nt q37 (k := 8) (by decide)
  have q40 := iv_nt q40 (k := 9) (by decide)
  have q50 := iv_nt q50 (k := 10) (by decide)
  have q53 := iv_nt q53 (k := 11) (by decide)
  have q56 := iv_nt q56 (k := 12) (by decide)
  refine lv_tableOut (tgt := 199) hx hb dX11_count_8 (by omega) (by decide) ?_
  refine lv_iconst (v := (-1)) hx hb dX11_count_199 (by decide) ?_
  rw [← hQ]
  exact o_ri cx rx hw dX11_count_200 fr
abbrev fs_X11_row : List Nat := [658]
abbrev ts_X11_row : List Nat := []
set_option maxHeartbeats 4000000 in
set_option maxRecDepth 100000 in
theorem c_X11_row (a0 : Nat) (ha0 : oA L τ a0 10) (a1 : Int32) : oMet l A L τ cy D K yX11_row cX11_row 2 (some .long) 1 22 [.ref a0, .int a1] σ (va_Ql (fun r σ1 => oFr τ fs_X11_row ts_X11_row σ σ1) (oPo A L τ cy D) A) := by
  refine oMk (by decide) (Nat.le_of_ble_eq_true rfl) rfl ?_
  intro p e s m args below meth c ls cx rx hA hw hl
  generalize hQ : MQ below _ args s 0 0 A = Q
  have hx := cx.1.1
  have hb := cx.1.2.1
  have hml := cx.1.2.2.1
  have hown := cx.1.2.2.2.1
  have hts := cx.1.2.2.2.2
  have hl : lv_has ls 2 [(0, .ref a0), (1, .int a1)] := hl
  have fr : oFr τ fs_X11_row ts_X11_row σ σ := oFr_rf
  refine lv_aload_n hx hb dX11_row_0 rfl (lv_at hl 0 rfl) ?_
  refine lv_iconst (v := 0) hx hb dX11_row_1 (by decide) ?_
  refine p_658 cx hw ha0 k_f_X11_89 dX11_row_2 (fun σ1 H locs eσ1 hw => ?_)
  have fr := oFr_i fr eσ1 (by decide)
  refine lv_iload_n hx hb dX11_row_5 rfl (lv_at hl 1 rfl) ?_
  refine lv_iconst (v := 0) hx hb dX11_row_6 (by decide) ?_
  refine lv_aload_n hx hb dX11_row_7 rfl (lv_at hl 0 rfl) ?_
  refine g_657 cx hw ha0 k_f_X11_92 dX11_row_8 (fun v2 e2 i2 => ?_)
  refine lv_iconst (v := 1) hx hb dX11_row_11 (by decide) ?_
  refine lv_isub hx hb dX11_row_12 ?_
  refine lv_topi (fun v3 e3 => ?_)
  have i3 : Iv v3 (-1) 19 := iv_sub e3 i2 (⟨by decide, by decide⟩ : Iv 1 1 1) (by decide)
  have x3 : v3.toInt = v2.toInt + (-1) := ex_sub e3 i2 (⟨by decide, by decide⟩ : Iv 1 1 1) (by decide)
  refine o_ci hw (oRunS cx hA hw q_X11_in k_m_X11_95 (As := [.int a1, .int 0, .int v3]) (c_X11_in a1 0 v3) (by decide) rfl hl.1 rfl (Nat.le_of_ble_eq_true rfl) dX11_row_13 (by decide)) (fun v5 σ4 H locs hp hw => ?_)
  obtain ⟨p5_0, p5_1, p5_2, p5_3, p5_4, p5_5⟩ := hp
  rw [p5_0] at hw
  refine lv_if_eq (tgt := 28) hx hb dX11_row_16 (by decide) (fun c6 => ?_) (fun c6 => ?_)
  · --
    have i7 : Iv v5 0 0 := iv_eq1 c6 p5_1 (⟨by decide, by decide⟩ : Iv 0 0 0) (by decide)
    refine lv_aload_n hx hb dX11_row_28 rfl (lv_at hl 0 rfl) ?_
    refine o_ci hw (oRunV cx hA hw q_X11_lost k_m_X11_230 rfl ha0 (by decide) (As := []) (c_X11_lost a0 ha0) (by decide) rfl hl.1 rfl (Nat.le_of_ble_eq_true rfl) dX11_row_29 (by decide)) (fun v9 σ8 H locs hp hw => ?_)
    obtain ⟨p9_0, p9_1⟩ := hp
    have fr := oFr_tr fr p9_0 (by decide)
    refine lv_i2l hx hb dX11_row_32 rfl ?_
    refine lv_topl (fun v10 e10 => ?_)
    rw [← hQ]
    exact o_rl cx rx hw dX11_row_33 fr
  · --
    have i11 : Iv v5 1 1 := iv_ne1 c6 p5_1 (⟨by decide, by decide⟩ : Iv 0 0 0) (by decide)
    have l12 : a1.toInt ≤ v3.toInt + 0 := le_of (p5_2 c6).2
    have i13 : Iv a1 0 19 := (fun h => iv_rel (p5_2 h) (⟨by decide, by decide⟩ : Iv 0 0 0) i3) c6
    refine lv_aload_n hx hb dX11_row_19 rfl (lv_at hl 0 rfl) ?_
    refine g_656 cx hw ha0 k_f_X11_36 dX11_row_20 (fun v14 e14 h14 => ?_)
    refine lv_iload_n hx hb dX11_row_23 rfl (lv_at hl 1 rfl) ?_
    refine o_lald cx hw h14 (by decide) rfl (iv_in i13 (by decide)) dX11_row_24 (fun v15 e15 => ?_)
    refine lv_goto (tgt := 33) hx hb dX11_row_25 (by decide) ?_
    rw [← hQ]
    exact o_rl cx rx hw dX11_row_33 fr
end OM
