section OM
variable {l : Launch} {A : Nat → Prop} {L : List Nat} {τ : Nat → Nat} {cy : Nat → ClassId} {D : va_G} {K : (Nat → Nat) × (Nat → Nat)} {σ : oSt}
abbrev fs_X11_act : List Nat := [659, 660, 661, 662, 663, 669, 675]
abbrev ts_X11_act : List Nat := [48, 55]
set_option maxHeartbeats 4000000 in
set_option maxRecDepth 100000 in
theorem c_X11_act (a0 : Nat) (ha0 : oA L τ a0 10) (a1 : Int32) (a2 : Int32) (a3 : Int32) (a4 : Int32) : oMet l A L τ cy D K yX11_act cX11_act 6 (some .boolean) 341 8573 [.ref a0, .int a1, .int a2, .int a3, .int a4] σ (va_Qi (fun r σ1 => oFr τ fs_X11_act ts_X11_act σ σ1 ∧ Iv r 0 1) (oPo A L τ cy D) A) := by
  refine oMk (by decide) (Nat.le_of_ble_eq_true rfl) rfl ?_
  intro p e s m args below meth c ls cx rx hA hw hl
  generalize hQ : MQ below _ args s 0 0 A = Q
  have hx := cx.1.1
  have hb := cx.1.2.1
  have hml := cx.1.2.2.1
  have hown := cx.1.2.2.2.1
  have hts := cx.1.2.2.2.2
  have hl : lv_has ls 6 [(0, .ref a0), (1, .int a1), (2, .int a2), (3, .int a3), (4, .int a4)] := hl
  have fr : oFr τ fs_X11_act ts_X11_act σ σ := oFr_rf
  refine lv_iload_n hx hb dX11_act_0 rfl (lv_at hl 1 rfl) ?_
  by_cases q1 : a1 = 100
  · --
    refine lv_lookup (off := 112) (tgt := 113) hx hb dX11_act_1 (by decide) (by rw [q1] <;> decide) (by decide) ?_
    have i2 : Iv a1 100 100 := iv_eq1 q1 (iv_top a1) (⟨by decide, by decide⟩ : Iv 100 100 100) (by decide)
    refine lv_aload_n hx hb dX11_act_113 rfl (lv_at hl 0 rfl) ?_
    refine lv_iload_n hx hb dX11_act_114 rfl (lv_at hl 2 rfl) ?_
    refine lv_iload_n hx hb dX11_act_115 rfl (lv_at hl 3 rfl) ?_
    refine o_ci hw (oRunV cx hA hw q_X11_refusesDrive k_m_X11_272 rfl ha0 (by decide) (As := [.int a2, .int a3]) (c_X11_refusesDrive a0 ha0 a2 a3) (by decide) rfl hl.1 rfl (Nat.le_of_ble_eq_true rfl) dX11_act_116 (by decide)) (fun v4 σ3 H locs hp hw => ?_)
    obtain ⟨p4_0, p4_1, p4_2, p4_3⟩ := hp
    rw [p4_0] at hw
    refine lv_if_ge (tgt := 124) hx hb dX11_act_119 (by decide) (fun c5 => ?_) (fun c5 => ?_)
    · --
      have i6 : Iv a2 0 5 := p4_2 c5
      have i7 : Iv a3 0 63 := p4_3 c5
      have i8 : Iv v4 0 0 := iv_le2 c5 (⟨by decide, by decide⟩ : Iv 0 0 0) p4_1 (by decide)
      refine lv_aload_n hx hb dX11_act_124 rfl (lv_at hl 0 rfl) ?_
      refine lv_iload_n hx hb dX11_act_125 rfl (lv_at hl 2 rfl) ?_
      refine lv_iload_n hx hb dX11_act_126 rfl (lv_at hl 3 rfl) ?_
      refine o_ci hw (oRunV cx hA hw q_X11_goDrive k_m_X11_275 rfl ha0 (by decide) (As := [.int a2, .int a3]) (c_X11_goDrive a0 ha0 a2 (iv_w i6 (by decide)) a3 (iv_w i7 (by decide))) (by decide) rfl hl.1 rfl (Nat.le_of_ble_eq_true rfl) dX11_act_127 (by decide)) (fun v10 σ9 H locs hp hw => ?_)
      obtain ⟨p10_0, p10_1⟩ := hp
      have fr := oFr_tr fr p10_0 (by decide)
      refine lv_pop hx hb dX11_act_130 rfl ?_
      refine lv_iconst (v := 1) hx hb dX11_act_131 (by decide) ?_
      rw [← hQ]
      exact o_rz cx rx hw (iv_nz01 (iv_w (⟨by decide, by decide⟩ : Iv 1 1 1) (by decide))) dX11_act_132 ⟨fr, (iv_w (⟨by decide, by decide⟩ : Iv 1 1 1) (by decide))⟩
    · --
      have i11 : Iv v4 (-2) (-1) := iv_lt1 (iv_nle c5) p4_1 (⟨by decide, by decide⟩ : Iv 0 0 0) (by decide)
      refine lv_iconst (v := 0) hx hb dX11_act_122 (by decide) ?_
      rw [← hQ]
      exact o_rz cx rx hw (iv_nz01 (iv_w (⟨by decide, by decide⟩ : Iv 0 0 0) (by decide))) dX11_act_123 ⟨fr, (iv_w (⟨by decide, by decide⟩ : Iv 0 0 0) (by decide))⟩
  by_cases q12 : a1 = 104
  · --
    refine lv_lookup (off := 43) (tgt := 44) hx hb dX11_act_1 (by decide) (by rw [q12] <;> decide) (by decide) ?_
    have i13 : Iv a1 104 104 := iv_eq1 q12 (iv_top a1) (⟨by decide, by decide⟩ : Iv 104 104 104) (by decide)
    refine lv_iconst (v := 0) hx hb dX11_act_44 (by decide) ?_
    refine lv_istore (lv' := [(5, .int 0), (0, .ref a0), (1, .int a1), (2, .int a2), (3, .int a3), (4, .int a4)]) hx hb dX11_act_45 hl (by decide) rfl (fun ls hl => ?_)
    have frE_47 := fr
    have J_47 : ∀ n47 : Nat, ∀ (j47_5 : Int32) (ij47_5 : Iv j47_5 0 2147483647), ∀ (σ_47 : oSt) (H : Heap) (locs : List Loc), oI A L τ cy D s.heap σ_47 H locs → oFr τ fs_X11_act ts_X11_act σ σ_47 → (2147483647 - j47_5.toInt).toNat < n47 → ∀ (ls : Array Slot), lv_has ls 6 [(0, .ref a0), (1, .int a1), (2, .int a2), (3, .int a3), (4, .int a4), (5, .int j47_5)] → W p l e ({ frames := 341, cells := 0, slots := 0, locals := 8573 } : Room) s m args below meth c H locs 0 0 Q (F0 m 47 ls []) := by
      intro n47
      induction n47 with
      | zero => intro j47_5 ij47_5 σ_47 H locs hw fr   hn_47   ls hl; exact absurd hn_47 (Nat.not_lt_zero _)
      | succ n47 ih_47 =>
        intro j47_5 ij47_5 σ_47 H locs hw fr   hn_47   ls hl
        have fr_47 := fr
        refine lv_iload hx hb dX11_act_47 (lv_at hl 5 rfl) ?_
        refine lv_iload_n hx hb dX11_act_49 rfl (lv_at hl 2 rfl) ?_
        refine lv_icmp_ge (tgt := 76) hx hb dX11_act_50 (by decide) (fun c14 => ?_) (fun c14 => ?_)
        · --
          refine lv_iconst (v := 1) hx hb dX11_act_76 (by decide) ?_
          rw [← hQ]
          exact o_rz cx rx hw (iv_nz01 (iv_w (⟨by decide, by decide⟩ : Iv 1 1 1) (by decide))) dX11_act_77 ⟨fr, (iv_w (⟨by decide, by decide⟩ : Iv 1 1 1) (by decide))⟩
        · --
          have i15 : Iv j47_5 0 2147483646 := iv_lt1 (iv_nle c14) ij47_5 (iv_top a2) (by decide)
          have i16 : Iv a2 1 2147483647 := iv_lt2 (iv_nle c14) ij47_5 (iv_top a2) (by decide)
          refine lv_aload_n hx hb dX11_act_53 rfl (lv_at hl 0 rfl) ?_
          refine lv_dup hx hb dX11_act_54 rfl ?_
          refine g_675 cx hw ha0 k_f_X11_295 dX11_act_55 (fun v17 e17 => ?_)
          refine lv_aload_n hx hb dX11_act_58 rfl (lv_at hl 0 rfl) ?_
          refine lv_aload_n hx hb dX11_act_59 rfl (lv_at hl 0 rfl) ?_
          refine g_640 cx hw ha0 k_f_X11_9 dX11_act_60 (fun v18 e18 h18 => ?_)
          refine o_ci hw (oRunV cx hA hw q_X11_goHour k_m_X11_285 rfl ha0 (by decide) (As := [.ref v18]) (c_X11_goHour a0 ha0 v18 h18) (by decide) rfl hl.1 rfl (Nat.le_of_ble_eq_true rfl) dX11_act_63 (by decide)) (fun v20 σ19 H locs hp hw => ?_)
          have p20_0 := hp
          have fr := oFr_tr fr p20_0 (by decide)
          refine lv_iadd hx hb dX11_act_66 ?_
          refine lv_topi (fun v21 e21 => ?_)
          refine p_675 cx hw ha0 k_f_X11_295 dX11_act_67 (fun σ22 H locs eσ22 hw => ?_)
          have fr := oFr_i fr eσ22 (by decide)
          obtain ⟨v23, e23⟩ : ∃ y : Int32, y = j47_5 + 1 := ⟨_, rfl⟩
          have i23 : Iv v23 1 2147483647 := iv_add e23 i15 (⟨by decide, by decide⟩ : Iv 1 1 1) (by decide)
          have x23 : v23.toInt = j47_5.toInt + 1 := ex_add e23 i15 (⟨by decide, by decide⟩ : Iv 1 1 1) (by decide)
          refine lv_iinc (v := v23) (lv' := [(5, .int v23), (0, .ref a0), (1, .int a1), (2, .int a2), (3, .int a3), (4, .int a4)]) hx hb dX11_act_70 hl (k := 5) rfl (by rw [e23]; rfl) (by decide) rfl (fun ls hl => ?_)
          refine lv_goto (tgt := 47) hx hb dX11_act_73 (by decide) ?_
          exact ih_47 v23 (iv_w i23 (by decide)) σ22 _ _ hw fr (ms_up x23 (by decide) (iv_w (a' := 0) (b' := 2147483647) i23 (by decide)).2 hn_47) _ (lv_sub hl [1, 2, 3, 4, 5, 0] rfl)
    exact J_47 _ 0 (iv_w (⟨by decide, by decide⟩ : Iv 0 0 0) (by decide)) σ _ _ hw fr (Nat.lt_succ_self _) _ (lv_sub hl [1, 2, 3, 4, 5, 0] rfl)
  by_cases q24 : a1 = 115
  · --
    refine lv_lookup (off := 77) (tgt := 78) hx hb dX11_act_1 (by decide) (by rw [q24] <;> decide) (by decide) ?_
    have i25 : Iv a1 115 115 := iv_eq1 q24 (iv_top a1) (⟨by decide, by decide⟩ : Iv 115 115 115) (by decide)
    refine lv_aload_n hx hb dX11_act_78 rfl (lv_at hl 0 rfl) ?_
    refine lv_iload_n hx hb dX11_act_79 rfl (lv_at hl 2 rfl) ?_
    refine lv_iload_n hx hb dX11_act_80 rfl (lv_at hl 3 rfl) ?_
    refine o_ci hw (oRunV cx hA hw q_X11_refusesLay k_m_X11_255 rfl ha0 (by decide) (As := [.int a2, .int a3]) (c_X11_refusesLay a0 ha0 a2 a3) (by decide) rfl hl.1 rfl (Nat.le_of_ble_eq_true rfl) dX11_act_81 (by decide)) (fun v27 σ26 H locs hp hw => ?_)
    obtain ⟨p27_0, p27_1, p27_2⟩ := hp
    rw [p27_0] at hw
    refine lv_if_ge (tgt := 89) hx hb dX11_act_84 (by decide) (fun c28 => ?_) (fun c28 => ?_)
    · --
      have i29 : Iv a2 0 63 := p27_2 c28
      have i30 : Iv v27 0 0 := iv_le2 c28 (⟨by decide, by decide⟩ : Iv 0 0 0) p27_1 (by decide)
      refine lv_aload_n hx hb dX11_act_89 rfl (lv_at hl 0 rfl) ?_
      refine g_640 cx hw ha0 k_f_X11_9 dX11_act_90 (fun v31 e31 h31 => ?_)
      refine lv_iload_n hx hb dX11_act_93 rfl (lv_at hl 1 rfl) ?_
      refine lv_bipush (v := 115) hx hb dX11_act_94 (by decide) ?_
      have J_107 : ∀ (k107_1 : Int32) (ik107_1 : Iv k107_1 64 128), ∀ (H : Heap) (locs : List Loc), oI A L τ cy D s.heap σ H locs → ∀ (ls : Array Slot), lv_has ls 6 [(0, .ref a0), (1, .int a1), (2, .int a2), (3, .int a3), (4, .int a4)] → W p l e ({ frames := 341, cells := 0, slots := 0, locals := 8573 } : Room) s m args below meth c H locs 0 0 Q (F0 m 107 ls [.int k107_1, .ref v31]) := by
        intro k107_1 ik107_1 H locs hw     ls hl
        refine lv_iload_n hx hb dX11_act_107 rfl (lv_at hl 2 rfl) ?_
        refine lv_iadd hx hb dX11_act_108 ?_
        refine lv_topi (fun v32 e32 => ?_)
        have i32 : Iv v32 64 191 := iv_add e32 ik107_1 i29 (by decide)
        have x32 : v32.toInt = k107_1.toInt + a2.toInt := ex_add e32 ik107_1 i29 (by decide)
        refine lv_iload_n hx hb dX11_act_109 rfl (lv_at hl 3 rfl) ?_
        refine o_iast cx hw h31 (by decide) rfl (iv_in i32 (by decide)) (rb_lo i32 (by decide)) dX11_act_110 (fun σ33 H locs eσ33 hw => ?_)
        have fr := oFr_p fr eσ33 h31 (by decide)
        refine lv_iconst (v := 1) hx hb dX11_act_111 (by decide) ?_
        rw [← hQ]
        exact o_rz cx rx hw (iv_nz01 (iv_w (⟨by decide, by decide⟩ : Iv 1 1 1) (by decide))) dX11_act_112 ⟨fr, (iv_w (⟨by decide, by decide⟩ : Iv 1 1 1) (by decide))⟩
      refine lv_icmp_ne (tgt := 104) hx hb dX11_act_96 (by decide) (fun c34 => ?_) (fun c34 => ?_)
      · --
        exact iv_no (iv_ne1 c34 i25 (⟨by decide, by decide⟩ : Iv 115 115 115) (by decide)) (by decide)
      · --
        refine lv_bipush (v := 64) hx hb dX11_act_99 (by decide) ?_
        refine lv_goto (tgt := 107) hx hb dX11_act_101 (by decide) ?_
        exact J_107 64 (iv_w (⟨by decide, by decide⟩ : Iv 64 64 64) (by decide)) _ _ hw _ (lv_sub hl [0, 1, 2, 3, 4] rfl)
    · --
      have i35 : Iv v27 (-2) (-1) := iv_lt1 (iv_nle c28) p27_1 (⟨by decide, by decide⟩ : Iv 0 0 0) (by decide)
      refine lv_iconst (v := 0) hx hb dX11_act_87 (by decide) ?_
      rw [← hQ]
      exact o_rz cx rx hw (iv_nz01 (iv_w (⟨by decide, by decide⟩ : Iv 0 0 0) (by decide))) dX11_act_88 ⟨fr, (iv_w (⟨by decide, by decide⟩ : Iv 0 0 0) (by decide))⟩
  by_cases q36 : a1 = 116
  · --
    refine lv_lookup (off := 77) (tgt := 78) hx hb dX11_act_1 (by decide) (by rw [q36] <;> decide) (by decide) ?_
    have i37 : Iv a1 116 116 := iv_eq1 q36 (iv_top a1) (⟨by decide, by decide⟩ : Iv 116 116 116) (by decide)
    refine lv_aload_n hx hb dX11_act_78 rfl (lv_at hl 0 rfl) ?_
    refine lv_iload_n hx hb dX11_act_79 rfl (lv_at hl 2 rfl) ?_
    refine lv_iload_n hx hb dX11_act_80 rfl (lv_at hl 3 rfl) ?_
    refine o_ci hw (oRunV cx hA hw q_X11_refusesLay k_m_X11_255 rfl ha0 (by decide) (As := [.int a2, .int a3]) (c_X11_refusesLay a0 ha0 a2 a3) (by decide) rfl hl.1 rfl (Nat.le_of_ble_eq_true rfl) dX11_act_81 (by decide)) (fun v39 σ38 H locs hp hw => ?_)
    obtain ⟨p39_0, p39_1, p39_2⟩ := hp
    rw [p39_0] at hw
    refine lv_if_ge (tgt := 89) hx hb dX11_act_84 (by decide) (fun c40 => ?_) (fun c40 => ?_)
    · --
      have i41 : Iv a2 0 63 := p39_2 c40
      have i42 : Iv v39 0 0 := iv_le2 c40 (⟨by decide, by decide⟩ : Iv 0 0 0) p39_1 (by decide)
      refine lv_aload_n hx hb dX11_act_89 rfl (lv_at hl 0 rfl) ?_
      refine g_640 cx hw ha0 k_f_X11_9 dX11_act_90 (fun v43 e43 h43 => ?_)
      refine lv_iload_n hx hb dX11_act_93 rfl (lv_at hl 1 rfl) ?_
      refine lv_bipush (v := 115) hx hb dX11_act_94 (by decide) ?_
      have J_107 : ∀ (k107_1 : Int32) (ik107_1 : Iv k107_1 64 128), ∀ (H : Heap) (locs : List Loc), oI A L τ cy D s.heap σ H locs → ∀ (ls : Array Slot), lv_has ls 6 [(0, .ref a0), (1, .int a1), (2, .int a2), (3, .int a3), (4, .int a4)] → W p l e ({ frames := 341, cells := 0, slots := 0, locals := 8573 } : Room) s m args below meth c H locs 0 0 Q (F0 m 107 ls [.int k107_1, .ref v43]) := by
        intro k107_1 ik107_1 H locs hw     ls hl
        refine lv_iload_n hx hb dX11_act_107 rfl (lv_at hl 2 rfl) ?_
        refine lv_iadd hx hb dX11_act_108 ?_
        refine lv_topi (fun v44 e44 => ?_)
        have i44 : Iv v44 64 191 := iv_add e44 ik107_1 i41 (by decide)
        have x44 : v44.toInt = k107_1.toInt + a2.toInt := ex_add e44 ik107_1 i41 (by decide)
        refine lv_iload_n hx hb dX11_act_109 rfl (lv_at hl 3 rfl) ?_
        refine o_iast cx hw h43 (by decide) rfl (iv_in i44 (by decide)) (rb_lo i44 (by decide)) dX11_act_110 (fun σ45 H locs eσ45 hw => ?_)
        have fr := oFr_p fr eσ45 h43 (by decide)
        refine lv_iconst (v := 1) hx hb dX11_act_111 (by decide) ?_
        rw [← hQ]
        exact o_rz cx rx hw (iv_nz01 (iv_w (⟨by decide, by decide⟩ : Iv 1 1 1) (by decide))) dX11_act_112 ⟨fr, (iv_w (⟨by decide, by decide⟩ : Iv 1 1 1) (by decide))⟩
      refine lv_icmp_ne (tgt := 104) hx hb dX11_act_96 (by decide) (fun c46 => ?_) (fun c46 => ?_)
      · --
        refine lv_sipush (v := 128) hx hb dX11_act_104 (by decide) ?_
        exact J_107 128 (iv_w (⟨by decide, by decide⟩ : Iv 128 128 128) (by decide)) _ _ hw _ (lv_sub hl [0, 1, 2, 3, 4] rfl)
      · --
        exact iv_no (iv_eq1 (lo := 116) (hi := 115) c46 i37 (⟨by decide, by decide⟩ : Iv 115 115 115) (by decide)) (by decide)
    · --
      have i47 : Iv v39 (-2) (-1) := iv_lt1 (iv_nle c40) p39_1 (⟨by decide, by decide⟩ : Iv 0 0 0) (by decide)
      refine lv_iconst (v := 0) hx hb dX11_act_87 (by decide) ?_
      rw [← hQ]
      exact o_rz cx rx hw (iv_nz01 (iv_w (⟨by decide, by decide⟩ : Iv 0 0 0) (by decide))) dX11_act_88 ⟨fr, (iv_w (⟨by decide, by decide⟩ : Iv 0 0 0) (by decide))⟩
  have q1 := iv_nt q1 (k := 100) (by decide)
  have q12 := iv_nt q12 (k := 104) (by decide)
  have q24 := iv_nt q24 (k := 115) (by decide)
  have q36 := iv_nt q36 (k := 116) (by decide)
  refine lv_lookup (off := 132) (tgt := 133) hx hb dX11_act_1 (by decide) (by simp [Op.lookupswitch.offset, q1, Ne.symm q1, q12, Ne.symm q12, q24, Ne.symm q24, q36, Ne.symm q36]) (by decide) ?_
  refine lv_iload_n hx hb dX11_act_133 rfl (lv_at hl 1 rfl) ?_
  refine lv_bipush (v := 111) hx hb dX11_act_134 (by decide) ?_
  have J_144 : ∀ (k144_0 : Int32) (ik144_0 : Iv k144_0 0 1), ∀ (H : Heap) (locs : List Loc), oI A L τ cy D s.heap σ H locs → ∀ (ls : Array Slot), lv_has ls 6 [(0, .ref a0), (1, .int a1), (2, .int a2), (3, .int a3), (4, .int a4)] → W p l e ({ frames := 341, cells := 0, slots := 0, locals := 8573 } : Room) s m args below meth c H locs 0 0 Q (F0 m 144 ls [.int k144_0]) := by
    intro k144_0 ik144_0 H locs hw     ls hl
    refine lv_istore (lv' := [(5, .int k144_0), (0, .ref a0), (1, .int a1), (2, .int a2), (3, .int a3), (4, .int a4)]) hx hb dX11_act_144 hl (by decide) rfl (fun ls hl => ?_)
    refine lv_aload_n hx hb dX11_act_146 rfl (lv_at hl 1 rfl) ?_
    refine lv_iload_n hx hb dX11_act_147 rfl (lv_at hl 3 rfl) ?_
    refine lv_iload hx hb dX11_act_148 (lv_at hl 0 rfl) ?_
    refine o_ci hw (oRunV cx hA hw q_X11_refusesGate k_m_X11_266 rfl ha0 (by decide) (As := [.int a2, .int k144_0]) (c_X11_refusesGate a0 ha0 a2 k144_0) (by decide) rfl hl.1 rfl (Nat.le_of_ble_eq_true rfl) dX11_act_150 (by decide)) (fun v49 σ48 H locs hp hw => ?_)
    obtain ⟨p49_0, p49_1, p49_2⟩ := hp
    rw [p49_0] at hw
    refine lv_if_ge (tgt := 158) hx hb dX11_act_153 (by decide) (fun c50 => ?_) (fun c50 => ?_)
    · --
      have i51 : Iv a2 0 5 := p49_2 c50
      have i52 : Iv v49 0 0 := iv_le2 c50 (⟨by decide, by decide⟩ : Iv 0 0 0) p49_1 (by decide)
      refine lv_aload_n hx hb dX11_act_158 rfl (lv_at hl 1 rfl) ?_
      refine lv_iload_n hx hb dX11_act_159 rfl (lv_at hl 3 rfl) ?_
      refine lv_iload hx hb dX11_act_160 (lv_at hl 0 rfl) ?_
      refine o_ci hw (oRunV cx hA hw q_X11_goGate k_m_X11_269 rfl ha0 (by decide) (As := [.int a2, .int k144_0]) (c_X11_goGate a0 ha0 a2 (iv_w i51 (by decide)) k144_0) (by decide) rfl hl.1 rfl (Nat.le_of_ble_eq_true rfl) dX11_act_162 (by decide)) (fun v54 σ53 H locs hp hw => ?_)
      obtain ⟨p54_0, p54_1⟩ := hp
      have fr := oFr_tr fr p54_0 (by decide)
      refine lv_pop hx hb dX11_act_165 rfl ?_
      refine lv_iconst (v := 1) hx hb dX11_act_166 (by decide) ?_
      rw [← hQ]
      exact o_rz cx rx hw (iv_nz01 (iv_w (⟨by decide, by decide⟩ : Iv 1 1 1) (by decide))) dX11_act_167 ⟨fr, (iv_w (⟨by decide, by decide⟩ : Iv 1 1 1) (by decide))⟩
    · --
      have i55 : Iv v49 (-2) (-1) := iv_lt1 (iv_nle c50) p49_1 (⟨by decide, by decide⟩ : Iv 0 0 0) (by decide)
      refine lv_iconst (v := 0) hx hb dX11_act_156 (by decide) ?_
      rw [← hQ]
      exact o_rz cx rx hw (iv_nz01 (iv_w (⟨by decide, by decide⟩ : Iv 0 0 0) (by decide))) dX11_act_157 ⟨fr, (iv_w (⟨by decide, by decide⟩ : Iv 0 0 0) (by decide))⟩
  refine lv_icmp_ne (tgt := 143) hx hb dX11_act_136 (by decide) (fun c56 => ?_) (fun c56 => ?_)
  · --
    refine lv_iconst (v := 0) hx hb dX11_act_143 (by decide) ?_
    exact J_144 0 (iv_w (⟨by decide, by decide⟩ : Iv 0 0 0) (by decide)) _ _ hw _ (lv_sub hl [0, 1, 2, 3, 4] rfl)
  · --
    have i57 : Iv a1 111 111 := iv_eq1 c56 (iv_top a1) (⟨by decide, by decide⟩ : Iv 111 111 111) (by decide)
    refine lv_iconst (v := 1) hx hb dX11_act_139 (by decide) ?_
    refine lv_goto (tgt := 144) hx hb dX11_act_140 (by decide) ?_
    exact J_144 1 (iv_w (⟨by decide, by decide⟩ : Iv 1 1 1) (by decide)) _ _ hw _ (lv_sub hl [0, 1, 2, 3, 4] rfl)
set_option maxHeartbeats 4000000 in
set_option maxRecDepth 100000 in
theorem c_X11_roadOf (a0 : Nat) (ha0 : oA L τ a0 10) (a1 : Nat) (ha1 : oA L τ a1 48) : oMet l A L τ cy D K yX11_roadOf cX11_roadOf 5 (some .long) 2 43 [.ref a0, .ref a1] σ (va_Ql (fun r σ1 => σ1 = σ) (oPo A L τ cy D) A) := by
  refine oMk (by decide) (Nat.le_of_ble_eq_true rfl) rfl ?_
  intro p e s m args below meth c ls cx rx hA hw hl
  generalize hQ : MQ below _ args s 0 0 A = Q
  have hx := cx.1.1
  have hb := cx.1.2.1
  have hml := cx.1.2.2.1
  have hown := cx.1.2.2.2.1
  have hts := cx.1.2.2.2.2
  have hl : lv_has ls 5 [(0, .ref a0), (1, .ref a1)] := hl
  refine lv_lconst (v := 0) hx hb dX11_roadOf_0 (by decide) ?_
  refine lv_lstore_n (lv' := [(2, .long 0), (0, .ref a0), (1, .ref a1)]) hx hb dX11_roadOf_1 rfl hl (by decide) rfl (fun ls hl => ?_)
  refine lv_iconst (v := 0) hx hb dX11_roadOf_2 (by decide) ?_
  refine lv_istore (lv' := [(4, .int 0), (2, .long 0), (0, .ref a0), (1, .ref a1)]) hx hb dX11_roadOf_3 hl (by decide) rfl (fun ls hl => ?_)
  have J_5 : ∀ n5 : Nat, ∀ (j5_2 : Int64) (j5_4 : Int32) (ij5_4 : Iv j5_4 0 64), ∀ (H : Heap) (locs : List Loc), oI A L τ cy D s.heap σ H locs → (64 - j5_4.toInt).toNat < n5 → ∀ (ls : Array Slot), lv_has ls 5 [(0, .ref a0), (1, .ref a1), (2, .long j5_2), (4, .int j5_4)] → W p l e ({ frames := 2, cells := 0, slots := 0, locals := 43 } : Room) s m args below meth c H locs 0 0 Q (F0 m 5 ls []) := by
    intro n5
    induction n5 with
    | zero => intro j5_2 j5_4 ij5_4 H locs hw  hn_5   ls hl; exact absurd hn_5 (Nat.not_lt_zero _)
    | succ n5 ih_5 =>
      intro j5_2 j5_4 ij5_4 H locs hw  hn_5   ls hl
      refine lv_iload hx hb dX11_roadOf_5 (lv_at hl 3 rfl) ?_
      refine lv_bipush (v := 64) hx hb dX11_roadOf_7 (by decide) ?_
      refine lv_icmp_ge (tgt := 48) hx hb dX11_roadOf_9 (by decide) (fun c1 => ?_) (fun c1 => ?_)
      · --
        have i2 : Iv j5_4 64 64 := iv_le2 c1 (⟨by decide, by decide⟩ : Iv 64 64 64) ij5_4 (by decide)
        refine lv_lload_n hx hb dX11_roadOf_48 rfl (lv_at hl 2 rfl) ?_
        rw [← hQ]
        exact o_rl cx rx hw dX11_roadOf_49 rfl
      · --
        have i3 : Iv j5_4 0 63 := iv_lt1 (iv_nle c1) ij5_4 (⟨by decide, by decide⟩ : Iv 64 64 64) (by decide)
        refine lv_lload_n hx hb dX11_roadOf_12 rfl (lv_at hl 2 rfl) ?_
        refine lv_aload_n hx hb dX11_roadOf_13 rfl (lv_at hl 0 rfl) ?_
        refine lv_iload hx hb dX11_roadOf_14 (lv_at hl 3 rfl) ?_
        have i4 : Iv (σ.1 641 a0) 0 8 := o_fb (j := 641) hw ha0 rfl
        have i5 : Iv (σ.1 642 a0) 0 8 := o_fb (j := 642) hw ha0 rfl
        refine o_ci hw (oRunV cx hA hw q_X11_isCell k_m_X11_157 rfl ha0 (by decide) (As := [.int j5_4]) (c_X11_isCell a0 ha0 j5_4) (by decide) rfl hl.1 rfl (Nat.le_of_ble_eq_true rfl) dX11_roadOf_16 (by decide)) (fun v7 σ6 H locs hp hw => ?_)
        obtain ⟨p7_0, p7_1, p7_2, p7_3⟩ := hp
        rw [p7_0] at hw
        have J_40 : ∀ (k40_1 : Int64), ∀ (H : Heap) (locs : List Loc), oI A L τ cy D s.heap σ H locs → ∀ (ls : Array Slot), lv_has ls 5 [(0, .ref a0), (1, .ref a1), (2, .long j5_2), (4, .int j5_4)] → W p l e ({ frames := 2, cells := 0, slots := 0, locals := 43 } : Room) s m args below meth c H locs 0 0 Q (F0 m 40 ls [.long k40_1, .long j5_2]) := by
          intro k40_1 H locs hw     ls hl
          refine lv_lor hx hb dX11_roadOf_40 ?_
          refine lv_topl (fun v8 e8 => ?_)
          refine lv_lstore_n (lv' := [(2, .long v8), (0, .ref a0), (1, .ref a1), (4, .int j5_4)]) hx hb dX11_roadOf_41 rfl hl (by decide) rfl (fun ls hl => ?_)
          obtain ⟨v9, e9⟩ : ∃ y : Int32, y = j5_4 + 1 := ⟨_, rfl⟩
          have i9 : Iv v9 1 64 := iv_add e9 i3 (⟨by decide, by decide⟩ : Iv 1 1 1) (by decide)
          have x9 : v9.toInt = j5_4.toInt + 1 := ex_add e9 i3 (⟨by decide, by decide⟩ : Iv 1 1 1) (by decide)
          refine lv_iinc (v := v9) (lv' := [(4, .int v9), (2, .long v8), (0, .ref a0), (1, .ref a1)]) hx hb dX11_roadOf_42 hl (k := 3) rfl (by rw [e9]; rfl) (by decide) rfl (fun ls hl => ?_)
          refine lv_goto (tgt := 5) hx hb dX11_roadOf_45 (by decide) ?_
          exact ih_5 v8 v9 (iv_w i9 (by decide)) _ _ hw (ms_up x9 (by decide) (iv_w (a' := 0) (b' := 64) i9 (by decide)).2 hn_5) _ (lv_sub hl [2, 3, 1, 0] rfl)
        have J_39 : ∀ (H : Heap) (locs : List Loc), oI A L τ cy D s.heap σ H locs → ∀ (ls : Array Slot), lv_has ls 5 [(0, .ref a0), (1, .ref a1), (2, .long j5_2), (4, .int j5_4)] → W p l e ({ frames := 2, cells := 0, slots := 0, locals := 43 } : Room) s m args below meth c H locs 0 0 Q (F0 m 39 ls [.long j5_2]) := by
          intro  H locs hw     ls hl
          refine lv_lconst (v := 0) hx hb dX11_roadOf_39 (by decide) ?_
          exact J_40 0 _ _ hw _ (lv_sub hl [0, 1, 2, 3] rfl)
        refine lv_if_eq (tgt := 39) hx hb dX11_roadOf_19 (by decide) (fun c10 => ?_) (fun c10 => ?_)
        · --
          have i11 : Iv v7 0 0 := iv_eq1 c10 p7_1 (⟨by decide, by decide⟩ : Iv 0 0 0) (by decide)
          exact J_39 _ _ hw _ (lv_sub hl [0, 1, 2, 3] rfl)
        · --
          have i12 : Iv v7 1 1 := iv_ne1 c10 p7_1 (⟨by decide, by decide⟩ : Iv 0 0 0) (by decide)
          have i13 : Iv j5_4 0 63 := p7_2 c10
          refine lv_aload_n hx hb dX11_roadOf_22 rfl (lv_at hl 0 rfl) ?_
          refine lv_aload_n hx hb dX11_roadOf_23 rfl (lv_at hl 1 rfl) ?_
          refine lv_iload hx hb dX11_roadOf_24 (lv_at hl 3 rfl) ?_
          refine o_ci hw (oRunV cx hA hw q_X11_isRoad k_m_X11_211 rfl ha0 (by decide) (As := [.ref a1, .int j5_4]) (c_X11_isRoad a0 ha0 a1 ha1 j5_4 (iv_w i13 (by decide))) (by decide) rfl hl.1 rfl (Nat.le_of_ble_eq_true rfl) dX11_roadOf_26 (by decide)) (fun v15 σ14 H locs hp hw => ?_)
          obtain ⟨p15_0, p15_1⟩ := hp
          rw [p15_0] at hw
          refine lv_if_eq (tgt := 39) hx hb dX11_roadOf_29 (by decide) (fun c16 => ?_) (fun c16 => ?_)
          · --
            have i17 : Iv v15 0 0 := iv_eq1 c16 p15_1 (⟨by decide, by decide⟩ : Iv 0 0 0) (by decide)
            exact J_39 _ _ hw _ (lv_sub hl [0, 1, 2, 3] rfl)
          · --
            have i18 : Iv v15 1 1 := iv_ne1 c16 p15_1 (⟨by decide, by decide⟩ : Iv 0 0 0) (by decide)
            refine lv_lconst (v := 1) hx hb dX11_roadOf_32 (by decide) ?_
            refine lv_iload hx hb dX11_roadOf_33 (lv_at hl 3 rfl) ?_
            refine lv_lshl hx hb dX11_roadOf_35 rfl ?_
            refine lv_topl (fun v19 e19 => ?_)
            refine lv_goto (tgt := 40) hx hb dX11_roadOf_36 (by decide) ?_
            exact J_40 v19 _ _ hw _ (lv_sub hl [0, 1, 2, 3] rfl)
  exact J_5 _ 0 0 (iv_w (⟨by decide, by decide⟩ : Iv 0 0 0) (by decide)) _ _ hw (Nat.lt_succ_self _) _ (lv_sub hl [2, 3, 1, 0] rfl)
set_option maxHeartbeats 4000000 in
set_option maxRecDepth 100000 in
theorem c_X11_besides (a0 : Int64) : oMet l A L τ cy D K yX11_besides cX11_besides 2 (some .long) 0 0 [.long a0] σ (va_Ql (fun r σ1 => σ1 = σ ∧ (r = bsd a0)) (oPo A L τ cy D) A) := by
  refine oMk (by decide) (Nat.le_of_ble_eq_true rfl) rfl ?_
  intro p e s m args below meth c ls cx rx hA hw hl
  generalize hQ : MQ below _ args s 0 0 A = Q
  have hx := cx.1.1
  have hb := cx.1.2.1
  have hml := cx.1.2.2.1
  have hown := cx.1.2.2.2.1
  have hts := cx.1.2.2.2.2
  have hl : lv_has ls 2 [(0, .long a0)] := hl
  refine lv_lload_n hx hb dX11_besides_0 rfl (lv_at hl 0 rfl) ?_
  refine lv_bipush (v := 8) hx hb dX11_besides_1 (by decide) ?_
  refine lv_lshl hx hb dX11_besides_3 rfl ?_
  refine lv_topl (fun v1 e1 => ?_)
  refine lv_lload_n hx hb dX11_besides_4 rfl (lv_at hl 0 rfl) ?_
  refine lv_bipush (v := 8) hx hb dX11_besides_5 (by decide) ?_
  refine lv_lushr hx hb dX11_besides_7 rfl ?_
  refine lv_topl (fun v2 e2 => ?_)
  refine lv_lor hx hb dX11_besides_8 ?_
  refine lv_topl (fun v3 e3 => ?_)
  refine lv_lload_n hx hb dX11_besides_9 rfl (lv_at hl 0 rfl) ?_
  refine lv_ldc2 (v := 9187201950435737471) hx hb hown (hts _ k_k_X11_305) dX11_besides_10 ?_
  refine lv_land hx hb dX11_besides_13 ?_
  refine lv_topl (fun v4 e4 => ?_)
  refine lv_iconst (v := 1) hx hb dX11_besides_14 (by decide) ?_
  refine lv_lshl hx hb dX11_besides_15 rfl ?_
  refine lv_topl (fun v5 e5 => ?_)
  refine lv_lor hx hb dX11_besides_16 ?_
  refine lv_topl (fun v6 e6 => ?_)
  refine lv_lload_n hx hb dX11_besides_17 rfl (lv_at hl 0 rfl) ?_
  refine lv_ldc2 (v := (-72340172838076674)) hx hb hown (hts _ k_k_X11_307) dX11_besides_18 ?_
  refine lv_land hx hb dX11_besides_21 ?_
  refine lv_topl (fun v7 e7 => ?_)
  refine lv_iconst (v := 1) hx hb dX11_besides_22 (by decide) ?_
  refine lv_lushr hx hb dX11_besides_23 rfl ?_
  refine lv_topl (fun v8 e8 => ?_)
  refine lv_lor hx hb dX11_besides_24 ?_
  refine lv_topl (fun v9 e9 => ?_)
  rw [← hQ]
  exact o_rl cx rx hw dX11_besides_25 ⟨rfl, (by subst e1; subst e2; subst e3; subst e4; subst e5; subst e6; subst e7; subst e8; subst e9; rfl)⟩
set_option maxHeartbeats 4000000 in
set_option maxRecDepth 100000 in
theorem c_X11_spread (a0 : Int64) (a1 : Int64) : oMet l A L τ cy D K yX11_spread cX11_spread 8 (some .long) 1 21 [.long a0, .long a1] σ (va_Ql (fun r σ1 => σ1 = σ ∧ ((a0 &&& a1) ||| r = r)) (oPo A L τ cy D) A) := by
  refine oMk (by decide) (Nat.le_of_ble_eq_true rfl) rfl ?_
  intro p e s m args below meth c ls cx rx hA hw hl
  generalize hQ : MQ below _ args s 0 0 A = Q
  have hx := cx.1.1
  have hb := cx.1.2.1
  have hml := cx.1.2.2.1
  have hown := cx.1.2.2.2.1
  have hts := cx.1.2.2.2.2
  have hl : lv_has ls 8 [(0, .long a0), (2, .long a1)] := hl
  refine lv_lload_n hx hb dX11_spread_0 rfl (lv_at hl 0 rfl) ?_
  refine lv_lload_n hx hb dX11_spread_1 rfl (lv_at hl 1 rfl) ?_
  refine lv_land hx hb dX11_spread_2 ?_
  refine lv_topl (fun v1 e1 => ?_)
  refine lv_lstore (lv' := [(4, .long v1), (0, .long a0), (2, .long a1)]) hx hb dX11_spread_3 hl (by decide) rfl (fun ls hl => ?_)
  refine lv_lconst (v := 0) hx hb dX11_spread_5 (by decide) ?_
  refine lv_lstore (lv' := [(6, .long 0), (4, .long v1), (0, .long a0), (2, .long a1)]) hx hb dX11_spread_6 hl (by decide) rfl (fun ls hl => ?_)
  have J_8 : ∀ n8 : Nat, ∀ (j8_4 : Int64) (j8_6 : Int64), ∀ (H : Heap) (locs : List Loc), oI A L τ cy D s.heap σ H locs → 18446744073709551616 - lgN j8_6 < n8 → (j8_6 ||| j8_4 = j8_4) → ((a0 &&& a1) ||| j8_4 = j8_4) → ∀ (ls : Array Slot), lv_has ls 8 [(0, .long a0), (2, .long a1), (4, .long j8_4), (6, .long j8_6)] → W p l e ({ frames := 1, cells := 0, slots := 0, locals := 21 } : Room) s m args below meth c H locs 0 0 Q (F0 m 8 ls []) := by
    intro n8
    induction n8 with
    | zero => intro j8_4 j8_6 H locs hw  hn_8 ho hh  ls hl; exact absurd hn_8 (Nat.not_lt_zero _)
    | succ n8 ih_8 =>
      intro j8_4 j8_6 H locs hw  hn_8 ho hh  ls hl
      refine lv_lload hx hb dX11_spread_8 (lv_at hl 2 rfl) ?_
      refine lv_lload hx hb dX11_spread_10 (lv_at hl 3 rfl) ?_
      refine W.lcmp hx hb dX11_spread_12 ?_
      refine lv_topi (fun v2 e2 => ?_)
      have i2 : Iv v2 (-1) 1 := iv_lcmp e2
      refine lv_if_eq (tgt := 35) hx hb dX11_spread_13 (by decide) (fun c3 => ?_) (fun c3 => ?_)
      · --
        have i4 : Iv v2 0 0 := iv_eq1 c3 i2 (⟨by decide, by decide⟩ : Iv 0 0 0) (by decide)
        refine lv_lload hx hb dX11_spread_35 (lv_at hl 2 rfl) ?_
        rw [← hQ]
        exact o_rl cx rx hw dX11_spread_37 ⟨rfl, (by exact hh)⟩
      · --
        refine lv_lload hx hb dX11_spread_16 (lv_at hl 2 rfl) ?_
        refine lv_lstore (lv' := [(6, .long j8_4), (0, .long a0), (2, .long a1), (4, .long j8_4)]) hx hb dX11_spread_18 hl (by decide) rfl (fun ls hl => ?_)
        refine lv_lload hx hb dX11_spread_20 (lv_at hl 3 rfl) ?_
        refine lv_lload hx hb dX11_spread_22 (lv_at hl 3 rfl) ?_
        refine o_cl hw (oRunS cx hA hw q_X11_besides k_m_X11_309 (As := [.long j8_4]) (c_X11_besides j8_4) (by decide) rfl hl.1 rfl (Nat.le_of_ble_eq_true rfl) dX11_spread_24 (by decide)) (fun v6 σ5 H locs hp hw => ?_)
        obtain ⟨p6_0, p6_1⟩ := hp
        rw [p6_0] at hw
        refine lv_lload_n hx hb dX11_spread_27 rfl (lv_at hl 2 rfl) ?_
        refine lv_land hx hb dX11_spread_28 ?_
        refine lv_topl (fun v7 e7 => ?_)
        refine lv_lor hx hb dX11_spread_29 ?_
        refine lv_topl (fun v8 e8 => ?_)
        refine lv_lstore (lv' := [(4, .long v8), (6, .long j8_4), (0, .long a0), (2, .long a1)]) hx hb dX11_spread_30 hl (by decide) rfl (fun ls hl => ?_)
        refine lv_goto (tgt := 8) hx hb dX11_spread_32 (by decide) ?_
        exact ih_8 v8 j8_4 _ _ hw (by have := lg_or_lt ho (Ne.symm (lg_ne e2 c3)); have := lgN_lt j8_4; omega) (by rw [e8]; exact lg_or_self _ _) (lg_hold hh e8) _ (lv_sub hl [2, 3, 0, 1] rfl)
  exact J_8 _ v1 0 _ _ hw (Nat.lt_succ_self _) (lg_zero_or _) (by rw [e1]; exact lg_or_rf _) _ (lv_sub hl [2, 3, 1, 0] rfl)
abbrev fs_X11_findFar : List Nat := []
abbrev ts_X11_findFar : List Nat := [66]
set_option maxHeartbeats 4000000 in
set_option maxRecDepth 100000 in
theorem c_X11_findFar (a0 : Nat) (ha0 : oA L τ a0 10) (a1 : Int32) (a2 : Int64) : oMet l A L τ cy D K yX11_findFar cX11_findFar 10 none 1 22 [.ref a0, .int a1, .long a2] σ (va_Qv (fun σ1 => oFr τ fs_X11_findFar ts_X11_findFar σ σ1 ∧ (∀ b, σ.2.2.2.2 676 a0 = some b → fa (σ1.2.2.1 b))) (oPo A L τ cy D) A) := by
  refine oMk (by decide) (Nat.le_of_ble_eq_true rfl) rfl ?_
  intro p e s m args below meth c ls cx rx hA hw hl
  generalize hQ : MQ below _ args s 0 0 A = Q
  have hx := cx.1.1
  have hb := cx.1.2.1
  have hml := cx.1.2.2.1
  have hown := cx.1.2.2.2.1
  have hts := cx.1.2.2.2.2
  have hl : lv_has ls 10 [(0, .ref a0), (1, .int a1), (2, .long a2)] := hl
  have fr : oFr τ fs_X11_findFar ts_X11_findFar σ σ := oFr_rf
  obtain ⟨b676, hF676, hb676⟩ := hw.2.2.2.2.2 676 a0 66 (by rw [ha0.2]; rfl) ha0.1
  refine lv_iconst (v := 0) hx hb dX11_findFar_0 (by decide) ?_
  refine lv_istore (lv' := [(4, .int 0), (0, .ref a0), (1, .int a1), (2, .long a2)]) hx hb dX11_findFar_1 hl (by decide) rfl (fun ls hl => ?_)
  have frE_3 := fr
  have J_3 : ∀ n3 : Nat, ∀ (j3_4 : Int32) (ij3_4 : Iv j3_4 0 64), ∀ (σ_3 : oSt) (H : Heap) (locs : List Loc), oI A L τ cy D s.heap σ_3 H locs → oFr τ fs_X11_findFar ts_X11_findFar σ σ_3 → (64 - j3_4.toInt).toNat < n3 → (∀ c : Nat, c < 64 → (c : Int) < (j3_4 : Int32).toInt → (σ_3.2.2.1 b676) c = 100000000) → ∀ (ls : Array Slot), lv_has ls 10 [(0, .ref a0), (1, .int a1), (2, .long a2), (4, .int j3_4)] → W p l e ({ frames := 1, cells := 0, slots := 0, locals := 22 } : Room) s m args below meth c H locs 0 0 Q (F0 m 3 ls []) := by
    intro n3
    induction n3 with
    | zero => intro j3_4 ij3_4 σ_3 H locs hw fr   hn_3 h3  ls hl; exact absurd hn_3 (Nat.not_lt_zero _)
    | succ n3 ih_3 =>
      intro j3_4 ij3_4 σ_3 H locs hw fr   hn_3 h3  ls hl
      have fr_3 := fr
      refine lv_iload hx hb dX11_findFar_3 (lv_at hl 3 rfl) ?_
      refine lv_bipush (v := 64) hx hb dX11_findFar_5 (by decide) ?_
      refine lv_icmp_ge (tgt := 26) hx hb dX11_findFar_7 (by decide) (fun c1 => ?_) (fun c1 => ?_)
      · --
        have i2 : Iv j3_4 64 64 := iv_le2 c1 (⟨by decide, by decide⟩ : Iv 64 64 64) ij3_4 (by decide)
        refine lv_lconst (v := 1) hx hb dX11_findFar_26 (by decide) ?_
        refine lv_iload_n hx hb dX11_findFar_27 rfl (lv_at hl 1 rfl) ?_
        refine lv_lshl hx hb dX11_findFar_28 rfl ?_
        refine lv_topl (fun v3 e3 => ?_)
        refine lv_lload_n hx hb dX11_findFar_29 rfl (lv_at hl 2 rfl) ?_
        refine lv_land hx hb dX11_findFar_30 ?_
        refine lv_topl (fun v4 e4 => ?_)
        refine lv_lstore (lv' := [(4, .long v4), (0, .ref a0), (1, .int a1), (2, .long a2)]) hx hb dX11_findFar_31 hl (by decide) rfl (fun ls hl => ?_)
        refine lv_lconst (v := 0) hx hb dX11_findFar_33 (by decide) ?_
        refine lv_lstore (lv' := [(6, .long 0), (4, .long v4), (0, .ref a0), (1, .int a1), (2, .long a2)]) hx hb dX11_findFar_34 hl (by decide) rfl (fun ls hl => ?_)
        refine lv_iconst (v := 0) hx hb dX11_findFar_36 (by decide) ?_
        refine lv_istore (lv' := [(8, .int 0), (6, .long 0), (4, .long v4), (0, .ref a0), (1, .int a1), (2, .long a2)]) hx hb dX11_findFar_37 hl (by decide) rfl (fun ls hl => ?_)
        have frE_39 := fr
        have J_39 : ∀ n39 : Nat, ∀ (j39_4 : Int64) (j39_6 : Int64) (j39_8 : Int32), ∀ (σ_39 : oSt) (H : Heap) (locs : List Loc), oI A L τ cy D s.heap σ_39 H locs → oFr τ fs_X11_findFar ts_X11_findFar σ σ_39 → 18446744073709551616 - lgN j39_6 < n39 → (j39_6 &&& j39_4 = 0) → (bf (σ_39.2.2.1 b676) j39_8 j39_4 j39_6) → ∀ (ls : Array Slot), lv_has ls 10 [(0, .ref a0), (1, .int a1), (2, .long a2), (4, .long j39_4), (6, .long j39_6), (8, .int j39_8)] → W p l e ({ frames := 1, cells := 0, slots := 0, locals := 22 } : Room) s m args below meth c H locs 0 0 Q (F0 m 39 ls []) := by
          intro n39
          induction n39 with
          | zero => intro j39_4 j39_6 j39_8 σ_39 H locs hw fr   hn_39 hs h39  ls hl; exact absurd hn_39 (Nat.not_lt_zero _)
          | succ n39 ih_39 =>
            intro j39_4 j39_6 j39_8 σ_39 H locs hw fr   hn_39 hs h39  ls hl
            have fr_39 := fr
            refine lv_lload hx hb dX11_findFar_39 (lv_at hl 3 rfl) ?_
            refine lv_lconst (v := 0) hx hb dX11_findFar_41 (by decide) ?_
            refine W.lcmp hx hb dX11_findFar_42 ?_
            refine lv_topi (fun v5 e5 => ?_)
            have i5 : Iv v5 (-1) 1 := iv_lcmp e5
            refine lv_if_eq (tgt := 110) hx hb dX11_findFar_43 (by decide) (fun c6 => ?_) (fun c6 => ?_)
            · --
              have i7 : Iv v5 0 0 := iv_eq1 c6 i5 (⟨by decide, by decide⟩ : Iv 0 0 0) (by decide)
              rw [← hQ]
              exact o_rv cx rx hw dX11_findFar_110 ⟨fr, (by intro b hb9; rw [show b = b676 from Option.some.inj (hb9.symm.trans hF676)]; exact bf_fa h39)⟩
            · --
              refine lv_iconst (v := 0) hx hb dX11_findFar_46 (by decide) ?_
              refine lv_istore (lv' := [(9, .int 0), (0, .ref a0), (1, .int a1), (2, .long a2), (4, .long j39_4), (6, .long j39_6), (8, .int j39_8)]) hx hb dX11_findFar_47 hl (by decide) rfl (fun ls hl => ?_)
              have frE_49 := fr
              have J_49 : ∀ n49 : Nat, ∀ (j49_9 : Int32) (ij49_9 : Iv j49_9 0 64), ∀ (σ_49 : oSt) (H : Heap) (locs : List Loc), oI A L τ cy D s.heap σ_49 H locs → oFr τ fs_X11_findFar ts_X11_findFar σ σ_49 → (64 - j49_9.toInt).toNat < n49 → (bg (σ_49.2.2.1 b676) j39_8 j39_4 j39_6 (j49_9 : Int32).toNatClampNeg) → ∀ (ls : Array Slot), lv_has ls 10 [(0, .ref a0), (1, .int a1), (2, .long a2), (4, .long j39_4), (6, .long j39_6), (8, .int j39_8), (9, .int j49_9)] → W p l e ({ frames := 1, cells := 0, slots := 0, locals := 22 } : Room) s m args below meth c H locs 0 0 Q (F0 m 49 ls []) := by
                intro n49
                induction n49 with
                | zero => intro j49_9 ij49_9 σ_49 H locs hw fr   hn_49 h49  ls hl; exact absurd hn_49 (Nat.not_lt_zero _)
                | succ n49 ih_49 =>
                  intro j49_9 ij49_9 σ_49 H locs hw fr   hn_49 h49  ls hl
                  have fr_49 := fr
                  refine lv_iload hx hb dX11_findFar_49 (lv_at hl 6 rfl) ?_
                  refine lv_bipush (v := 64) hx hb dX11_findFar_51 (by decide) ?_
                  refine lv_icmp_ge (tgt := 81) hx hb dX11_findFar_53 (by decide) (fun c8 => ?_) (fun c8 => ?_)
                  · --
                    have i9 : Iv j49_9 64 64 := iv_le2 c8 (⟨by decide, by decide⟩ : Iv 64 64 64) ij49_9 (by decide)
                    refine lv_lload hx hb dX11_findFar_81 (lv_at hl 4 rfl) ?_
                    refine lv_lload hx hb dX11_findFar_83 (lv_at hl 3 rfl) ?_
                    refine lv_lor hx hb dX11_findFar_85 ?_
                    refine lv_topl (fun v10 e10 => ?_)
                    refine lv_lstore (lv' := [(6, .long v10), (0, .ref a0), (1, .int a1), (2, .long a2), (4, .long j39_4), (8, .int j39_8), (9, .int j49_9)]) hx hb dX11_findFar_86 hl (by decide) rfl (fun ls hl => ?_)
                    refine lv_lload hx hb dX11_findFar_88 (lv_at hl 4 rfl) ?_
                    refine o_cl hw (oRunS cx hA hw q_X11_besides k_m_X11_309 (As := [.long j39_4]) (c_X11_besides j39_4) (by decide) rfl hl.1 rfl (Nat.le_of_ble_eq_true rfl) dX11_findFar_90 (by decide)) (fun v12 σ11 H locs hp hw => ?_)
                    obtain ⟨p12_0, p12_1⟩ := hp
                    rw [p12_0] at hw
                    refine lv_lload_n hx hb dX11_findFar_93 rfl (lv_at hl 3 rfl) ?_
                    refine lv_land hx hb dX11_findFar_94 ?_
                    refine lv_topl (fun v13 e13 => ?_)
                    refine lv_lload hx hb dX11_findFar_95 (lv_at hl 0 rfl) ?_
                    refine lv_ldc2 (v := (-1)) hx hb hown (hts _ k_k_X11_327) dX11_findFar_97 ?_
                    refine lv_lxor hx hb dX11_findFar_100 ?_
                    refine lv_topl (fun v14 e14 => ?_)
                    refine lv_land hx hb dX11_findFar_101 ?_
                    refine lv_topl (fun v15 e15 => ?_)
                    refine lv_lstore (lv' := [(4, .long v15), (6, .long v10), (0, .ref a0), (1, .int a1), (2, .long a2), (8, .int j39_8), (9, .int j49_9)]) hx hb dX11_findFar_102 hl (by decide) rfl (fun ls hl => ?_)
                    obtain ⟨v16, e16⟩ : ∃ y : Int32, y = j39_8 + 1 := ⟨_, rfl⟩
                    refine lv_iinc (v := v16) (lv' := [(8, .int v16), (4, .long v15), (6, .long v10), (0, .ref a0), (1, .int a1), (2, .long a2), (9, .int j49_9)]) hx hb dX11_findFar_104 hl (k := 5) rfl (by rw [e16]; rfl) (by decide) rfl (fun ls hl => ?_)
                    refine lv_goto (tgt := 39) hx hb dX11_findFar_107 (by decide) ?_
                    exact ih_39 v15 v10 v16 σ_49 _ _ hw fr (by have := lg_seen (lg_ne e5 c6) hs e10; have := lgN_lt v10; omega) (lg_new e14 e15) (bg_end hs (lg_ne e5 c6) (by have z := iv_nat i9 (by decide); rw [show 64 = (j49_9 : Int32).toNatClampNeg from (by omega)]; exact h49) e10 e16 p12_1 e13 e15) _ (lv_sub hl [3, 4, 5, 1, 2, 0] rfl)
                  · --
                    have i17 : Iv j49_9 0 63 := iv_lt1 (iv_nle c8) ij49_9 (⟨by decide, by decide⟩ : Iv 64 64 64) (by decide)
                    refine lv_lload hx hb dX11_findFar_56 (lv_at hl 3 rfl) ?_
                    refine lv_iload hx hb dX11_findFar_58 (lv_at hl 6 rfl) ?_
                    refine o_ci hw (oRunS cx hA hw q_X11_has k_m_X11_215 (As := [.long j39_4, .int j49_9]) (c_X11_has j39_4 j49_9) (by decide) rfl hl.1 rfl (Nat.le_of_ble_eq_true rfl) dX11_findFar_60 (by decide)) (fun v19 σ18 H locs hp hw => ?_)
                    obtain ⟨p19_0, p19_1, p19_2⟩ := hp
                    rw [p19_0] at hw
                    refine lv_if_eq (tgt := 75) hx hb dX11_findFar_63 (by decide) (fun c20 => ?_) (fun c20 => ?_)
                    · --
                      have i21 : Iv v19 0 0 := iv_eq1 c20 p19_1 (⟨by decide, by decide⟩ : Iv 0 0 0) (by decide)
                      obtain ⟨v22, e22⟩ : ∃ y : Int32, y = j49_9 + 1 := ⟨_, rfl⟩
                      have i22 : Iv v22 1 64 := iv_add e22 i17 (⟨by decide, by decide⟩ : Iv 1 1 1) (by decide)
                      have x22 : v22.toInt = j49_9.toInt + 1 := ex_add e22 i17 (⟨by decide, by decide⟩ : Iv 1 1 1) (by decide)
                      refine lv_iinc (v := v22) (lv' := [(9, .int v22), (0, .ref a0), (1, .int a1), (2, .long a2), (4, .long j39_4), (6, .long j39_6), (8, .int j39_8)]) hx hb dX11_findFar_75 hl (k := 6) rfl (by rw [e22]; rfl) (by decide) rfl (fun ls hl => ?_)
                      refine lv_goto (tgt := 49) hx hb dX11_findFar_78 (by decide) ?_
                      exact ih_49 v22 (iv_w i22 (by decide)) σ_49 _ _ hw fr (ms_up x22 (by decide) (iv_w (a' := 0) (b' := 64) i22 (by decide)).2 hn_49) (by rw [(cl_succ i17 (by decide) (by decide) x22)]; exact bg_skip h49 (Bool.eq_false_iff.mpr (fun q => (p19_2 (iv_w i17 (by decide))).mpr q c20))) _ (lv_sub hl [1, 2, 3, 4, 5, 6, 0] rfl)
                    · --
                      have i23 : Iv v19 1 1 := iv_ne1 c20 p19_1 (⟨by decide, by decide⟩ : Iv 0 0 0) (by decide)
                      refine lv_aload_n hx hb dX11_findFar_66 rfl (lv_at hl 0 rfl) ?_
                      refine g_676 cx hw ha0 k_f_X11_64 dX11_findFar_67 (fun v24 e24 h24 => ?_)
                      rw [show v24 = b676 from Option.some.inj (e24.symm.trans (((kr_c fr_49 (by decide)).trans hF676)))]
                      refine lv_iload hx hb dX11_findFar_70 (lv_at hl 6 rfl) ?_
                      refine lv_iload hx hb dX11_findFar_72 (lv_at hl 5 rfl) ?_
                      refine o_iast cx hw hb676 (by decide) rfl (iv_in i17 (by decide)) trivial dX11_findFar_74 (fun σ25 H locs eσ25 hw => ?_)
                      have fr := oFr_p fr eσ25 hb676 (by decide)
                      obtain ⟨v26, e26⟩ : ∃ y : Int32, y = j49_9 + 1 := ⟨_, rfl⟩
                      have i26 : Iv v26 1 64 := iv_add e26 i17 (⟨by decide, by decide⟩ : Iv 1 1 1) (by decide)
                      have x26 : v26.toInt = j49_9.toInt + 1 := ex_add e26 i17 (⟨by decide, by decide⟩ : Iv 1 1 1) (by decide)
                      refine lv_iinc (v := v26) (lv' := [(9, .int v26), (0, .ref a0), (1, .int a1), (2, .long a2), (4, .long j39_4), (6, .long j39_6), (8, .int j39_8)]) hx hb dX11_findFar_75 hl (k := 6) rfl (by rw [e26]; rfl) (by decide) rfl (fun ls hl => ?_)
                      refine lv_goto (tgt := 49) hx hb dX11_findFar_78 (by decide) ?_
                      exact ih_49 v26 (iv_w i26 (by decide)) σ25 _ _ hw fr (ms_up x26 (by decide) (iv_w (a' := 0) (b' := 64) i26 (by decide)).2 hn_49) (by rw [(cl_succ i17 (by decide) (by decide) x26), rw_s eσ25]; exact bg_set hs h49 (by have z := iv_nat i17 (by decide); omega) ((p19_2 (iv_w i17 (by decide))).mp c20)) _ (lv_sub hl [1, 2, 3, 4, 5, 6, 0] rfl)
              exact J_49 _ 0 (iv_w (⟨by decide, by decide⟩ : Iv 0 0 0) (by decide)) σ_39 _ _ hw fr (Nat.lt_succ_self _) (by have z : (0 : Int32).toNatClampNeg = 0 := (by decide); rw [z]; exact bg_0 h39) _ (lv_sub hl [1, 2, 3, 4, 5, 6, 0] rfl)
        exact J_39 _ v4 0 0 σ_3 _ _ hw fr (Nat.lt_succ_self _) (lg_zero_and _) (bf_0 (fun c hc => h3 c hc (by have := (i2).1; have := (i2).2; have : (64 : Int32).toInt ≤ (j3_4 : Int32).toInt := iv_le.mp c1; have : (0 : Int32).toInt = 0 := (by decide); have : (64 : Int32).toInt = 64 := (by decide); omega))) _ (lv_sub hl [3, 4, 5, 2, 1, 0] rfl)
      · --
        have i27 : Iv j3_4 0 63 := iv_lt1 (iv_nle c1) ij3_4 (⟨by decide, by decide⟩ : Iv 64 64 64) (by decide)
        refine lv_aload_n hx hb dX11_findFar_10 rfl (lv_at hl 0 rfl) ?_
        refine g_676 cx hw ha0 k_f_X11_64 dX11_findFar_11 (fun v28 e28 h28 => ?_)
        rw [show v28 = b676 from Option.some.inj (e28.symm.trans (((kr_c fr_3 (by decide)).trans hF676)))]
        refine lv_iload hx hb dX11_findFar_14 (lv_at hl 3 rfl) ?_
        refine lv_ldcw (v := 100000000) hx hb hown (hts _ k_k_X11_329) dX11_findFar_16 ?_
        refine o_iast cx hw hb676 (by decide) rfl (iv_in i27 (by decide)) trivial dX11_findFar_19 (fun σ29 H locs eσ29 hw => ?_)
        have fr := oFr_p fr eσ29 hb676 (by decide)
        obtain ⟨v30, e30⟩ : ∃ y : Int32, y = j3_4 + 1 := ⟨_, rfl⟩
        have i30 : Iv v30 1 64 := iv_add e30 i27 (⟨by decide, by decide⟩ : Iv 1 1 1) (by decide)
        have x30 : v30.toInt = j3_4.toInt + 1 := ex_add e30 i27 (⟨by decide, by decide⟩ : Iv 1 1 1) (by decide)
        refine lv_iinc (v := v30) (lv' := [(4, .int v30), (0, .ref a0), (1, .int a1), (2, .long a2)]) hx hb dX11_findFar_20 hl (k := 3) rfl (by rw [e30]; rfl) (by decide) rfl (fun ls hl => ?_)
        refine lv_goto (tgt := 3) hx hb dX11_findFar_23 (by decide) ?_
        exact ih_3 v30 (iv_w i30 (by decide)) σ29 _ _ hw fr (ms_up x30 (by decide) (iv_w (a' := 0) (b' := 64) i30 (by decide)).2 hn_3) (by rw [rw_s eσ29]; exact fill_s h3 i27 x30) _ (lv_sub hl [1, 2, 3, 0] rfl)
  exact J_3 _ 0 (iv_w (⟨by decide, by decide⟩ : Iv 0 0 0) (by decide)) σ _ _ hw fr (Nat.lt_succ_self _) (fun c _ q => absurd q (by have : (0 : Int32).toInt = 0 := (by decide); omega)) _ (lv_sub hl [1, 2, 3, 0] rfl)
set_option maxHeartbeats 4000000 in
set_option maxRecDepth 100000 in
theorem c_X11_pieceOfAll (a0 : Nat) (ha0 : oA L τ a0 10) (a1 : Nat) (ha1 : oA L τ a1 48) : oMet l A L τ cy D K yX11_pieceOfAll cX11_pieceOfAll 5 (some .long) 3 67 [.ref a0, .ref a1] σ (va_Ql (fun r σ1 => σ1 = σ) (oPo A L τ cy D) A) := by
  refine oMk (by decide) (Nat.le_of_ble_eq_true rfl) rfl ?_
  intro p e s m args below meth c ls cx rx hA hw hl
  generalize hQ : MQ below _ args s 0 0 A = Q
  have hx := cx.1.1
  have hb := cx.1.2.1
  have hml := cx.1.2.2.1
  have hown := cx.1.2.2.2.1
  have hts := cx.1.2.2.2.2
  have hl : lv_has ls 5 [(0, .ref a0), (1, .ref a1)] := hl
  refine lv_aload_n hx hb dX11_pieceOfAll_0 rfl (lv_at hl 0 rfl) ?_
  refine g_647 cx hw ha0 k_f_X11_105 dX11_pieceOfAll_1 (fun v1 e1 i1 => ?_)
  refine lv_if_ne (tgt := 9) hx hb dX11_pieceOfAll_4 (by decide) (fun c2 => ?_) (fun c2 => ?_)
  · --
    have i3 : Iv v1 1 6 := iv_ne1 c2 i1 (⟨by decide, by decide⟩ : Iv 0 0 0) (by decide)
    refine lv_lconst (v := 1) hx hb dX11_pieceOfAll_9 (by decide) ?_
    refine lv_aload_n hx hb dX11_pieceOfAll_10 rfl (lv_at hl 1 rfl) ?_
    refine lv_sipush (v := 320) hx hb dX11_pieceOfAll_11 (by decide) ?_
    refine o_iald cx hw ha1 (by decide) rfl (iv_in (⟨by decide, by decide⟩ : Iv 320 320 320) (by decide)) dX11_pieceOfAll_14 (fun v4 e4 b4 => ?_)
    have i4 : Iv v4 0 63 := rb_now b4 (⟨by decide, by decide⟩ : Iv 320 320 320) (by decide)
    refine lv_lshl hx hb dX11_pieceOfAll_15 rfl ?_
    refine lv_topl (fun v5 e5 => ?_)
    refine lv_aload_n hx hb dX11_pieceOfAll_16 rfl (lv_at hl 0 rfl) ?_
    refine lv_aload_n hx hb dX11_pieceOfAll_17 rfl (lv_at hl 1 rfl) ?_
    refine o_cl hw (oRunV cx hA hw q_X11_roadOf k_m_X11_313 rfl ha0 (by decide) (As := [.ref a1]) (c_X11_roadOf a0 ha0 a1 ha1) (by decide) rfl hl.1 rfl (Nat.le_of_ble_eq_true rfl) dX11_pieceOfAll_18 (by decide)) (fun v7 σ6 H locs hp hw => ?_)
    have p7_0 := hp
    rw [p7_0] at hw
    refine o_cl hw (oRunS cx hA hw q_X11_spread k_m_X11_317 (As := [.long v5, .long v7]) (c_X11_spread v5 v7) (by decide) rfl hl.1 rfl (Nat.le_of_ble_eq_true rfl) dX11_pieceOfAll_21 (by decide)) (fun v9 σ8 H locs hp hw => ?_)
    obtain ⟨p9_0, p9_1⟩ := hp
    rw [p9_0] at hw
    refine lv_lstore_n (lv' := [(2, .long v9), (0, .ref a0), (1, .ref a1)]) hx hb dX11_pieceOfAll_24 rfl hl (by decide) rfl (fun ls hl => ?_)
    refine lv_iconst (v := 0) hx hb dX11_pieceOfAll_25 (by decide) ?_
    refine lv_istore (lv' := [(4, .int 0), (2, .long v9), (0, .ref a0), (1, .ref a1)]) hx hb dX11_pieceOfAll_26 hl (by decide) rfl (fun ls hl => ?_)
    have J_28 : ∀ n28 : Nat, ∀ (j28_4 : Int32) (ij28_4 : Iv j28_4 0 6), ∀ (H : Heap) (locs : List Loc), oI A L τ cy D s.heap σ H locs → (6 - j28_4.toInt).toNat < n28 → ∀ (ls : Array Slot), lv_has ls 5 [(0, .ref a0), (1, .ref a1), (2, .long v9), (4, .int j28_4)] → W p l e ({ frames := 3, cells := 0, slots := 0, locals := 67 } : Room) s m args below meth c H locs 0 0 Q (F0 m 28 ls []) := by
      intro n28
      induction n28 with
      | zero => intro j28_4 ij28_4 H locs hw  hn_28   ls hl; exact absurd hn_28 (Nat.not_lt_zero _)
      | succ n28 ih_28 =>
        intro j28_4 ij28_4 H locs hw  hn_28   ls hl
        refine lv_iload hx hb dX11_pieceOfAll_28 (lv_at hl 3 rfl) ?_
        refine lv_aload_n hx hb dX11_pieceOfAll_30 rfl (lv_at hl 0 rfl) ?_
        refine g_647 cx hw ha0 k_f_X11_105 dX11_pieceOfAll_31 (fun v10 e10 i10 => ?_)
        rw [show v10 = v1 from e10.trans e1.symm]
        refine lv_icmp_ge (tgt := 60) hx hb dX11_pieceOfAll_34 (by decide) (fun c11 => ?_) (fun c11 => ?_)
        · --
          have i12 : Iv j28_4 1 6 := iv_le2 c11 i3 ij28_4 (by decide)
          refine lv_lload_n hx hb dX11_pieceOfAll_60 rfl (lv_at hl 2 rfl) ?_
          rw [← hQ]
          exact o_rl cx rx hw dX11_pieceOfAll_61 rfl
        · --
          have i13 : Iv j28_4 0 5 := iv_lt1 (iv_nle c11) ij28_4 i3 (by decide)
          refine lv_lload_n hx hb dX11_pieceOfAll_37 rfl (lv_at hl 2 rfl) ?_
          refine lv_aload_n hx hb dX11_pieceOfAll_38 rfl (lv_at hl 1 rfl) ?_
          refine lv_sipush (v := 320) hx hb dX11_pieceOfAll_39 (by decide) ?_
          refine lv_iload hx hb dX11_pieceOfAll_42 (lv_at hl 3 rfl) ?_
          refine lv_iadd hx hb dX11_pieceOfAll_44 ?_
          refine lv_topi (fun v14 e14 => ?_)
          have i14 : Iv v14 320 325 := iv_add e14 (⟨by decide, by decide⟩ : Iv 320 320 320) i13 (by decide)
          have x14 : v14.toInt = j28_4.toInt + 320 := (ex_add e14 (⟨by decide, by decide⟩ : Iv 320 320 320) i13 (by decide)).trans (Int.add_comm _ _)
          refine o_iald cx hw ha1 (by decide) rfl (iv_in i14 (by decide)) dX11_pieceOfAll_45 (fun v15 e15 b15 => ?_)
          have i15 : Iv v15 0 63 := rb_now b15 i14 (by decide)
          refine o_ci hw (oRunS cx hA hw q_X11_has k_m_X11_215 (As := [.long v9, .int v15]) (c_X11_has v9 v15) (by decide) rfl hl.1 rfl (Nat.le_of_ble_eq_true rfl) dX11_pieceOfAll_46 (by decide)) (fun v17 σ16 H locs hp hw => ?_)
          obtain ⟨p17_0, p17_1, p17_2⟩ := hp
          rw [p17_0] at hw
          refine lv_if_ne (tgt := 54) hx hb dX11_pieceOfAll_49 (by decide) (fun c18 => ?_) (fun c18 => ?_)
          · --
            have i19 : Iv v17 1 1 := iv_ne1 c18 p17_1 (⟨by decide, by decide⟩ : Iv 0 0 0) (by decide)
            obtain ⟨v20, e20⟩ : ∃ y : Int32, y = j28_4 + 1 := ⟨_, rfl⟩
            have i20 : Iv v20 1 6 := iv_add e20 i13 (⟨by decide, by decide⟩ : Iv 1 1 1) (by decide)
            have x20 : v20.toInt = j28_4.toInt + 1 := ex_add e20 i13 (⟨by decide, by decide⟩ : Iv 1 1 1) (by decide)
            refine lv_iinc (v := v20) (lv' := [(4, .int v20), (0, .ref a0), (1, .ref a1), (2, .long v9)]) hx hb dX11_pieceOfAll_54 hl (k := 3) rfl (by rw [e20]; rfl) (by decide) rfl (fun ls hl => ?_)
            refine lv_goto (tgt := 28) hx hb dX11_pieceOfAll_57 (by decide) ?_
            exact ih_28 v20 (iv_w i20 (by decide)) _ _ hw (ms_up x20 (by decide) (iv_w (a' := 0) (b' := 6) i20 (by decide)).2 hn_28) _ (lv_sub hl [1, 2, 3, 0] rfl)
          · --
            have i21 : Iv v17 0 0 := iv_eq1 c18 p17_1 (⟨by decide, by decide⟩ : Iv 0 0 0) (by decide)
            refine lv_lconst (v := 0) hx hb dX11_pieceOfAll_52 (by decide) ?_
            rw [← hQ]
            exact o_rl cx rx hw dX11_pieceOfAll_53 rfl
    exact J_28 _ 0 (iv_w (⟨by decide, by decide⟩ : Iv 0 0 0) (by decide)) _ _ hw (Nat.lt_succ_self _) _ (lv_sub hl [2, 3, 1, 0] rfl)
  · --
    have i22 : Iv v1 0 0 := iv_eq1 c2 i1 (⟨by decide, by decide⟩ : Iv 0 0 0) (by decide)
    refine lv_lconst (v := 0) hx hb dX11_pieceOfAll_7 (by decide) ?_
    rw [← hQ]
    exact o_rl cx rx hw dX11_pieceOfAll_8 rfl
set_option maxHeartbeats 4000000 in
set_option maxRecDepth 100000 in
theorem c_X11_isLook (a0 : Int32) : oMet l A L τ cy D K yX11_isLook cX11_isLook 1 (some .boolean) 1 22 [.int a0] σ (va_Qi (fun r σ1 => σ1 = σ ∧ Iv r 0 1) (oPo A L τ cy D) A) := by
  refine oMk (by decide) (Nat.le_of_ble_eq_true rfl) rfl ?_
  intro p e s m args below meth c ls cx rx hA hw hl
  generalize hQ : MQ below _ args s 0 0 A = Q
  have hx := cx.1.1
  have hb := cx.1.2.1
  have hml := cx.1.2.2.1
  have hown := cx.1.2.2.2.1
  have hts := cx.1.2.2.2.2
  have hl : lv_has ls 1 [(0, .int a0)] := hl
  refine lv_iload_n hx hb dX11_isLook_0 rfl (lv_at hl 0 rfl) ?_
  refine lv_iconst (v := 0) hx hb dX11_isLook_1 (by decide) ?_
  refine lv_bipush (v := 100) hx hb dX11_isLook_2 (by decide) ?_
  refine o_ci hw (oRunS cx hA hw q_X11_in k_m_X11_95 (As := [.int a0, .int 0, .int 100]) (c_X11_in a0 0 100) (by decide) rfl hl.1 rfl (Nat.le_of_ble_eq_true rfl) dX11_isLook_4 (by decide)) (fun v2 σ1 H locs hp hw => ?_)
  obtain ⟨p2_0, p2_1, p2_2, p2_3, p2_4, p2_5⟩ := hp
  rw [p2_0] at hw
  rw [← hQ]
  exact o_rz cx rx hw (iv_nz01 (iv_w p2_1 (by decide))) dX11_isLook_7 ⟨rfl, (iv_w p2_1 (by decide))⟩
abbrev fs_X11_goThen : List Nat := [659, 660, 661, 662, 663, 669]
abbrev ts_X11_goThen : List Nat := [48, 55]
set_option maxHeartbeats 4000000 in
set_option maxRecDepth 100000 in
theorem c_X11_goThen (a0 : Nat) (ha0 : oA L τ a0 10) (a1 : Int32) : oMet l A L τ cy D K yX11_goThen cX11_goThen 3 none 341 8573 [.ref a0, .int a1] σ (va_Qv (fun σ1 => oFr τ fs_X11_goThen ts_X11_goThen σ σ1) (oPo A L τ cy D) A) := by
  refine oMk (by decide) (Nat.le_of_ble_eq_true rfl) rfl ?_
  intro p e s m args below meth c ls cx rx hA hw hl
  generalize hQ : MQ below _ args s 0 0 A = Q
  have hx := cx.1.1
  have hb := cx.1.2.1
  have hml := cx.1.2.2.1
  have hown := cx.1.2.2.2.1
  have hts := cx.1.2.2.2.2
  have hl : lv_has ls 3 [(0, .ref a0), (1, .int a1)] := hl
  have fr : oFr τ fs_X11_goThen ts_X11_goThen σ σ := oFr_rf
  refine lv_aload_n hx hb dX11_goThen_0 rfl (lv_at hl 0 rfl) ?_
  refine g_640 cx hw ha0 k_f_X11_9 dX11_goThen_1 (fun v1 e1 h1 => ?_)
  refine lv_aload_n hx hb dX11_goThen_4 rfl (lv_at hl 0 rfl) ?_
  refine g_677 cx hw ha0 k_f_X11_67 dX11_goThen_5 (fun v2 e2 h2 => ?_)
  refine lv_iconst (v := 0) hx hb dX11_goThen_8 (by decide) ?_
  refine o_cv hw (oRunS cx hA hw q_X11_lay k_m_X11_251 (As := [.ref v1, .ref v2, .int 0]) (c_X11_layN v1 h1 v2 h2 0 (iv_w (⟨by decide, by decide⟩ : Iv 0 0 0) (by decide))) (by decide) rfl hl.1 rfl (Nat.le_of_ble_eq_true rfl) dX11_goThen_9 (by decide)) (fun σ3 H locs hp hw => ?_)
  have p4_0 := hp
  have fr := oFr_tr fr p4_0 (by decide)
  refine lv_iconst (v := 0) hx hb dX11_goThen_12 (by decide) ?_
  refine lv_istore_n (lv' := [(2, .int 0), (0, .ref a0), (1, .int a1)]) hx hb dX11_goThen_13 rfl hl (by decide) rfl (fun ls hl => ?_)
  have frE_14 := fr
  have J_14 : ∀ n14 : Nat, ∀ (j14_2 : Int32) (ij14_2 : Iv j14_2 0 2147483647), ∀ (σ_14 : oSt) (H : Heap) (locs : List Loc), oI A L τ cy D s.heap σ_14 H locs → oFr τ fs_X11_goThen ts_X11_goThen σ σ_14 → (2147483647 - j14_2.toInt).toNat < n14 → ∀ (ls : Array Slot), lv_has ls 3 [(0, .ref a0), (1, .int a1), (2, .int j14_2)] → W p l e ({ frames := 341, cells := 0, slots := 0, locals := 8573 } : Room) s m args below meth c H locs 0 0 Q (F0 m 14 ls []) := by
    intro n14
    induction n14 with
    | zero => intro j14_2 ij14_2 σ_14 H locs hw fr   hn_14   ls hl; exact absurd hn_14 (Nat.not_lt_zero _)
    | succ n14 ih_14 =>
      intro j14_2 ij14_2 σ_14 H locs hw fr   hn_14   ls hl
      have fr_14 := fr
      refine lv_iload_n hx hb dX11_goThen_14 rfl (lv_at hl 2 rfl) ?_
      refine lv_iload_n hx hb dX11_goThen_15 rfl (lv_at hl 1 rfl) ?_
      refine lv_icmp_ge (tgt := 34) hx hb dX11_goThen_16 (by decide) (fun c5 => ?_) (fun c5 => ?_)
      · --
        rw [← hQ]
        exact o_rv cx rx hw dX11_goThen_34 fr
      · --
        have i6 : Iv j14_2 0 2147483646 := iv_lt1 (iv_nle c5) ij14_2 (iv_top a1) (by decide)
        have i7 : Iv a1 1 2147483647 := iv_lt2 (iv_nle c5) ij14_2 (iv_top a1) (by decide)
        refine lv_aload_n hx hb dX11_goThen_19 rfl (lv_at hl 0 rfl) ?_
        refine lv_aload_n hx hb dX11_goThen_20 rfl (lv_at hl 0 rfl) ?_
        refine g_677 cx hw ha0 k_f_X11_67 dX11_goThen_21 (fun v8 e8 h8 => ?_)
        rw [show v8 = v2 from Option.some.inj (e8.symm.trans (((kr_c fr_14 (by decide)).trans ((kr_c frE_14 (by decide)).symm.trans (((kr_c p4_0 (by decide)).trans e2))))))]
        refine o_ci hw (oRunV cx hA hw q_X11_goHour k_m_X11_285 rfl ha0 (by decide) (As := [.ref v2]) (c_X11_goHour a0 ha0 v2 h2) (by decide) rfl hl.1 rfl (Nat.le_of_ble_eq_true rfl) dX11_goThen_24 (by decide)) (fun v10 σ9 H locs hp hw => ?_)
        have p10_0 := hp
        have fr := oFr_tr fr p10_0 (by decide)
        refine lv_pop hx hb dX11_goThen_27 rfl ?_
        obtain ⟨v11, e11⟩ : ∃ y : Int32, y = j14_2 + 1 := ⟨_, rfl⟩
        have i11 : Iv v11 1 2147483647 := iv_add e11 i6 (⟨by decide, by decide⟩ : Iv 1 1 1) (by decide)
        have x11 : v11.toInt = j14_2.toInt + 1 := ex_add e11 i6 (⟨by decide, by decide⟩ : Iv 1 1 1) (by decide)
        refine lv_iinc (v := v11) (lv' := [(2, .int v11), (0, .ref a0), (1, .int a1)]) hx hb dX11_goThen_28 hl (k := 2) rfl (by rw [e11]; rfl) (by decide) rfl (fun ls hl => ?_)
        refine lv_goto (tgt := 14) hx hb dX11_goThen_31 (by decide) ?_
        exact ih_14 v11 (iv_w i11 (by decide)) σ9 _ _ hw fr (ms_up x11 (by decide) (iv_w (a' := 0) (b' := 2147483647) i11 (by decide)).2 hn_14) _ (lv_sub hl [1, 2, 0] rfl)
  exact J_14 _ 0 (iv_w (⟨by decide, by decide⟩ : Iv 0 0 0) (by decide)) σ3 _ _ hw fr (Nat.lt_succ_self _) _ (lv_sub hl [1, 2, 0] rfl)
abbrev fs_X11_comesBy : List Nat := [659, 660, 661, 662, 663, 669]
abbrev ts_X11_comesBy : List Nat := [48, 55]
set_option maxHeartbeats 4000000 in
set_option maxRecDepth 100000 in
theorem c_X11_comesBy (a0 : Nat) (ha0 : oA L τ a0 10) (a1 : Int32) (a2 : Int32) : oMet l A L τ cy D K yX11_comesBy cX11_comesBy 4 (some .boolean) 341 8573 [.ref a0, .int a1, .int a2] σ (va_Qi (fun r σ1 => oFr τ fs_X11_comesBy ts_X11_comesBy σ σ1 ∧ Iv r 0 1) (oPo A L τ cy D) A) := by
  refine oMk (by decide) (Nat.le_of_ble_eq_true rfl) rfl ?_
  intro p e s m args below meth c ls cx rx hA hw hl
  generalize hQ : MQ below _ args s 0 0 A = Q
  have hx := cx.1.1
  have hb := cx.1.2.1
  have hml := cx.1.2.2.1
  have hown := cx.1.2.2.2.1
  have hts := cx.1.2.2.2.2
  have hl : lv_has ls 4 [(0, .ref a0), (1, .int a1), (2, .int a2)] := hl
  have fr : oFr τ fs_X11_comesBy ts_X11_comesBy σ σ := oFr_rf
  refine lv_iconst (v := 0) hx hb dX11_comesBy_0 (by decide) ?_
  refine lv_istore_n (lv' := [(3, .int 0), (0, .ref a0), (1, .int a1), (2, .int a2)]) hx hb dX11_comesBy_1 rfl hl (by decide) rfl (fun ls hl => ?_)
  have frE_2 := fr
  have J_2 : ∀ n2 : Nat, ∀ (j2_3 : Int32) (ij2_3 : Iv j2_3 0 2147483647), ∀ (σ_2 : oSt) (H : Heap) (locs : List Loc), oI A L τ cy D s.heap σ_2 H locs → oFr τ fs_X11_comesBy ts_X11_comesBy σ σ_2 → (2147483647 - j2_3.toInt).toNat < n2 → ∀ (ls : Array Slot), lv_has ls 4 [(0, .ref a0), (1, .int a1), (2, .int a2), (3, .int j2_3)] → W p l e ({ frames := 341, cells := 0, slots := 0, locals := 8573 } : Room) s m args below meth c H locs 0 0 Q (F0 m 2 ls []) := by
    intro n2
    induction n2 with
    | zero => intro j2_3 ij2_3 σ_2 H locs hw fr   hn_2   ls hl; exact absurd hn_2 (Nat.not_lt_zero _)
    | succ n2 ih_2 =>
      intro j2_3 ij2_3 σ_2 H locs hw fr   hn_2   ls hl
      have fr_2 := fr
      refine lv_iload_n hx hb dX11_comesBy_2 rfl (lv_at hl 3 rfl) ?_
      refine lv_iload_n hx hb dX11_comesBy_3 rfl (lv_at hl 2 rfl) ?_
      refine lv_icmp_ge (tgt := 36) hx hb dX11_comesBy_4 (by decide) (fun c1 => ?_) (fun c1 => ?_)
      · --
        refine lv_iconst (v := 0) hx hb dX11_comesBy_36 (by decide) ?_
        rw [← hQ]
        exact o_rz cx rx hw (iv_nz01 (iv_w (⟨by decide, by decide⟩ : Iv 0 0 0) (by decide))) dX11_comesBy_37 ⟨fr, (iv_w (⟨by decide, by decide⟩ : Iv 0 0 0) (by decide))⟩
      · --
        have i2 : Iv j2_3 0 2147483646 := iv_lt1 (iv_nle c1) ij2_3 (iv_top a2) (by decide)
        have i3 : Iv a2 1 2147483647 := iv_lt2 (iv_nle c1) ij2_3 (iv_top a2) (by decide)
        refine lv_aload_n hx hb dX11_comesBy_7 rfl (lv_at hl 0 rfl) ?_
        refine lv_aload_n hx hb dX11_comesBy_8 rfl (lv_at hl 0 rfl) ?_
        refine g_677 cx hw ha0 k_f_X11_67 dX11_comesBy_9 (fun v4 e4 h4 => ?_)
        refine o_ci hw (oRunV cx hA hw q_X11_goHour k_m_X11_285 rfl ha0 (by decide) (As := [.ref v4]) (c_X11_goHour a0 ha0 v4 h4) (by decide) rfl hl.1 rfl (Nat.le_of_ble_eq_true rfl) dX11_comesBy_12 (by decide)) (fun v6 σ5 H locs hp hw => ?_)
        have p6_0 := hp
        have fr := oFr_tr fr p6_0 (by decide)
        refine lv_pop hx hb dX11_comesBy_15 rfl ?_
        refine lv_aload_n hx hb dX11_comesBy_16 rfl (lv_at hl 0 rfl) ?_
        refine lv_aload_n hx hb dX11_comesBy_17 rfl (lv_at hl 0 rfl) ?_
        refine g_677 cx hw ha0 k_f_X11_67 dX11_comesBy_18 (fun v7 e7 h7 => ?_)
        rw [show v7 = v4 from Option.some.inj (e7.symm.trans (((kr_c p6_0 (by decide)).trans e4)))]
        refine lv_iload_n hx hb dX11_comesBy_21 rfl (lv_at hl 1 rfl) ?_
        have i8 : Iv (σ5.1 647 a0) 0 6 := o_fb (j := 647) hw ha0 rfl
        refine o_ci hw (oRunV cx hA hw q_X11_herdsAt k_m_X11_233 rfl ha0 (by decide) (As := [.ref v4, .int a1]) (c_X11_herdsAt a0 ha0 v4 h4 a1) (by decide) rfl hl.1 rfl (Nat.le_of_ble_eq_true rfl) dX11_comesBy_22 (by decide)) (fun v10 σ9 H locs hp hw => ?_)
        obtain ⟨p10_0, p10_1, p10_2⟩ := hp
        rw [p10_0] at hw
        refine lv_if_eq (tgt := 30) hx hb dX11_comesBy_25 (by decide) (fun c11 => ?_) (fun c11 => ?_)
        · --
          have i12 : Iv v10 0 0 := iv_eq1 c11 p10_1 (⟨by decide, by decide⟩ : Iv 0 0 0) (by decide)
          obtain ⟨v13, e13⟩ : ∃ y : Int32, y = j2_3 + 1 := ⟨_, rfl⟩
          have i13 : Iv v13 1 2147483647 := iv_add e13 i2 (⟨by decide, by decide⟩ : Iv 1 1 1) (by decide)
          have x13 : v13.toInt = j2_3.toInt + 1 := ex_add e13 i2 (⟨by decide, by decide⟩ : Iv 1 1 1) (by decide)
          refine lv_iinc (v := v13) (lv' := [(3, .int v13), (0, .ref a0), (1, .int a1), (2, .int a2)]) hx hb dX11_comesBy_30 hl (k := 3) rfl (by rw [e13]; rfl) (by decide) rfl (fun ls hl => ?_)
          refine lv_goto (tgt := 2) hx hb dX11_comesBy_33 (by decide) ?_
          exact ih_2 v13 (iv_w i13 (by decide)) σ5 _ _ hw fr (ms_up x13 (by decide) (iv_w (a' := 0) (b' := 2147483647) i13 (by decide)).2 hn_2) _ (lv_sub hl [1, 2, 3, 0] rfl)
        · --
          have i14 : Iv v10 1 63 := iv_ne1 c11 p10_1 (⟨by decide, by decide⟩ : Iv 0 0 0) (by decide)
          refine lv_iconst (v := 1) hx hb dX11_comesBy_28 (by decide) ?_
          rw [← hQ]
          exact o_rz cx rx hw (iv_nz01 (iv_w (⟨by decide, by decide⟩ : Iv 1 1 1) (by decide))) dX11_comesBy_29 ⟨fr, (iv_w (⟨by decide, by decide⟩ : Iv 1 1 1) (by decide))⟩
  exact J_2 _ 0 (iv_w (⟨by decide, by decide⟩ : Iv 0 0 0) (by decide)) σ _ _ hw fr (Nat.lt_succ_self _) _ (lv_sub hl [1, 2, 3, 0] rfl)
abbrev fs_X11_isHedged : List Nat := [659, 660, 661, 662, 663, 669]
abbrev ts_X11_isHedged : List Nat := [48, 55]
set_option maxHeartbeats 4000000 in
set_option maxRecDepth 100000 in
theorem c_X11_isHedged (a0 : Nat) (ha0 : oA L τ a0 10) (a1 : Int32) (a2 : Int32) (a3 : Int32) (ia3 : Iv a3 (-1) 63) (a4 : Int32) (ia4 : Iv a4 (-1) 63) : oMet l A L τ cy D K yX11_isHedged cX11_isHedged 5 (some .boolean) 342 8596 [.ref a0, .int a1, .int a2, .int a3, .int a4] σ (va_Qi (fun r σ1 => oFr τ fs_X11_isHedged ts_X11_isHedged σ σ1 ∧ Iv r 0 1) (oPo A L τ cy D) A) := by
  refine oMk (by decide) (Nat.le_of_ble_eq_true rfl) rfl ?_
  intro p e s m args below meth c ls cx rx hA hw hl
  generalize hQ : MQ below _ args s 0 0 A = Q
  have hx := cx.1.1
  have hb := cx.1.2.1
  have hml := cx.1.2.2.1
  have hown := cx.1.2.2.2.1
  have hts := cx.1.2.2.2.2
  have hl : lv_has ls 5 [(0, .ref a0), (1, .int a1), (2, .int a2), (3, .int a3), (4, .int a4)] := hl
  have fr : oFr τ fs_X11_isHedged ts_X11_isHedged σ σ := oFr_rf
  refine lv_aload_n hx hb dX11_isHedged_0 rfl (lv_at hl 0 rfl) ?_
  refine g_640 cx hw ha0 k_f_X11_9 dX11_isHedged_1 (fun v1 e1 h1 => ?_)
  refine lv_aload_n hx hb dX11_isHedged_4 rfl (lv_at hl 0 rfl) ?_
  refine g_677 cx hw ha0 k_f_X11_67 dX11_isHedged_5 (fun v2 e2 h2 => ?_)
  refine lv_iconst (v := 0) hx hb dX11_isHedged_8 (by decide) ?_
  refine o_cv hw (oRunS cx hA hw q_X11_lay k_m_X11_251 (As := [.ref v1, .ref v2, .int 0]) (c_X11_layN v1 h1 v2 h2 0 (iv_w (⟨by decide, by decide⟩ : Iv 0 0 0) (by decide))) (by decide) rfl hl.1 rfl (Nat.le_of_ble_eq_true rfl) dX11_isHedged_9 (by decide)) (fun σ3 H locs hp hw => ?_)
  have p4_0 := hp
  have fr := oFr_tr fr p4_0 (by decide)
  refine lv_iload_n hx hb dX11_isHedged_12 rfl (lv_at hl 3 rfl) ?_
  refine lv_iconst (v := (-1)) hx hb dX11_isHedged_13 (by decide) ?_
  have frE_29 := fr
  have J_29 : ∀ (σ_29 : oSt) (H : Heap) (locs : List Loc), oI A L τ cy D s.heap σ_29 H locs → oFr τ fs_X11_isHedged ts_X11_isHedged σ σ_29 → ∀ (ls : Array Slot), lv_has ls 5 [(0, .ref a0), (1, .int a1), (2, .int a2), (3, .int a3), (4, .int a4)] → W p l e ({ frames := 342, cells := 0, slots := 0, locals := 8596 } : Room) s m args below meth c H locs 0 0 Q (F0 m 29 ls []) := by
    intro  σ_29 H locs hw fr      ls hl
    have fr_29 := fr
    refine lv_iload hx hb dX11_isHedged_29 (lv_at hl 4 rfl) ?_
    refine lv_iconst (v := (-1)) hx hb dX11_isHedged_31 (by decide) ?_
    have frE_48 := fr
    have J_48 : ∀ (σ_48 : oSt) (H : Heap) (locs : List Loc), oI A L τ cy D s.heap σ_48 H locs → oFr τ fs_X11_isHedged ts_X11_isHedged σ σ_48 → ∀ (ls : Array Slot), lv_has ls 5 [(0, .ref a0), (1, .int a1), (2, .int a2), (3, .int a3), (4, .int a4)] → W p l e ({ frames := 342, cells := 0, slots := 0, locals := 8596 } : Room) s m args below meth c H locs 0 0 Q (F0 m 48 ls []) := by
      intro  σ_48 H locs hw fr      ls hl
      have fr_48 := fr
      refine lv_aload_n hx hb dX11_isHedged_48 rfl (lv_at hl 0 rfl) ?_
      refine lv_iload_n hx hb dX11_isHedged_49 rfl (lv_at hl 1 rfl) ?_
      refine lv_iload_n hx hb dX11_isHedged_50 rfl (lv_at hl 2 rfl) ?_
      refine o_ci hw (oRunV cx hA hw q_X11_comesBy k_m_X11_348 rfl ha0 (by decide) (As := [.int a1, .int a2]) (c_X11_comesBy a0 ha0 a1 a2) (by decide) rfl hl.1 rfl (Nat.le_of_ble_eq_true rfl) dX11_isHedged_51 (by decide)) (fun v6 σ5 H locs hp hw => ?_)
      obtain ⟨p6_0, p6_1⟩ := hp
      have fr := oFr_tr fr p6_0 (by decide)
      refine lv_if_ne (tgt := 61) hx hb dX11_isHedged_54 (by decide) (fun c7 => ?_) (fun c7 => ?_)
      · --
        have i8 : Iv v6 1 1 := iv_ne1 c7 p6_1 (⟨by decide, by decide⟩ : Iv 0 0 0) (by decide)
        refine lv_iconst (v := 0) hx hb dX11_isHedged_61 (by decide) ?_
        rw [← hQ]
        exact o_rz cx rx hw (iv_nz01 (iv_w (⟨by decide, by decide⟩ : Iv 0 0 0) (by decide))) dX11_isHedged_62 ⟨fr, (iv_w (⟨by decide, by decide⟩ : Iv 0 0 0) (by decide))⟩
      · --
        have i9 : Iv v6 0 0 := iv_eq1 c7 p6_1 (⟨by decide, by decide⟩ : Iv 0 0 0) (by decide)
        refine lv_iconst (v := 1) hx hb dX11_isHedged_57 (by decide) ?_
        refine lv_goto (tgt := 62) hx hb dX11_isHedged_58 (by decide) ?_
        rw [← hQ]
        exact o_rz cx rx hw (iv_nz01 (iv_w (⟨by decide, by decide⟩ : Iv 1 1 1) (by decide))) dX11_isHedged_62 ⟨fr, (iv_w (⟨by decide, by decide⟩ : Iv 1 1 1) (by decide))⟩
    refine lv_icmp_eq (tgt := 48) hx hb dX11_isHedged_32 (by decide) (fun c10 => ?_) (fun c10 => ?_)
    · --
      have i11 : Iv a4 (-1) (-1) := iv_eq1 c10 ia4 (⟨by decide, by decide⟩ : Iv (-1) (-1) (-1)) (by decide)
      exact J_48 σ_29 _ _ hw fr _ (lv_sub hl [0, 1, 2, 3, 4] rfl)
    · --
      have i12 : Iv a4 0 63 := iv_ne1 c10 ia4 (⟨by decide, by decide⟩ : Iv (-1) (-1) (-1)) (by decide)
      refine lv_aload_n hx hb dX11_isHedged_35 rfl (lv_at hl 0 rfl) ?_
      refine g_677 cx hw ha0 k_f_X11_67 dX11_isHedged_36 (fun v13 e13 h13 => ?_)
      rw [show v13 = v2 from Option.some.inj (e13.symm.trans (((kr_c fr_29 (by decide)).trans ((kr_c frE_29 (by decide)).symm.trans (((kr_c p4_0 (by decide)).trans e2))))))]
      refine lv_sipush (v := 128) hx hb dX11_isHedged_39 (by decide) ?_
      refine lv_iload hx hb dX11_isHedged_42 (lv_at hl 4 rfl) ?_
      refine lv_iadd hx hb dX11_isHedged_44 ?_
      refine lv_topi (fun v14 e14 => ?_)
      have i14 : Iv v14 128 191 := iv_add e14 (⟨by decide, by decide⟩ : Iv 128 128 128) i12 (by decide)
      have x14 : v14.toInt = a4.toInt + 128 := (ex_add e14 (⟨by decide, by decide⟩ : Iv 128 128 128) i12 (by decide)).trans (Int.add_comm _ _)
      refine lv_bipush (v := 9) hx hb dX11_isHedged_45 (by decide) ?_
      refine o_iast cx hw h2 (by decide) rfl (iv_in i14 (by decide)) (fun _ _ => iv_w (⟨by decide, by decide⟩ : Iv 9 9 9) (by decide)) dX11_isHedged_47 (fun σ15 H locs eσ15 hw => ?_)
      have fr := oFr_p fr eσ15 h2 (by decide)
      exact J_48 σ15 _ _ hw fr _ (lv_sub hl [0, 1, 2, 3, 4] rfl)
  refine lv_icmp_eq (tgt := 29) hx hb dX11_isHedged_14 (by decide) (fun c16 => ?_) (fun c16 => ?_)
  · --
    have i17 : Iv a3 (-1) (-1) := iv_eq1 c16 ia3 (⟨by decide, by decide⟩ : Iv (-1) (-1) (-1)) (by decide)
    exact J_29 σ3 _ _ hw fr _ (lv_sub hl [0, 1, 2, 3, 4] rfl)
  · --
    have i18 : Iv a3 0 63 := iv_ne1 c16 ia3 (⟨by decide, by decide⟩ : Iv (-1) (-1) (-1)) (by decide)
    refine lv_aload_n hx hb dX11_isHedged_17 rfl (lv_at hl 0 rfl) ?_
    refine g_677 cx hw ha0 k_f_X11_67 dX11_isHedged_18 (fun v19 e19 h19 => ?_)
    rw [show v19 = v2 from Option.some.inj (e19.symm.trans (((kr_c p4_0 (by decide)).trans e2)))]
    refine lv_sipush (v := 128) hx hb dX11_isHedged_21 (by decide) ?_
    refine lv_iload_n hx hb dX11_isHedged_24 rfl (lv_at hl 3 rfl) ?_
    refine lv_iadd hx hb dX11_isHedged_25 ?_
    refine lv_topi (fun v20 e20 => ?_)
    have i20 : Iv v20 128 191 := iv_add e20 (⟨by decide, by decide⟩ : Iv 128 128 128) i18 (by decide)
    have x20 : v20.toInt = a3.toInt + 128 := (ex_add e20 (⟨by decide, by decide⟩ : Iv 128 128 128) i18 (by decide)).trans (Int.add_comm _ _)
    refine lv_bipush (v := 9) hx hb dX11_isHedged_26 (by decide) ?_
    refine o_iast cx hw h2 (by decide) rfl (iv_in i20 (by decide)) (fun _ _ => iv_w (⟨by decide, by decide⟩ : Iv 9 9 9) (by decide)) dX11_isHedged_28 (fun σ21 H locs eσ21 hw => ?_)
    have fr := oFr_p fr eσ21 h2 (by decide)
    exact J_29 σ21 _ _ hw fr _ (lv_sub hl [0, 1, 2, 3, 4] rfl)
set_option maxHeartbeats 4000000 in
set_option maxRecDepth 100000 in
theorem c_X11_canHedge (a0 : Nat) (ha0 : oA L τ a0 10) (a1 : Int32) : oMet l A L τ cy D K yX11_canHedge cX11_canHedge 2 (some .boolean) 2 43 [.ref a0, .int a1] σ (va_Qi (fun r σ1 => σ1 = σ ∧ Iv r 0 1 ∧ (¬ r = 0 → Iv a1 0 63)) (oPo A L τ cy D) A) := by
  refine oMk (by decide) (Nat.le_of_ble_eq_true rfl) rfl ?_
  intro p e s m args below meth c ls cx rx hA hw hl
  generalize hQ : MQ below _ args s 0 0 A = Q
  have hx := cx.1.1
  have hb := cx.1.2.1
  have hml := cx.1.2.2.1
  have hown := cx.1.2.2.2.1
  have hts := cx.1.2.2.2.2
  have hl : lv_has ls 2 [(0, .ref a0), (1, .int a1)] := hl
  refine lv_aload_n hx hb dX11_canHedge_0 rfl (lv_at hl 0 rfl) ?_
  refine lv_iload_n hx hb dX11_canHedge_1 rfl (lv_at hl 1 rfl) ?_
  have i1 : Iv (σ.1 641 a0) 0 8 := o_fb (j := 641) hw ha0 rfl
  have i2 : Iv (σ.1 642 a0) 0 8 := o_fb (j := 642) hw ha0 rfl
  refine o_ci hw (oRunV cx hA hw q_X11_isCell k_m_X11_157 rfl ha0 (by decide) (As := [.int a1]) (c_X11_isCell a0 ha0 a1) (by decide) rfl hl.1 rfl (Nat.le_of_ble_eq_true rfl) dX11_canHedge_2 (by decide)) (fun v4 σ3 H locs hp hw => ?_)
  obtain ⟨p4_0, p4_1, p4_2, p4_3⟩ := hp
  rw [p4_0] at hw
  refine lv_if_eq (tgt := 21) hx hb dX11_canHedge_5 (by decide) (fun c5 => ?_) (fun c5 => ?_)
  · --
    have i6 : Iv v4 0 0 := iv_eq1 c5 p4_1 (⟨by decide, by decide⟩ : Iv 0 0 0) (by decide)
    refine lv_iconst (v := 0) hx hb dX11_canHedge_21 (by decide) ?_
    rw [← hQ]
    exact o_rz cx rx hw (iv_nz01 (iv_w (⟨by decide, by decide⟩ : Iv 0 0 0) (by decide))) dX11_canHedge_22 ⟨rfl, (iv_w (⟨by decide, by decide⟩ : Iv 0 0 0) (by decide)), (fun h => absurd rfl h)⟩
  · --
    have i7 : Iv v4 1 1 := iv_ne1 c5 p4_1 (⟨by decide, by decide⟩ : Iv 0 0 0) (by decide)
    have i8 : Iv a1 0 63 := p4_2 c5
    refine lv_aload_n hx hb dX11_canHedge_8 rfl (lv_at hl 0 rfl) ?_
    refine g_643 cx hw ha0 k_f_X11_13 dX11_canHedge_9 (fun v9 e9 h9 => ?_)
    refine lv_iload_n hx hb dX11_canHedge_12 rfl (lv_at hl 1 rfl) ?_
    refine o_iald cx hw h9 (by decide) rfl (iv_in i8 (by decide)) dX11_canHedge_13 (fun v10 e10 b10 => ?_)
    refine lv_if_ne (tgt := 21) hx hb dX11_canHedge_14 (by decide) (fun c11 => ?_) (fun c11 => ?_)
    · --
      refine lv_iconst (v := 0) hx hb dX11_canHedge_21 (by decide) ?_
      rw [← hQ]
      exact o_rz cx rx hw (iv_nz01 (iv_w (⟨by decide, by decide⟩ : Iv 0 0 0) (by decide))) dX11_canHedge_22 ⟨rfl, (iv_w (⟨by decide, by decide⟩ : Iv 0 0 0) (by decide)), (fun h => absurd rfl h)⟩
    · --
      have i12 : Iv v10 0 0 := iv_eq1 c11 (iv_top v10) (⟨by decide, by decide⟩ : Iv 0 0 0) (by decide)
      refine lv_iconst (v := 1) hx hb dX11_canHedge_17 (by decide) ?_
      refine lv_goto (tgt := 22) hx hb dX11_canHedge_18 (by decide) ?_
      rw [← hQ]
      exact o_rz cx rx hw (iv_nz01 (iv_w (⟨by decide, by decide⟩ : Iv 1 1 1) (by decide))) dX11_canHedge_22 ⟨rfl, (iv_w (⟨by decide, by decide⟩ : Iv 1 1 1) (by decide)), (fun _ => iv_w i8 (by decide))⟩
set_option maxHeartbeats 4000000 in
set_option maxRecDepth 100000 in
theorem c_X11_sumBeside (a0 : Nat) (ha0 : oA L τ a0 10) (a1 : Nat) (ha1 : oA L τ a1 67) (a2 : Int32) (ia2 : Iv a2 0 63) : oMet l A L τ cy D K yX11_sumBeside cX11_sumBeside 6 (some .int) 2 46 [.ref a0, .ref a1, .int a2] σ (va_Qi (fun r σ1 => σ1 = σ ∧ Iv r (-2147483648) 1000000) (oPo A L τ cy D) A) := by
  refine oMk (by decide) (Nat.le_of_ble_eq_true rfl) rfl ?_
  intro p e s m args below meth c ls cx rx hA hw hl
  generalize hQ : MQ below _ args s 0 0 A = Q
  have hx := cx.1.1
  have hb := cx.1.2.1
  have hml := cx.1.2.2.1
  have hown := cx.1.2.2.2.1
  have hts := cx.1.2.2.2.2
  have hl : lv_has ls 6 [(0, .ref a0), (1, .ref a1), (2, .int a2)] := hl
  refine lv_iconst (v := 0) hx hb dX11_sumBeside_0 (by decide) ?_
  refine lv_istore_n (lv' := [(3, .int 0), (0, .ref a0), (1, .ref a1), (2, .int a2)]) hx hb dX11_sumBeside_1 rfl hl (by decide) rfl (fun ls hl => ?_)
  refine lv_iconst (v := 0) hx hb dX11_sumBeside_2 (by decide) ?_
  refine lv_istore (lv' := [(4, .int 0), (3, .int 0), (0, .ref a0), (1, .ref a1), (2, .int a2)]) hx hb dX11_sumBeside_3 hl (by decide) rfl (fun ls hl => ?_)
  have J_5 : ∀ n5 : Nat, ∀ (j5_3 : Int32) (j5_4 : Int32) (ij5_4 : Iv j5_4 0 4), ∀ (H : Heap) (locs : List Loc), oI A L τ cy D s.heap σ H locs → (4 - j5_4.toInt).toNat < n5 → ∀ (ls : Array Slot), lv_has ls 6 [(0, .ref a0), (1, .ref a1), (2, .int a2), (3, .int j5_3), (4, .int j5_4)] → W p l e ({ frames := 2, cells := 0, slots := 0, locals := 46 } : Room) s m args below meth c H locs 0 0 Q (F0 m 5 ls []) := by
    intro n5
    induction n5 with
    | zero => intro j5_3 j5_4 ij5_4 H locs hw  hn_5   ls hl; exact absurd hn_5 (Nat.not_lt_zero _)
    | succ n5 ih_5 =>
      intro j5_3 j5_4 ij5_4 H locs hw  hn_5   ls hl
      refine lv_iload hx hb dX11_sumBeside_5 (lv_at hl 4 rfl) ?_
      refine lv_iconst (v := 4) hx hb dX11_sumBeside_7 (by decide) ?_
      refine lv_icmp_ge (tgt := 43) hx hb dX11_sumBeside_8 (by decide) (fun c1 => ?_) (fun c1 => ?_)
      · --
        have i2 : Iv j5_4 4 4 := iv_le2 c1 (⟨by decide, by decide⟩ : Iv 4 4 4) ij5_4 (by decide)
        refine lv_ldcw (v := 1000000) hx hb hown (hts _ k_k_X11_359) dX11_sumBeside_43 ?_
        refine lv_iload_n hx hb dX11_sumBeside_46 rfl (lv_at hl 3 rfl) ?_
        refine va_mmin hx hb (hml.trans hl.1.symm) hown (hts _ k_m_X11_243) (hts _ k_s_J9_min_7cf53) (hts _ k_i_J9) (hts _ k_code_J9_min_7cf53) (by decide) (Nat.le_of_ble_eq_true rfl) (by decide) (by decide) dX11_sumBeside_47 ?_
        refine lv_topi (fun v3 e3 => ?_)
        have i3 : Iv v3 (-2147483648) 1000000 := iv_min e3 (⟨by decide, by decide⟩ : Iv 1000000 1000000 1000000) (iv_top j5_3) (by decide)
        rw [← hQ]
        exact o_ri cx rx hw dX11_sumBeside_50 ⟨rfl, (iv_w i3 (by decide))⟩
      · --
        have i4 : Iv j5_4 0 3 := iv_lt1 (iv_nle c1) ij5_4 (⟨by decide, by decide⟩ : Iv 4 4 4) (by decide)
        refine lv_aload_n hx hb dX11_sumBeside_11 rfl (lv_at hl 0 rfl) ?_
        refine lv_iload_n hx hb dX11_sumBeside_12 rfl (lv_at hl 2 rfl) ?_
        refine lv_iload hx hb dX11_sumBeside_13 (lv_at hl 4 rfl) ?_
        refine o_ci hw (oRunV cx hA hw q_X11_beside k_m_X11_223 rfl ha0 (by decide) (As := [.int a2, .int j5_4]) (c_X11_beside a0 ha0 a2 (iv_w ia2 (by decide)) j5_4) (by decide) rfl hl.1 rfl (Nat.le_of_ble_eq_true rfl) dX11_sumBeside_15 (by decide)) (fun v6 σ5 H locs hp hw => ?_)
        obtain ⟨p6_0, p6_1, p6_2⟩ := hp
        rw [p6_0] at hw
        refine lv_istore (lv' := [(5, .int v6), (0, .ref a0), (1, .ref a1), (2, .int a2), (3, .int j5_3), (4, .int j5_4)]) hx hb dX11_sumBeside_18 hl (by decide) rfl (fun ls hl => ?_)
        refine lv_iload_n hx hb dX11_sumBeside_20 rfl (lv_at hl 4 rfl) ?_
        refine lv_iload hx hb dX11_sumBeside_21 (lv_at hl 0 rfl) ?_
        refine lv_iconst (v := (-1)) hx hb dX11_sumBeside_23 (by decide) ?_
        have J_35 : ∀ (k35_1 : Int32), ∀ (H : Heap) (locs : List Loc), oI A L τ cy D s.heap σ H locs → ∀ (ls : Array Slot), lv_has ls 6 [(0, .ref a0), (1, .ref a1), (2, .int a2), (3, .int j5_3), (4, .int j5_4), (5, .int v6)] → W p l e ({ frames := 2, cells := 0, slots := 0, locals := 46 } : Room) s m args below meth c H locs 0 0 Q (F0 m 35 ls [.int k35_1, .int j5_3]) := by
          intro k35_1 H locs hw     ls hl
          refine lv_iadd hx hb dX11_sumBeside_35 ?_
          refine lv_topi (fun v7 e7 => ?_)
          refine lv_istore_n (lv' := [(3, .int v7), (0, .ref a0), (1, .ref a1), (2, .int a2), (4, .int j5_4), (5, .int v6)]) hx hb dX11_sumBeside_36 rfl hl (by decide) rfl (fun ls hl => ?_)
          obtain ⟨v8, e8⟩ : ∃ y : Int32, y = j5_4 + 1 := ⟨_, rfl⟩
          have i8 : Iv v8 1 4 := iv_add e8 i4 (⟨by decide, by decide⟩ : Iv 1 1 1) (by decide)
          have x8 : v8.toInt = j5_4.toInt + 1 := ex_add e8 i4 (⟨by decide, by decide⟩ : Iv 1 1 1) (by decide)
          refine lv_iinc (v := v8) (lv' := [(4, .int v8), (3, .int v7), (0, .ref a0), (1, .ref a1), (2, .int a2), (5, .int v6)]) hx hb dX11_sumBeside_37 hl (k := 4) rfl (by rw [e8]; rfl) (by decide) rfl (fun ls hl => ?_)
          refine lv_goto (tgt := 5) hx hb dX11_sumBeside_40 (by decide) ?_
          exact ih_5 v7 v8 (iv_w i8 (by decide)) _ _ hw (ms_up x8 (by decide) (iv_w (a' := 0) (b' := 4) i8 (by decide)).2 hn_5) _ (lv_sub hl [2, 3, 4, 1, 0] rfl)
        refine lv_icmp_ne (tgt := 31) hx hb dX11_sumBeside_24 (by decide) (fun c9 => ?_) (fun c9 => ?_)
        · --
          have i10 : Iv v6 0 63 := iv_ne1 c9 p6_1 (⟨by decide, by decide⟩ : Iv (-1) (-1) (-1)) (by decide)
          refine lv_aload_n hx hb dX11_sumBeside_31 rfl (lv_at hl 2 rfl) ?_
          refine lv_iload hx hb dX11_sumBeside_32 (lv_at hl 0 rfl) ?_
          refine o_iald cx hw ha1 (by decide) rfl (iv_in i10 (by decide)) dX11_sumBeside_34 (fun v11 e11 b11 => ?_)
          exact J_35 v11 _ _ hw _ (lv_sub hl [1, 2, 3, 4, 5, 0] rfl)
        · --
          have i12 : Iv v6 (-1) (-1) := iv_eq1 c9 p6_1 (⟨by decide, by decide⟩ : Iv (-1) (-1) (-1)) (by decide)
          refine lv_iconst (v := 0) hx hb dX11_sumBeside_27 (by decide) ?_
          refine lv_goto (tgt := 35) hx hb dX11_sumBeside_28 (by decide) ?_
          exact J_35 0 _ _ hw _ (lv_sub hl [1, 2, 3, 4, 5, 0] rfl)
  exact J_5 _ 0 0 (iv_w (⟨by decide, by decide⟩ : Iv 0 0 0) (by decide)) _ _ hw (Nat.lt_succ_self _) _ (lv_sub hl [2, 3, 4, 1, 0] rfl)
abbrev fs_X11_findWalks : List Nat := []
abbrev ts_X11_findWalks : List Nat := [67, 68]
set_option maxHeartbeats 4000000 in
set_option maxRecDepth 100000 in
theorem c_X11_findWalks (a0 : Nat) (ha0 : oA L τ a0 10) (a1 : Int32) (a2 : Int32) (a3 : Int64) : oMet l A L τ cy D K yX11_findWalks cX11_findWalks 7 none 3 71 [.ref a0, .int a1, .int a2, .long a3] σ (va_Qv (fun σ1 => oFr τ fs_X11_findWalks ts_X11_findWalks σ σ1) (oPo A L τ cy D) A) := by
  refine oMk (by decide) (Nat.le_of_ble_eq_true rfl) rfl ?_
  intro p e s m args below meth c ls cx rx hA hw hl
  generalize hQ : MQ below _ args s 0 0 A = Q
  have hx := cx.1.1
  have hb := cx.1.2.1
  have hml := cx.1.2.2.1
  have hown := cx.1.2.2.2.1
  have hts := cx.1.2.2.2.2
  have hl : lv_has ls 7 [(0, .ref a0), (1, .int a1), (2, .int a2), (3, .long a3)] := hl
  have fr : oFr τ fs_X11_findWalks ts_X11_findWalks σ σ := oFr_rf
  refine lv_iconst (v := 0) hx hb dX11_findWalks_0 (by decide) ?_
  refine lv_istore (lv' := [(5, .int 0), (0, .ref a0), (1, .int a1), (2, .int a2), (3, .long a3)]) hx hb dX11_findWalks_1 hl (by decide) rfl (fun ls hl => ?_)
  have frE_3 := fr
  have J_3 : ∀ n3 : Nat, ∀ (j3_5 : Int32) (ij3_5 : Iv j3_5 0 64), ∀ (σ_3 : oSt) (H : Heap) (locs : List Loc), oI A L τ cy D s.heap σ_3 H locs → oFr τ fs_X11_findWalks ts_X11_findWalks σ σ_3 → (64 - j3_5.toInt).toNat < n3 → ∀ (ls : Array Slot), lv_has ls 7 [(0, .ref a0), (1, .int a1), (2, .int a2), (3, .long a3), (5, .int j3_5)] → W p l e ({ frames := 3, cells := 0, slots := 0, locals := 71 } : Room) s m args below meth c H locs 0 0 Q (F0 m 3 ls []) := by
    intro n3
    induction n3 with
    | zero => intro j3_5 ij3_5 σ_3 H locs hw fr   hn_3   ls hl; exact absurd hn_3 (Nat.not_lt_zero _)
    | succ n3 ih_3 =>
      intro j3_5 ij3_5 σ_3 H locs hw fr   hn_3   ls hl
      have fr_3 := fr
      refine lv_iload hx hb dX11_findWalks_3 (lv_at hl 4 rfl) ?_
      refine lv_bipush (v := 64) hx hb dX11_findWalks_5 (by decide) ?_
      refine lv_icmp_ge (tgt := 43) hx hb dX11_findWalks_7 (by decide) (fun c1 => ?_) (fun c1 => ?_)
      · --
        have i2 : Iv j3_5 64 64 := iv_le2 c1 (⟨by decide, by decide⟩ : Iv 64 64 64) ij3_5 (by decide)
        refine lv_iconst (v := 0) hx hb dX11_findWalks_43 (by decide) ?_
        refine lv_istore (lv' := [(5, .int 0), (0, .ref a0), (1, .int a1), (2, .int a2), (3, .long a3)]) hx hb dX11_findWalks_44 hl (by decide) rfl (fun ls hl => ?_)
        have frE_46 := fr
        have J_46 : ∀ n46 : Nat, ∀ (j46_5 : Int32) (ij46_5 : Iv j46_5 0 2147483647), ∀ (σ_46 : oSt) (H : Heap) (locs : List Loc), oI A L τ cy D s.heap σ_46 H locs → oFr τ fs_X11_findWalks ts_X11_findWalks σ σ_46 → (2147483647 - j46_5.toInt).toNat < n46 → ∀ (ls : Array Slot), lv_has ls 7 [(0, .ref a0), (1, .int a1), (2, .int a2), (3, .long a3), (5, .int j46_5)] → W p l e ({ frames := 3, cells := 0, slots := 0, locals := 71 } : Room) s m args below meth c H locs 0 0 Q (F0 m 46 ls []) := by
          intro n46
          induction n46 with
          | zero => intro j46_5 ij46_5 σ_46 H locs hw fr   hn_46   ls hl; exact absurd hn_46 (Nat.not_lt_zero _)
          | succ n46 ih_46 =>
            intro j46_5 ij46_5 σ_46 H locs hw fr   hn_46   ls hl
            have fr_46 := fr
            refine lv_iload hx hb dX11_findWalks_46 (lv_at hl 4 rfl) ?_
            refine lv_iload_n hx hb dX11_findWalks_48 rfl (lv_at hl 2 rfl) ?_
            refine lv_icmp_ge (tgt := 134) hx hb dX11_findWalks_49 (by decide) (fun c3 => ?_) (fun c3 => ?_)
            · --
              rw [← hQ]
              exact o_rv cx rx hw dX11_findWalks_134 fr
            · --
              have i4 : Iv j46_5 0 2147483646 := iv_lt1 (iv_nle c3) ij46_5 (iv_top a2) (by decide)
              have i5 : Iv a2 1 2147483647 := iv_lt2 (iv_nle c3) ij46_5 (iv_top a2) (by decide)
              refine lv_iconst (v := 0) hx hb dX11_findWalks_52 (by decide) ?_
              refine lv_istore (lv' := [(6, .int 0), (0, .ref a0), (1, .int a1), (2, .int a2), (3, .long a3), (5, .int j46_5)]) hx hb dX11_findWalks_53 hl (by decide) rfl (fun ls hl => ?_)
              have frE_55 := fr
              have J_55 : ∀ n55 : Nat, ∀ (j55_6 : Int32) (ij55_6 : Iv j55_6 0 64), ∀ (σ_55 : oSt) (H : Heap) (locs : List Loc), oI A L τ cy D s.heap σ_55 H locs → oFr τ fs_X11_findWalks ts_X11_findWalks σ σ_55 → (64 - j55_6.toInt).toNat < n55 → ∀ (ls : Array Slot), lv_has ls 7 [(0, .ref a0), (1, .int a1), (2, .int a2), (3, .long a3), (5, .int j46_5), (6, .int j55_6)] → W p l e ({ frames := 3, cells := 0, slots := 0, locals := 71 } : Room) s m args below meth c H locs 0 0 Q (F0 m 55 ls []) := by
                intro n55
                induction n55 with
                | zero => intro j55_6 ij55_6 σ_55 H locs hw fr   hn_55   ls hl; exact absurd hn_55 (Nat.not_lt_zero _)
                | succ n55 ih_55 =>
                  intro j55_6 ij55_6 σ_55 H locs hw fr   hn_55   ls hl
                  have fr_55 := fr
                  refine lv_iload hx hb dX11_findWalks_55 (lv_at hl 5 rfl) ?_
                  refine lv_bipush (v := 64) hx hb dX11_findWalks_57 (by decide) ?_
                  refine lv_icmp_ge (tgt := 98) hx hb dX11_findWalks_59 (by decide) (fun c6 => ?_) (fun c6 => ?_)
                  · --
                    have i7 : Iv j55_6 64 64 := iv_le2 c6 (⟨by decide, by decide⟩ : Iv 64 64 64) ij55_6 (by decide)
                    refine lv_iconst (v := 0) hx hb dX11_findWalks_98 (by decide) ?_
                    refine lv_istore (lv' := [(6, .int 0), (0, .ref a0), (1, .int a1), (2, .int a2), (3, .long a3), (5, .int j46_5)]) hx hb dX11_findWalks_99 hl (by decide) rfl (fun ls hl => ?_)
                    have frE_101 := fr
                    have J_101 : ∀ n101 : Nat, ∀ (j101_6 : Int32) (ij101_6 : Iv j101_6 0 64), ∀ (σ_101 : oSt) (H : Heap) (locs : List Loc), oI A L τ cy D s.heap σ_101 H locs → oFr τ fs_X11_findWalks ts_X11_findWalks σ σ_101 → (64 - j101_6.toInt).toNat < n101 → ∀ (ls : Array Slot), lv_has ls 7 [(0, .ref a0), (1, .int a1), (2, .int a2), (3, .long a3), (5, .int j46_5), (6, .int j101_6)] → W p l e ({ frames := 3, cells := 0, slots := 0, locals := 71 } : Room) s m args below meth c H locs 0 0 Q (F0 m 101 ls []) := by
                      intro n101
                      induction n101 with
                      | zero => intro j101_6 ij101_6 σ_101 H locs hw fr   hn_101   ls hl; exact absurd hn_101 (Nat.not_lt_zero _)
                      | succ n101 ih_101 =>
                        intro j101_6 ij101_6 σ_101 H locs hw fr   hn_101   ls hl
                        have fr_101 := fr
                        refine lv_iload hx hb dX11_findWalks_101 (lv_at hl 5 rfl) ?_
                        refine lv_bipush (v := 64) hx hb dX11_findWalks_103 (by decide) ?_
                        refine lv_icmp_ge (tgt := 128) hx hb dX11_findWalks_105 (by decide) (fun c8 => ?_) (fun c8 => ?_)
                        · --
                          have i9 : Iv j101_6 64 64 := iv_le2 c8 (⟨by decide, by decide⟩ : Iv 64 64 64) ij101_6 (by decide)
                          obtain ⟨v10, e10⟩ : ∃ y : Int32, y = j46_5 + 1 := ⟨_, rfl⟩
                          have i10 : Iv v10 1 2147483647 := iv_add e10 i4 (⟨by decide, by decide⟩ : Iv 1 1 1) (by decide)
                          have x10 : v10.toInt = j46_5.toInt + 1 := ex_add e10 i4 (⟨by decide, by decide⟩ : Iv 1 1 1) (by decide)
                          refine lv_iinc (v := v10) (lv' := [(5, .int v10), (0, .ref a0), (1, .int a1), (2, .int a2), (3, .long a3), (6, .int j101_6)]) hx hb dX11_findWalks_128 hl (k := 4) rfl (by rw [e10]; rfl) (by decide) rfl (fun ls hl => ?_)
                          refine lv_goto (tgt := 46) hx hb dX11_findWalks_131 (by decide) ?_
                          exact ih_46 v10 (iv_w i10 (by decide)) σ_101 _ _ hw fr (ms_up x10 (by decide) (iv_w (a' := 0) (b' := 2147483647) i10 (by decide)).2 hn_46) _ (lv_sub hl [1, 2, 3, 4, 0] rfl)
                        · --
                          have i11 : Iv j101_6 0 63 := iv_lt1 (iv_nle c8) ij101_6 (⟨by decide, by decide⟩ : Iv 64 64 64) (by decide)
                          refine lv_aload_n hx hb dX11_findWalks_108 rfl (lv_at hl 0 rfl) ?_
                          refine g_678 cx hw ha0 k_f_X11_70 dX11_findWalks_109 (fun v12 e12 h12 => ?_)
                          refine lv_iload hx hb dX11_findWalks_112 (lv_at hl 5 rfl) ?_
                          refine lv_aload_n hx hb dX11_findWalks_114 rfl (lv_at hl 0 rfl) ?_
                          refine g_679 cx hw ha0 k_f_X11_73 dX11_findWalks_115 (fun v13 e13 h13 => ?_)
                          refine lv_iload hx hb dX11_findWalks_118 (lv_at hl 5 rfl) ?_
                          refine o_iald cx hw h13 (by decide) rfl (iv_in i11 (by decide)) dX11_findWalks_120 (fun v14 e14 b14 => ?_)
                          refine o_iast cx hw h12 (by decide) rfl (iv_in i11 (by decide)) trivial dX11_findWalks_121 (fun σ15 H locs eσ15 hw => ?_)
                          have fr := oFr_p fr eσ15 h12 (by decide)
                          obtain ⟨v16, e16⟩ : ∃ y : Int32, y = j101_6 + 1 := ⟨_, rfl⟩
                          have i16 : Iv v16 1 64 := iv_add e16 i11 (⟨by decide, by decide⟩ : Iv 1 1 1) (by decide)
                          have x16 : v16.toInt = j101_6.toInt + 1 := ex_add e16 i11 (⟨by decide, by decide⟩ : Iv 1 1 1) (by decide)
                          refine lv_iinc (v := v16) (lv' := [(6, .int v16), (0, .ref a0), (1, .int a1), (2, .int a2), (3, .long a3), (5, .int j46_5)]) hx hb dX11_findWalks_122 hl (k := 5) rfl (by rw [e16]; rfl) (by decide) rfl (fun ls hl => ?_)
                          refine lv_goto (tgt := 101) hx hb dX11_findWalks_125 (by decide) ?_
                          exact ih_101 v16 (iv_w i16 (by decide)) σ15 _ _ hw fr (ms_up x16 (by decide) (iv_w (a' := 0) (b' := 64) i16 (by decide)).2 hn_101) _ (lv_sub hl [1, 2, 3, 4, 5, 0] rfl)
                    exact J_101 _ 0 (iv_w (⟨by decide, by decide⟩ : Iv 0 0 0) (by decide)) σ_55 _ _ hw fr (Nat.lt_succ_self _) _ (lv_sub hl [1, 2, 3, 4, 5, 0] rfl)
                  · --
                    have i17 : Iv j55_6 0 63 := iv_lt1 (iv_nle c6) ij55_6 (⟨by decide, by decide⟩ : Iv 64 64 64) (by decide)
                    refine lv_aload_n hx hb dX11_findWalks_62 rfl (lv_at hl 0 rfl) ?_
                    refine g_679 cx hw ha0 k_f_X11_73 dX11_findWalks_63 (fun v18 e18 h18 => ?_)
                    refine lv_iload hx hb dX11_findWalks_66 (lv_at hl 5 rfl) ?_
                    refine lv_lload_n hx hb dX11_findWalks_68 rfl (lv_at hl 3 rfl) ?_
                    refine lv_iload hx hb dX11_findWalks_69 (lv_at hl 5 rfl) ?_
                    refine o_ci hw (oRunS cx hA hw q_X11_has k_m_X11_215 (As := [.long a3, .int j55_6]) (c_X11_has a3 j55_6) (by decide) rfl hl.1 rfl (Nat.le_of_ble_eq_true rfl) dX11_findWalks_71 (by decide)) (fun v20 σ19 H locs hp hw => ?_)
                    obtain ⟨p20_0, p20_1, p20_2⟩ := hp
                    rw [p20_0] at hw
                    have J_91 : ∀ (k91_2 : Int32) (ik91_2 : Iv k91_2 (-2147483648) 1000000), ∀ (H : Heap) (locs : List Loc), oI A L τ cy D s.heap σ_55 H locs → ∀ (ls : Array Slot), lv_has ls 7 [(0, .ref a0), (1, .int a1), (2, .int a2), (3, .long a3), (5, .int j46_5), (6, .int j55_6)] → W p l e ({ frames := 3, cells := 0, slots := 0, locals := 71 } : Room) s m args below meth c H locs 0 0 Q (F0 m 91 ls [.int k91_2, .int j55_6, .ref v18]) := by
                      intro k91_2 ik91_2 H locs hw     ls hl
                      refine o_iast cx hw h18 (by decide) rfl (iv_in i17 (by decide)) trivial dX11_findWalks_91 (fun σ21 H locs eσ21 hw => ?_)
                      have fr := oFr_p fr eσ21 h18 (by decide)
                      obtain ⟨v22, e22⟩ : ∃ y : Int32, y = j55_6 + 1 := ⟨_, rfl⟩
                      have i22 : Iv v22 1 64 := iv_add e22 i17 (⟨by decide, by decide⟩ : Iv 1 1 1) (by decide)
                      have x22 : v22.toInt = j55_6.toInt + 1 := ex_add e22 i17 (⟨by decide, by decide⟩ : Iv 1 1 1) (by decide)
                      refine lv_iinc (v := v22) (lv' := [(6, .int v22), (0, .ref a0), (1, .int a1), (2, .int a2), (3, .long a3), (5, .int j46_5)]) hx hb dX11_findWalks_92 hl (k := 5) rfl (by rw [e22]; rfl) (by decide) rfl (fun ls hl => ?_)
                      refine lv_goto (tgt := 55) hx hb dX11_findWalks_95 (by decide) ?_
                      exact ih_55 v22 (iv_w i22 (by decide)) σ21 _ _ hw fr (ms_up x22 (by decide) (iv_w (a' := 0) (b' := 64) i22 (by decide)).2 hn_55) _ (lv_sub hl [1, 2, 3, 4, 5, 0] rfl)
                    refine lv_if_eq (tgt := 90) hx hb dX11_findWalks_74 (by decide) (fun c23 => ?_) (fun c23 => ?_)
                    · --
                      have i24 : Iv v20 0 0 := iv_eq1 c23 p20_1 (⟨by decide, by decide⟩ : Iv 0 0 0) (by decide)
                      refine lv_iconst (v := 0) hx hb dX11_findWalks_90 (by decide) ?_
                      exact J_91 0 (iv_w (⟨by decide, by decide⟩ : Iv 0 0 0) (by decide)) _ _ hw _ (lv_sub hl [0, 1, 2, 3, 4, 5] rfl)
                    · --
                      have i25 : Iv v20 1 1 := iv_ne1 c23 p20_1 (⟨by decide, by decide⟩ : Iv 0 0 0) (by decide)
                      refine lv_aload_n hx hb dX11_findWalks_77 rfl (lv_at hl 0 rfl) ?_
                      refine lv_aload_n hx hb dX11_findWalks_78 rfl (lv_at hl 0 rfl) ?_
                      refine g_678 cx hw ha0 k_f_X11_70 dX11_findWalks_79 (fun v26 e26 h26 => ?_)
                      refine lv_iload hx hb dX11_findWalks_82 (lv_at hl 5 rfl) ?_
                      refine o_ci hw (oRunV cx hA hw q_X11_sumBeside k_m_X11_360 rfl ha0 (by decide) (As := [.ref v26, .int j55_6]) (c_X11_sumBeside a0 ha0 v26 h26 j55_6 (iv_w i17 (by decide))) (by decide) rfl hl.1 rfl (Nat.le_of_ble_eq_true rfl) dX11_findWalks_84 (by decide)) (fun v28 σ27 H locs hp hw => ?_)
                      obtain ⟨p28_0, p28_1⟩ := hp
                      rw [p28_0] at hw
                      refine lv_goto (tgt := 91) hx hb dX11_findWalks_87 (by decide) ?_
                      exact J_91 v28 p28_1 _ _ hw _ (lv_sub hl [0, 1, 2, 3, 4, 5] rfl)
              exact J_55 _ 0 (iv_w (⟨by decide, by decide⟩ : Iv 0 0 0) (by decide)) σ_46 _ _ hw fr (Nat.lt_succ_self _) _ (lv_sub hl [1, 2, 3, 4, 5, 0] rfl)
        exact J_46 _ 0 (iv_w (⟨by decide, by decide⟩ : Iv 0 0 0) (by decide)) σ_3 _ _ hw fr (Nat.lt_succ_self _) _ (lv_sub hl [1, 2, 3, 4, 0] rfl)
      · --
        have i29 : Iv j3_5 0 63 := iv_lt1 (iv_nle c1) ij3_5 (⟨by decide, by decide⟩ : Iv 64 64 64) (by decide)
        refine lv_aload_n hx hb dX11_findWalks_10 rfl (lv_at hl 0 rfl) ?_
        refine g_678 cx hw ha0 k_f_X11_70 dX11_findWalks_11 (fun v30 e30 h30 => ?_)
        refine lv_iload hx hb dX11_findWalks_14 (lv_at hl 4 rfl) ?_
        refine lv_iload hx hb dX11_findWalks_16 (lv_at hl 4 rfl) ?_
        refine lv_iload_n hx hb dX11_findWalks_18 rfl (lv_at hl 1 rfl) ?_
        have J_36 : ∀ (k36_2 : Int32) (ik36_2 : Iv k36_2 0 1), ∀ (H : Heap) (locs : List Loc), oI A L τ cy D s.heap σ_3 H locs → ∀ (ls : Array Slot), lv_has ls 7 [(0, .ref a0), (1, .int a1), (2, .int a2), (3, .long a3), (5, .int j3_5)] → W p l e ({ frames := 3, cells := 0, slots := 0, locals := 71 } : Room) s m args below meth c H locs 0 0 Q (F0 m 36 ls [.int k36_2, .int j3_5, .ref v30]) := by
          intro k36_2 ik36_2 H locs hw     ls hl
          refine o_iast cx hw h30 (by decide) rfl (iv_in i29 (by decide)) trivial dX11_findWalks_36 (fun σ31 H locs eσ31 hw => ?_)
          have fr := oFr_p fr eσ31 h30 (by decide)
          obtain ⟨v32, e32⟩ : ∃ y : Int32, y = j3_5 + 1 := ⟨_, rfl⟩
          have i32 : Iv v32 1 64 := iv_add e32 i29 (⟨by decide, by decide⟩ : Iv 1 1 1) (by decide)
          have x32 : v32.toInt = j3_5.toInt + 1 := ex_add e32 i29 (⟨by decide, by decide⟩ : Iv 1 1 1) (by decide)
          refine lv_iinc (v := v32) (lv' := [(5, .int v32), (0, .ref a0), (1, .int a1), (2, .int a2), (3, .long a3)]) hx hb dX11_findWalks_37 hl (k := 4) rfl (by rw [e32]; rfl) (by decide) rfl (fun ls hl => ?_)
          refine lv_goto (tgt := 3) hx hb dX11_findWalks_40 (by decide) ?_
          exact ih_3 v32 (iv_w i32 (by decide)) σ31 _ _ hw fr (ms_up x32 (by decide) (iv_w (a' := 0) (b' := 64) i32 (by decide)).2 hn_3) _ (lv_sub hl [1, 2, 3, 4, 0] rfl)
        have J_35 : ∀ (H : Heap) (locs : List Loc), oI A L τ cy D s.heap σ_3 H locs → ∀ (ls : Array Slot), lv_has ls 7 [(0, .ref a0), (1, .int a1), (2, .int a2), (3, .long a3), (5, .int j3_5)] → W p l e ({ frames := 3, cells := 0, slots := 0, locals := 71 } : Room) s m args below meth c H locs 0 0 Q (F0 m 35 ls [.int j3_5, .ref v30]) := by
          intro  H locs hw     ls hl
          refine lv_iconst (v := 0) hx hb dX11_findWalks_35 (by decide) ?_
          exact J_36 0 (iv_w (⟨by decide, by decide⟩ : Iv 0 0 0) (by decide)) _ _ hw _ (lv_sub hl [0, 1, 2, 3, 4] rfl)
        refine lv_icmp_ne (tgt := 35) hx hb dX11_findWalks_19 (by decide) (fun c33 => ?_) (fun c33 => ?_)
        · --
          exact J_35 _ _ hw _ (lv_sub hl [0, 1, 2, 3, 4] rfl)
        · --
          have i34 : Iv a1 0 63 := iv_eq1 (Eq.symm c33) (iv_top a1) i29 (by decide)
          refine lv_lload_n hx hb dX11_findWalks_22 rfl (lv_at hl 3 rfl) ?_
          refine lv_iload hx hb dX11_findWalks_23 (lv_at hl 4 rfl) ?_
          refine o_ci hw (oRunS cx hA hw q_X11_has k_m_X11_215 (As := [.long a3, .int j3_5]) (c_X11_has a3 j3_5) (by decide) rfl hl.1 rfl (Nat.le_of_ble_eq_true rfl) dX11_findWalks_25 (by decide)) (fun v36 σ35 H locs hp hw => ?_)
          obtain ⟨p36_0, p36_1, p36_2⟩ := hp
          rw [p36_0] at hw
          refine lv_if_eq (tgt := 35) hx hb dX11_findWalks_28 (by decide) (fun c37 => ?_) (fun c37 => ?_)
          · --
            have i38 : Iv v36 0 0 := iv_eq1 c37 p36_1 (⟨by decide, by decide⟩ : Iv 0 0 0) (by decide)
            exact J_35 _ _ hw _ (lv_sub hl [0, 1, 2, 3, 4] rfl)
          · --
            have i39 : Iv v36 1 1 := iv_ne1 c37 p36_1 (⟨by decide, by decide⟩ : Iv 0 0 0) (by decide)
            refine lv_iconst (v := 1) hx hb dX11_findWalks_31 (by decide) ?_
            refine lv_goto (tgt := 36) hx hb dX11_findWalks_32 (by decide) ?_
            exact J_36 1 (iv_w (⟨by decide, by decide⟩ : Iv 1 1 1) (by decide)) _ _ hw _ (lv_sub hl [0, 1, 2, 3, 4] rfl)
  exact J_3 _ 0 (iv_w (⟨by decide, by decide⟩ : Iv 0 0 0) (by decide)) σ _ _ hw fr (Nat.lt_succ_self _) _ (lv_sub hl [1, 2, 3, 4, 0] rfl)
set_option maxHeartbeats 4000000 in
set_option maxRecDepth 100000 in
theorem c_X11_goesBeside (a0 : Nat) (ha0 : oA L τ a0 10) (a1 : Int32) (ia1 : Iv a1 0 63) (a2 : Int32) : oMet l A L τ cy D K yX11_goesBeside cX11_goesBeside 4 (some .boolean) 2 46 [.ref a0, .int a1, .int a2] σ (va_Qi (fun r σ1 => σ1 = σ ∧ Iv r 0 1 ∧ (¬ r = 0 → Iv (bs_F (σ.1 641 a0) (σ.1 642 a0) a1 a2) 0 63)) (oPo A L τ cy D) A) := by
  refine oMk (by decide) (Nat.le_of_ble_eq_true rfl) rfl ?_
  intro p e s m args below meth c ls cx rx hA hw hl
  generalize hQ : MQ below _ args s 0 0 A = Q
  have hx := cx.1.1
  have hb := cx.1.2.1
  have hml := cx.1.2.2.1
  have hown := cx.1.2.2.2.1
  have hts := cx.1.2.2.2.2
  have hl : lv_has ls 4 [(0, .ref a0), (1, .int a1), (2, .int a2)] := hl
  refine lv_aload_n hx hb dX11_goesBeside_0 rfl (lv_at hl 0 rfl) ?_
  refine lv_iload_n hx hb dX11_goesBeside_1 rfl (lv_at hl 1 rfl) ?_
  refine lv_iload_n hx hb dX11_goesBeside_2 rfl (lv_at hl 2 rfl) ?_
  refine o_ci hw (oRunV cx hA hw q_X11_beside k_m_X11_223 rfl ha0 (by decide) (As := [.int a1, .int a2]) (c_X11_beside a0 ha0 a1 (iv_w ia1 (by decide)) a2) (by decide) rfl hl.1 rfl (Nat.le_of_ble_eq_true rfl) dX11_goesBeside_3 (by decide)) (fun v2 σ1 H locs hp hw => ?_)
  obtain ⟨p2_0, p2_1, p2_2⟩ := hp
  rw [p2_0] at hw
  refine lv_istore_n (lv' := [(3, .int v2), (0, .ref a0), (1, .int a1), (2, .int a2)]) hx hb dX11_goesBeside_6 rfl hl (by decide) rfl (fun ls hl => ?_)
  refine lv_iload_n hx hb dX11_goesBeside_7 rfl (lv_at hl 0 rfl) ?_
  refine lv_iconst (v := (-1)) hx hb dX11_goesBeside_8 (by decide) ?_
  refine lv_icmp_eq (tgt := 28) hx hb dX11_goesBeside_9 (by decide) (fun c3 => ?_) (fun c3 => ?_)
  · --
    have i4 : Iv v2 (-1) (-1) := iv_eq1 c3 p2_1 (⟨by decide, by decide⟩ : Iv (-1) (-1) (-1)) (by decide)
    refine lv_iconst (v := 0) hx hb dX11_goesBeside_28 (by decide) ?_
    rw [← hQ]
    exact o_rz cx rx hw (iv_nz01 (iv_w (⟨by decide, by decide⟩ : Iv 0 0 0) (by decide))) dX11_goesBeside_29 ⟨rfl, (iv_w (⟨by decide, by decide⟩ : Iv 0 0 0) (by decide)), (by exact fun h => absurd rfl h)⟩
  · --
    have i5 : Iv v2 0 63 := iv_ne1 c3 p2_1 (⟨by decide, by decide⟩ : Iv (-1) (-1) (-1)) (by decide)
    refine lv_aload_n hx hb dX11_goesBeside_12 rfl (lv_at hl 1 rfl) ?_
    refine lv_aload_n hx hb dX11_goesBeside_13 rfl (lv_at hl 1 rfl) ?_
    refine g_640 cx hw ha0 k_f_X11_9 dX11_goesBeside_14 (fun v6 e6 h6 => ?_)
    refine lv_iload_n hx hb dX11_goesBeside_17 rfl (lv_at hl 0 rfl) ?_
    refine o_ci hw (oRunV cx hA hw q_X11_canBe k_m_X11_227 rfl ha0 (by decide) (As := [.ref v6, .int v2]) (c_X11_canBe a0 ha0 v6 h6 v2 (iv_w i5 (by decide))) (by decide) rfl hl.1 rfl (Nat.le_of_ble_eq_true rfl) dX11_goesBeside_18 (by decide)) (fun v8 σ7 H locs hp hw => ?_)
    obtain ⟨p8_0, p8_1⟩ := hp
    rw [p8_0] at hw
    refine lv_if_eq (tgt := 28) hx hb dX11_goesBeside_21 (by decide) (fun c9 => ?_) (fun c9 => ?_)
    · --
      have i10 : Iv v8 0 0 := iv_eq1 c9 p8_1 (⟨by decide, by decide⟩ : Iv 0 0 0) (by decide)
      refine lv_iconst (v := 0) hx hb dX11_goesBeside_28 (by decide) ?_
      rw [← hQ]
      exact o_rz cx rx hw (iv_nz01 (iv_w (⟨by decide, by decide⟩ : Iv 0 0 0) (by decide))) dX11_goesBeside_29 ⟨rfl, (iv_w (⟨by decide, by decide⟩ : Iv 0 0 0) (by decide)), (by exact fun h => absurd rfl h)⟩
    · --
      have i11 : Iv v8 1 1 := iv_ne1 c9 p8_1 (⟨by decide, by decide⟩ : Iv 0 0 0) (by decide)
      refine lv_iconst (v := 1) hx hb dX11_goesBeside_24 (by decide) ?_
      refine lv_goto (tgt := 29) hx hb dX11_goesBeside_25 (by decide) ?_
      rw [← hQ]
      exact o_rz cx rx hw (iv_nz01 (iv_w (⟨by decide, by decide⟩ : Iv 1 1 1) (by decide))) dX11_goesBeside_29 ⟨rfl, (iv_w (⟨by decide, by decide⟩ : Iv 1 1 1) (by decide)), (by exact fun _ => kn_iv2 p2_2 i5)⟩
abbrev fs_X11_share : List Nat := []
abbrev ts_X11_share : List Nat := [68]
set_option maxHeartbeats 4000000 in
set_option maxRecDepth 100000 in
theorem c_X11_share (a0 : Nat) (ha0 : oA L τ a0 10) (a1 : Int32) (ia1 : Iv a1 0 63) : oMet l A L τ cy D K yX11_share cX11_share 5 none 3 69 [.ref a0, .int a1] σ (va_Qv (fun σ1 => oFr τ fs_X11_share ts_X11_share σ σ1) (oPo A L τ cy D) A) := by
  refine oMk (by decide) (Nat.le_of_ble_eq_true rfl) rfl ?_
  intro p e s m args below meth c ls cx rx hA hw hl
  generalize hQ : MQ below _ args s 0 0 A = Q
  have hx := cx.1.1
  have hb := cx.1.2.1
  have hml := cx.1.2.2.1
  have hown := cx.1.2.2.2.1
  have hts := cx.1.2.2.2.2
  have hl : lv_has ls 5 [(0, .ref a0), (1, .int a1)] := hl
  have fr : oFr τ fs_X11_share ts_X11_share σ σ := oFr_rf
  refine lv_iconst (v := 1) hx hb dX11_share_0 (by decide) ?_
  refine lv_istore_n (lv' := [(2, .int 1), (0, .ref a0), (1, .int a1)]) hx hb dX11_share_1 rfl hl (by decide) rfl (fun ls hl => ?_)
  refine lv_iconst (v := 0) hx hb dX11_share_2 (by decide) ?_
  refine lv_istore_n (lv' := [(3, .int 0), (2, .int 1), (0, .ref a0), (1, .int a1)]) hx hb dX11_share_3 rfl hl (by decide) rfl (fun ls hl => ?_)
  have J_4 : ∀ n4 : Nat, ∀ (j4_2 : Int32) (ij4_2 : Iv j4_2 1 5) (j4_3 : Int32) (ij4_3 : Iv j4_3 0 4), ∀ (H : Heap) (locs : List Loc), oI A L τ cy D s.heap σ H locs → (4 - j4_3.toInt).toNat < n4 → j4_2.toInt ≤ j4_3.toInt + 1 → ∀ (ls : Array Slot), lv_has ls 5 [(0, .ref a0), (1, .int a1), (2, .int j4_2), (3, .int j4_3)] → W p l e ({ frames := 3, cells := 0, slots := 0, locals := 69 } : Room) s m args below meth c H locs 0 0 Q (F0 m 4 ls []) := by
    intro n4
    induction n4 with
    | zero => intro j4_2 ij4_2 j4_3 ij4_3 H locs hw  hn_4   le4_0 ls hl; exact absurd hn_4 (Nat.not_lt_zero _)
    | succ n4 ih_4 =>
      intro j4_2 ij4_2 j4_3 ij4_3 H locs hw  hn_4   le4_0 ls hl
      refine lv_iload_n hx hb dX11_share_4 rfl (lv_at hl 3 rfl) ?_
      refine lv_iconst (v := 4) hx hb dX11_share_5 (by decide) ?_
      refine lv_icmp_ge (tgt := 32) hx hb dX11_share_6 (by decide) (fun c1 => ?_) (fun c1 => ?_)
      · --
        have i2 : Iv j4_3 4 4 := iv_le2 c1 (⟨by decide, by decide⟩ : Iv 4 4 4) ij4_3 (by decide)
        refine lv_aload_n hx hb dX11_share_32 rfl (lv_at hl 0 rfl) ?_
        refine g_678 cx hw ha0 k_f_X11_70 dX11_share_33 (fun v3 e3 h3 => ?_)
        refine lv_iload_n hx hb dX11_share_36 rfl (lv_at hl 1 rfl) ?_
        refine o_iald cx hw h3 (by decide) rfl (iv_in ia1 (by decide)) dX11_share_37 (fun v4 e4 b4 => ?_)
        refine lv_iload_n hx hb dX11_share_38 rfl (lv_at hl 2 rfl) ?_
        refine lv_idiv hx hb dX11_share_39 (iv_nz ij4_2 (by decide)) ?_
        refine lv_topi (fun v5 e5 => ?_)
        refine lv_istore_n (lv' := [(3, .int v5), (0, .ref a0), (1, .int a1), (2, .int j4_2)]) hx hb dX11_share_40 rfl hl (by decide) rfl (fun ls hl => ?_)
        refine lv_aload_n hx hb dX11_share_41 rfl (lv_at hl 1 rfl) ?_
        refine g_679 cx hw ha0 k_f_X11_73 dX11_share_42 (fun v6 e6 h6 => ?_)
        refine lv_iload_n hx hb dX11_share_45 rfl (lv_at hl 2 rfl) ?_
        refine lv_dup2_11 hx hb dX11_share_46 rfl rfl ?_
        refine o_iald cx hw h6 (by decide) rfl (iv_in ia1 (by decide)) dX11_share_47 (fun v7 e7 b7 => ?_)
        refine lv_iload_n hx hb dX11_share_48 rfl (lv_at hl 0 rfl) ?_
        refine lv_iadd hx hb dX11_share_49 ?_
        refine lv_topi (fun v8 e8 => ?_)
        refine o_iast cx hw h6 (by decide) rfl (iv_in ia1 (by decide)) trivial dX11_share_50 (fun σ9 H locs eσ9 hw => ?_)
        have fr := oFr_p fr eσ9 h6 (by decide)
        refine lv_iconst (v := 0) hx hb dX11_share_51 (by decide) ?_
        refine lv_istore (lv' := [(4, .int 0), (3, .int v5), (0, .ref a0), (1, .int a1), (2, .int j4_2)]) hx hb dX11_share_52 hl (by decide) rfl (fun ls hl => ?_)
        have frE_54 := fr
        have J_54 : ∀ n54 : Nat, ∀ (j54_4 : Int32) (ij54_4 : Iv j54_4 0 4), ∀ (σ_54 : oSt) (H : Heap) (locs : List Loc), oI A L τ cy D s.heap σ_54 H locs → oFr τ fs_X11_share ts_X11_share σ σ_54 → (4 - j54_4.toInt).toNat < n54 → ∀ (ls : Array Slot), lv_has ls 5 [(0, .ref a0), (1, .int a1), (2, .int j4_2), (3, .int v5), (4, .int j54_4)] → W p l e ({ frames := 3, cells := 0, slots := 0, locals := 69 } : Room) s m args below meth c H locs 0 0 Q (F0 m 54 ls []) := by
          intro n54
          induction n54 with
          | zero => intro j54_4 ij54_4 σ_54 H locs hw fr   hn_54   ls hl; exact absurd hn_54 (Nat.not_lt_zero _)
          | succ n54 ih_54 =>
            intro j54_4 ij54_4 σ_54 H locs hw fr   hn_54   ls hl
            have fr_54 := fr
            refine lv_iload hx hb dX11_share_54 (lv_at hl 4 rfl) ?_
            refine lv_iconst (v := 4) hx hb dX11_share_56 (by decide) ?_
            refine lv_icmp_ge (tgt := 92) hx hb dX11_share_57 (by decide) (fun c10 => ?_) (fun c10 => ?_)
            · --
              have i11 : Iv j54_4 4 4 := iv_le2 c10 (⟨by decide, by decide⟩ : Iv 4 4 4) ij54_4 (by decide)
              rw [← hQ]
              exact o_rv cx rx hw dX11_share_92 fr
            · --
              have i12 : Iv j54_4 0 3 := iv_lt1 (iv_nle c10) ij54_4 (⟨by decide, by decide⟩ : Iv 4 4 4) (by decide)
              refine lv_aload_n hx hb dX11_share_60 rfl (lv_at hl 0 rfl) ?_
              refine lv_iload_n hx hb dX11_share_61 rfl (lv_at hl 1 rfl) ?_
              refine lv_iload hx hb dX11_share_62 (lv_at hl 4 rfl) ?_
              refine o_ci hw (oRunV cx hA hw q_X11_goesBeside k_m_X11_374 rfl ha0 (by decide) (As := [.int a1, .int j54_4]) (c_X11_goesBeside a0 ha0 a1 (iv_w ia1 (by decide)) j54_4) (by decide) rfl hl.1 rfl (Nat.le_of_ble_eq_true rfl) dX11_share_64 (by decide)) (fun v14 σ13 H locs hp hw => ?_)
              obtain ⟨p14_0, p14_1, p14_2⟩ := hp
              rw [p14_0] at hw
              have frE_86 := fr
              have J_86 : ∀ (σ_86 : oSt) (H : Heap) (locs : List Loc), oI A L τ cy D s.heap σ_86 H locs → oFr τ fs_X11_share ts_X11_share σ σ_86 → ∀ (ls : Array Slot), lv_has ls 5 [(0, .ref a0), (1, .int a1), (2, .int j4_2), (3, .int v5), (4, .int j54_4)] → W p l e ({ frames := 3, cells := 0, slots := 0, locals := 69 } : Room) s m args below meth c H locs 0 0 Q (F0 m 86 ls []) := by
                intro  σ_86 H locs hw fr      ls hl
                have fr_86 := fr
                obtain ⟨v15, e15⟩ : ∃ y : Int32, y = j54_4 + 1 := ⟨_, rfl⟩
                have i15 : Iv v15 1 4 := iv_add e15 i12 (⟨by decide, by decide⟩ : Iv 1 1 1) (by decide)
                have x15 : v15.toInt = j54_4.toInt + 1 := ex_add e15 i12 (⟨by decide, by decide⟩ : Iv 1 1 1) (by decide)
                refine lv_iinc (v := v15) (lv' := [(4, .int v15), (0, .ref a0), (1, .int a1), (2, .int j4_2), (3, .int v5)]) hx hb dX11_share_86 hl (k := 4) rfl (by rw [e15]; rfl) (by decide) rfl (fun ls hl => ?_)
                refine lv_goto (tgt := 54) hx hb dX11_share_89 (by decide) ?_
                exact ih_54 v15 (iv_w i15 (by decide)) σ_86 _ _ hw fr (ms_up x15 (by decide) (iv_w (a' := 0) (b' := 4) i15 (by decide)).2 hn_54) _ (lv_sub hl [1, 2, 3, 4, 0] rfl)
              refine lv_if_eq (tgt := 86) hx hb dX11_share_67 (by decide) (fun c16 => ?_) (fun c16 => ?_)
              · --
                have i17 : Iv v14 0 0 := iv_eq1 c16 p14_1 (⟨by decide, by decide⟩ : Iv 0 0 0) (by decide)
                exact J_86 σ_54 _ _ hw fr _ (lv_sub hl [0, 1, 2, 3, 4] rfl)
              · --
                have i18 : Iv v14 1 1 := iv_ne1 c16 p14_1 (⟨by decide, by decide⟩ : Iv 0 0 0) (by decide)
                refine lv_aload_n hx hb dX11_share_70 rfl (lv_at hl 0 rfl) ?_
                refine g_679 cx hw ha0 k_f_X11_73 dX11_share_71 (fun v19 e19 h19 => ?_)
                rw [show v19 = v6 from Option.some.inj (e19.symm.trans (((kr_c fr_54 (by decide)).trans ((kr_c frE_54 (by decide)).symm.trans (((kr_p eσ9).trans e6))))))]
                refine lv_aload_n hx hb dX11_share_74 rfl (lv_at hl 0 rfl) ?_
                refine lv_iload_n hx hb dX11_share_75 rfl (lv_at hl 1 rfl) ?_
                refine lv_iload hx hb dX11_share_76 (lv_at hl 4 rfl) ?_
                refine o_ci hw (oRunV cx hA hw q_X11_beside k_m_X11_223 rfl ha0 (by decide) (As := [.int a1, .int j54_4]) (c_X11_beside a0 ha0 a1 (iv_w ia1 (by decide)) j54_4) (by decide) rfl hl.1 rfl (Nat.le_of_ble_eq_true rfl) dX11_share_78 (by decide)) (fun v21 σ20 H locs hp hw => ?_)
                obtain ⟨p21_0, p21_1, p21_2⟩ := hp
                rw [p21_0] at hw
                have i22 : Iv v21 0 63 := kn_iv p21_2 (p14_2 c16)
                refine lv_dup2_11 hx hb dX11_share_81 rfl rfl ?_
                refine o_iald cx hw h6 (by decide) rfl (iv_in i22 (by decide)) dX11_share_82 (fun v23 e23 b23 => ?_)
                refine lv_iload_n hx hb dX11_share_83 rfl (lv_at hl 3 rfl) ?_
                refine lv_iadd hx hb dX11_share_84 ?_
                refine lv_topi (fun v24 e24 => ?_)
                refine o_iast cx hw h6 (by decide) rfl (iv_in i22 (by decide)) trivial dX11_share_85 (fun σ25 H locs eσ25 hw => ?_)
                have fr := oFr_p fr eσ25 h6 (by decide)
                exact J_86 σ25 _ _ hw fr _ (lv_sub hl [0, 1, 2, 3, 4] rfl)
        exact J_54 _ 0 (iv_w (⟨by decide, by decide⟩ : Iv 0 0 0) (by decide)) σ9 _ _ hw fr (Nat.lt_succ_self _) _ (lv_sub hl [2, 3, 4, 1, 0] rfl)
      · --
        have i26 : Iv j4_3 0 3 := iv_lt1 (iv_nle c1) ij4_3 (⟨by decide, by decide⟩ : Iv 4 4 4) (by decide)
        have i27 : Iv j4_2 1 4 := iv_leh le4_0 ij4_2 i26 (by decide)
        refine lv_iload_n hx hb dX11_share_9 rfl (lv_at hl 2 rfl) ?_
        refine lv_aload_n hx hb dX11_share_10 rfl (lv_at hl 0 rfl) ?_
        refine lv_iload_n hx hb dX11_share_11 rfl (lv_at hl 1 rfl) ?_
        refine lv_iload_n hx hb dX11_share_12 rfl (lv_at hl 3 rfl) ?_
        refine o_ci hw (oRunV cx hA hw q_X11_goesBeside k_m_X11_374 rfl ha0 (by decide) (As := [.int a1, .int j4_3]) (c_X11_goesBeside a0 ha0 a1 (iv_w ia1 (by decide)) j4_3) (by decide) rfl hl.1 rfl (Nat.le_of_ble_eq_true rfl) dX11_share_13 (by decide)) (fun v29 σ28 H locs hp hw => ?_)
        obtain ⟨p29_0, p29_1, p29_2⟩ := hp
        rw [p29_0] at hw
        have J_24 : ∀ (k24_1 : Int32) (ik24_1 : Iv k24_1 0 1), ∀ (H : Heap) (locs : List Loc), oI A L τ cy D s.heap σ H locs → ∀ (ls : Array Slot), lv_has ls 5 [(0, .ref a0), (1, .int a1), (2, .int j4_2), (3, .int j4_3)] → W p l e ({ frames := 3, cells := 0, slots := 0, locals := 69 } : Room) s m args below meth c H locs 0 0 Q (F0 m 24 ls [.int k24_1, .int j4_2]) := by
          intro k24_1 ik24_1 H locs hw     ls hl
          refine lv_iadd hx hb dX11_share_24 ?_
          refine lv_topi (fun v30 e30 => ?_)
          have i30 : Iv v30 1 5 := iv_add e30 i27 ik24_1 (by decide)
          have x30 : v30.toInt = j4_2.toInt + k24_1.toInt := ex_add e30 i27 ik24_1 (by decide)
          refine lv_istore_n (lv' := [(2, .int v30), (0, .ref a0), (1, .int a1), (3, .int j4_3)]) hx hb dX11_share_25 rfl hl (by decide) rfl (fun ls hl => ?_)
          obtain ⟨v31, e31⟩ : ∃ y : Int32, y = j4_3 + 1 := ⟨_, rfl⟩
          have i31 : Iv v31 1 4 := iv_add e31 i26 (⟨by decide, by decide⟩ : Iv 1 1 1) (by decide)
          have x31 : v31.toInt = j4_3.toInt + 1 := ex_add e31 i26 (⟨by decide, by decide⟩ : Iv 1 1 1) (by decide)
          refine lv_iinc (v := v31) (lv' := [(3, .int v31), (2, .int v30), (0, .ref a0), (1, .int a1)]) hx hb dX11_share_26 hl (k := 3) rfl (by rw [e31]; rfl) (by decide) rfl (fun ls hl => ?_)
          refine lv_goto (tgt := 4) hx hb dX11_share_29 (by decide) ?_
          exact ih_4 v30 i30 v31 (iv_w i31 (by decide)) _ _ hw (ms_up x31 (by decide) (iv_w (a' := 0) (b' := 4) i31 (by decide)).2 hn_4) (by have := (ia1).1; have := (ia1).2; have := (i30).1; have := (i30).2; have := (i31).1; have := (i31).2; have := (i26).1; have := (i26).2; have := (i27).1; have := (i27).2; have := (p29_1).1; have := (p29_1).2; have := (ik24_1).1; have := (ik24_1).2; have : (j4_3 : Int32).toInt < (4 : Int32).toInt := iv_lt.mp (iv_nle c1); have : (4 : Int32).toInt = 4 := (by decide); omega) _ (lv_sub hl [2, 3, 1, 0] rfl)
        refine lv_if_eq (tgt := 23) hx hb dX11_share_16 (by decide) (fun c32 => ?_) (fun c32 => ?_)
        · --
          have i33 : Iv v29 0 0 := iv_eq1 c32 p29_1 (⟨by decide, by decide⟩ : Iv 0 0 0) (by decide)
          refine lv_iconst (v := 0) hx hb dX11_share_23 (by decide) ?_
          exact J_24 0 (iv_w (⟨by decide, by decide⟩ : Iv 0 0 0) (by decide)) _ _ hw _ (lv_sub hl [0, 1, 2, 3] rfl)
        · --
          have i34 : Iv v29 1 1 := iv_ne1 c32 p29_1 (⟨by decide, by decide⟩ : Iv 0 0 0) (by decide)
          refine lv_iconst (v := 1) hx hb dX11_share_19 (by decide) ?_
          refine lv_goto (tgt := 24) hx hb dX11_share_20 (by decide) ?_
          exact J_24 1 (iv_w (⟨by decide, by decide⟩ : Iv 1 1 1) (by decide)) _ _ hw _ (lv_sub hl [0, 1, 2, 3] rfl)
  exact J_4 _ 1 (iv_w (⟨by decide, by decide⟩ : Iv 1 1 1) (by decide)) 0 (iv_w (⟨by decide, by decide⟩ : Iv 0 0 0) (by decide)) _ _ hw (Nat.lt_succ_self _) (le_iv (⟨by decide, by decide⟩ : Iv 1 1 1) (⟨by decide, by decide⟩ : Iv 0 0 0) (by decide)) _ (lv_sub hl [2, 3, 1, 0] rfl)
abbrev fs_X10_sign : List Nat := [385]
abbrev ts_X10_sign : List Nat := [35]
set_option maxHeartbeats 4000000 in
set_option maxRecDepth 100000 in
theorem c_X10_sign (a0 : Nat) (ha0 : oA L τ a0 9) (a1 : Int32) : oMet l A L τ cy D K yX10_sign cX10_sign 2 (some .int) 1 22 [.ref a0, .int a1] σ (va_Qi (fun r σ1 => oFr τ fs_X10_sign ts_X10_sign σ σ1 ∧ Iv r (-1) 80 ∧ (∀ b, σ.2.2.2.2 576 a0 = some b → ((σ.1 385 b).toInt + 4 ≤ 80 ∧ r.toInt = (σ.1 385 b).toInt + 4 ∧ (σ1.1 385 b).toInt = (σ.1 385 b).toInt + 4) ∨ (80 < (σ.1 385 b).toInt + 4 ∧ r.toInt = -1 ∧ (σ1.1 385 b).toInt = (σ.1 385 b).toInt)) ∧ (∀ b, σ.2.2.2.2 576 a0 = some b → (80 < (σ.1 385 b).toInt + 4 ∧ oRw σ1 384 b = oRw σ 384 b) ∨ ((σ.1 385 b).toInt + 4 ≤ 80 ∧ tApp (oRw σ 384 b) (oRw σ1 384 b) (σ.1 385 b).toInt a1))) (oPo A L τ cy D) A) := by
  refine oMk (by decide) (Nat.le_of_ble_eq_true rfl) rfl ?_
  intro p e s m args below meth c ls cx rx hA hw hl
  generalize hQ : MQ below _ args s 0 0 A = Q
  have hx := cx.1.1
  have hb := cx.1.2.1
  have hml := cx.1.2.2.1
  have hown := cx.1.2.2.2.1
  have hts := cx.1.2.2.2.2
  have hl : lv_has ls 2 [(0, .ref a0), (1, .int a1)] := hl
  have fr : oFr τ fs_X10_sign ts_X10_sign σ σ := oFr_rf
  obtain ⟨b576, hF576, hb576⟩ := hw.2.2.2.2.2 576 a0 6 (by rw [ha0.2]; rfl) ha0.1
  refine lv_aload_n hx hb dX10_sign_0 rfl (lv_at hl 0 rfl) ?_
  refine g_576 cx hw ha0 k_f_X10_10 dX10_sign_1 (fun v1 e1 h1 => ?_)
  rw [show v1 = b576 from Option.some.inj (e1.symm.trans (hF576))]
  refine lv_iload_n hx hb dX10_sign_4 rfl (lv_at hl 1 rfl) ?_
  have i2 : Iv (σ.1 385 b576) 0 80 := o_fb (j := 385) hw hb576 rfl
  refine o_ci hw (oRunV cx hA hw q_X7_append k_m_X10_96 rfl hb576 (by decide) (As := [.int a1]) (c_X7_append b576 hb576 a1) (by decide) rfl hl.1 rfl (Nat.le_of_ble_eq_true rfl) dX10_sign_5 (by decide)) (fun v4 σ3 H locs hp hw => ?_)
  obtain ⟨p4_0, p4_1, p4_2, p4_3⟩ := hp
  have fr := oFr_tr fr p4_0 (by decide)
  have i5 : Iv (σ3.1 385 b576) 0 80 := o_fb (j := 385) hw hb576 rfl
  refine lv_if_eq (tgt := 21) hx hb dX10_sign_8 (by decide) (fun c6 => ?_) (fun c6 => ?_)
  · --
    have i7 : Iv v4 0 0 := iv_eq1 c6 p4_1 (⟨by decide, by decide⟩ : Iv 0 0 0) (by decide)
    refine lv_iconst (v := (-1)) hx hb dX10_sign_21 (by decide) ?_
    rw [← hQ]
    exact o_ri cx rx hw dX10_sign_22 ⟨fr, (iv_w (⟨by decide, by decide⟩ : Iv (-1) (-1) (-1)) (by decide)), (by intro b hb9; rw [show b = b576 from Option.some.inj (hb9.symm.trans ((kr_c fr (by decide)).symm.trans (((kr_c p4_0 (by decide)).trans hF576))))]; exact (by have := (i5).1; have := (i5).2; have := (i2).1; have := (i2).2; have := (i7).1; have := (i7).2; have : (v4 : Int32).toInt = (0 : Int32).toInt := congrArg Int32.toInt c6; have : ((-1) : Int32).toInt = (-1) := (by decide); have : (0 : Int32).toInt = 0 := (by decide); omega)), (by intro b hb9; rw [show b = b576 from Option.some.inj (hb9.symm.trans ((kr_c fr (by decide)).symm.trans (((kr_c p4_0 (by decide)).trans hF576))))]; exact p4_3)⟩
  · --
    have i8 : Iv v4 1 1 := iv_ne1 c6 p4_1 (⟨by decide, by decide⟩ : Iv 0 0 0) (by decide)
    refine lv_aload_n hx hb dX10_sign_11 rfl (lv_at hl 0 rfl) ?_
    refine g_576 cx hw ha0 k_f_X10_10 dX10_sign_12 (fun v9 e9 h9 => ?_)
    rw [show v9 = b576 from Option.some.inj (e9.symm.trans (((kr_c p4_0 (by decide)).trans hF576)))]
    refine g_385 cx hw hb576 k_f_X10_100 dX10_sign_15 (fun v10 e10 i10 => ?_)
    rw [show v10 = (σ3.1 385 b576) from e10.trans rfl]
    refine lv_goto (tgt := 22) hx hb dX10_sign_18 (by decide) ?_
    rw [← hQ]
    exact o_ri cx rx hw dX10_sign_22 ⟨fr, (iv_w i5 (by decide)), (by intro b hb9; rw [show b = b576 from Option.some.inj (hb9.symm.trans ((kr_c fr (by decide)).symm.trans (((kr_c p4_0 (by decide)).trans hF576))))]; exact (by have := (i5).1; have := (i5).2; have := (i2).1; have := (i2).2; have := (i8).1; have := (i8).2; omega)), (by intro b hb9; rw [show b = b576 from Option.some.inj (hb9.symm.trans ((kr_c fr (by decide)).symm.trans (((kr_c p4_0 (by decide)).trans hF576))))]; exact p4_3)⟩
abbrev fs_X10_end : List Nat := [385]
abbrev ts_X10_end : List Nat := []
set_option maxHeartbeats 4000000 in
set_option maxRecDepth 100000 in
theorem c_X10_end (a0 : Nat) (ha0 : oA L τ a0 9) (a1 : Int32) : oMet l A L τ cy D K yX10_end cX10_end 2 (some .boolean) 0 0 [.ref a0, .int a1] σ (va_Qi (fun r σ1 => oFr τ fs_X10_end ts_X10_end σ σ1 ∧ Iv r 0 1 ∧ (∀ b, σ.2.2.2.2 576 a0 = some b → (0 ≤ a1.toInt ∧ a1.toInt ≤ (σ.1 385 b).toInt ∧ r.toInt = 1 ∧ (σ1.1 385 b).toInt = a1.toInt) ∨ ((a1.toInt < 0 ∨ (σ.1 385 b).toInt < a1.toInt) ∧ r.toInt = 0 ∧ (σ1.1 385 b).toInt = (σ.1 385 b).toInt))) (oPo A L τ cy D) A) := by
  refine oMk (by decide) (Nat.le_of_ble_eq_true rfl) rfl ?_
  intro p e s m args below meth c ls cx rx hA hw hl
  generalize hQ : MQ below _ args s 0 0 A = Q
  have hx := cx.1.1
  have hb := cx.1.2.1
  have hml := cx.1.2.2.1
  have hown := cx.1.2.2.2.1
  have hts := cx.1.2.2.2.2
  have hl : lv_has ls 2 [(0, .ref a0), (1, .int a1)] := hl
  have fr : oFr τ fs_X10_end ts_X10_end σ σ := oFr_rf
  obtain ⟨b576, hF576, hb576⟩ := hw.2.2.2.2.2 576 a0 6 (by rw [ha0.2]; rfl) ha0.1
  have iz385 : Iv (σ.1 385 b576) (0) 80 := o_fb (j := 385) hw hb576 rfl
  refine lv_iload_n hx hb dX10_end_0 rfl (lv_at hl 1 rfl) ?_
  refine lv_if_lt (tgt := 15) hx hb dX10_end_1 (by decide) (fun c1 => ?_) (fun c1 => ?_)
  · --
    have i2 : Iv a1 (-2147483648) (-1) := iv_lt1 c1 (iv_top a1) (⟨by decide, by decide⟩ : Iv 0 0 0) (by decide)
    refine lv_iconst (v := 0) hx hb dX10_end_15 (by decide) ?_
    rw [← hQ]
    exact o_rz cx rx hw (iv_nz01 (iv_w (⟨by decide, by decide⟩ : Iv 0 0 0) (by decide))) dX10_end_16 ⟨fr, (iv_w (⟨by decide, by decide⟩ : Iv 0 0 0) (by decide)), (by intro b hb9; rw [show b = b576 from Option.some.inj (hb9.symm.trans ((kr_c fr (by decide)).symm.trans (hF576)))]; exact (by have := (i2).1; have := (i2).2; have := (iz385).1; have := (iz385).2; have : (a1 : Int32).toInt < (0 : Int32).toInt := iv_lt.mp c1; have : (0 : Int32).toInt = 0 := (by decide); omega))⟩
  · --
    have i3 : Iv a1 0 2147483647 := iv_le2 (iv_nlt c1) (⟨by decide, by decide⟩ : Iv 0 0 0) (iv_top a1) (by decide)
    refine lv_iload_n hx hb dX10_end_4 rfl (lv_at hl 1 rfl) ?_
    refine lv_aload_n hx hb dX10_end_5 rfl (lv_at hl 0 rfl) ?_
    refine g_576 cx hw ha0 k_f_X10_10 dX10_end_6 (fun v4 e4 h4 => ?_)
    rw [show v4 = b576 from Option.some.inj (e4.symm.trans (hF576))]
    refine g_385 cx hw hb576 k_f_X10_100 dX10_end_9 (fun v5 e5 i5 => ?_)
    rw [show v5 = (σ.1 385 b576) from e5.trans rfl]
    refine lv_icmp_le (tgt := 17) hx hb dX10_end_12 (by decide) (fun c6 => ?_) (fun c6 => ?_)
    · --
      have i7 : Iv a1 0 80 := iv_le1 c6 i3 iz385 (by decide)
      refine lv_aload_n hx hb dX10_end_17 rfl (lv_at hl 0 rfl) ?_
      refine g_576 cx hw ha0 k_f_X10_10 dX10_end_18 (fun v8 e8 h8 => ?_)
      rw [show v8 = b576 from Option.some.inj (e8.symm.trans (hF576))]
      refine lv_iload_n hx hb dX10_end_21 rfl (lv_at hl 1 rfl) ?_
      refine p_385 cx hw hb576 (iv_w i7 (by decide)) k_f_X10_100 dX10_end_22 (fun σ9 H locs eσ9 hw => ?_)
      have fr := oFr_i fr eσ9 (by decide)
      refine lv_iconst (v := 1) hx hb dX10_end_25 (by decide) ?_
      rw [← hQ]
      exact o_rz cx rx hw (iv_nz01 (iv_w (⟨by decide, by decide⟩ : Iv 1 1 1) (by decide))) dX10_end_26 ⟨fr, (iv_w (⟨by decide, by decide⟩ : Iv 1 1 1) (by decide)), (by intro b hb9; rw [show b = b576 from Option.some.inj (hb9.symm.trans ((kr_c fr (by decide)).symm.trans (((kr_i eσ9).trans hF576))))]; exact (by have := (i7).1; have := (i7).2; have := (iz385).1; have := (iz385).2; have : (σ9.1 385 b576).toInt = (a1 : Int32).toInt := congrArg Int32.toInt (show σ9.1 385 b576 = a1 from (kp_s eσ9)); have : (0 : Int32).toInt ≤ (a1 : Int32).toInt := iv_le.mp (iv_nlt c1); have : (a1 : Int32).toInt ≤ ((σ.1 385 b576) : Int32).toInt := iv_le.mp c6; have : (0 : Int32).toInt = 0 := (by decide); have : (1 : Int32).toInt = 1 := (by decide); omega))⟩
    · --
      have i10 : Iv a1 1 2147483647 := iv_lt2 (iv_nle c6) iz385 i3 (by decide)
      refine lv_iconst (v := 0) hx hb dX10_end_15 (by decide) ?_
      rw [← hQ]
      exact o_rz cx rx hw (iv_nz01 (iv_w (⟨by decide, by decide⟩ : Iv 0 0 0) (by decide))) dX10_end_16 ⟨fr, (iv_w (⟨by decide, by decide⟩ : Iv 0 0 0) (by decide)), (by intro b hb9; rw [show b = b576 from Option.some.inj (hb9.symm.trans ((kr_c fr (by decide)).symm.trans (hF576)))]; exact (by have := (i10).1; have := (i10).2; have := (iz385).1; have := (iz385).2; have : (0 : Int32).toInt ≤ (a1 : Int32).toInt := iv_le.mp (iv_nlt c1); have : ((σ.1 385 b576) : Int32).toInt < (a1 : Int32).toInt := iv_lt.mp (iv_nle c6); have : (0 : Int32).toInt = 0 := (by decide); omega))⟩
end OM
