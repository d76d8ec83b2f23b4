section OM
variable {l : Launch} {A : Nat → Prop} {L : List Nat} {τ : Nat → Nat} {cy : Nat → ClassId} {D : va_G} {K : (Nat → Nat) × (Nat → Nat)} {σ : oSt}
abbrev fs_X9_pass : List Nat := [329, 331, 517]
abbrev ts_X9_pass : List Nat := [32, 33, 37, 38]
set_option maxHeartbeats 4000000 in
set_option maxRecDepth 100000 in
theorem c_X9_pass (a0 : Nat) (ha0 : oA L τ a0 8) (a1 : Nat) (ha1 : oA L τ a1 5) : oMet l A L τ cy D K yX9_pass cX9_pass 8 (some .int) 3 79 [.ref a0, .ref a1] σ (va_Qi (fun r σ1 => oFr τ fs_X9_pass ts_X9_pass σ σ1) (oPo A L τ cy D) A) := by
  refine oMk (by decide) (Nat.le_of_ble_eq_true rfl) rfl ?_
  intro p e s m args below meth c ls cx rx hA hw hl
  generalize hQ : MQ below _ args s 0 0 A = Q
  have hx := cx.1.1
  have hb := cx.1.2.1
  have hml := cx.1.2.2.1
  have hown := cx.1.2.2.2.1
  have hts := cx.1.2.2.2.2
  have hl : lv_has ls 8 [(0, .ref a0), (1, .ref a1)] := hl
  have fr : oFr τ fs_X9_pass ts_X9_pass σ σ := oFr_rf
  refine lv_aload_n hx hb dX9_pass_0 rfl (lv_at hl 0 rfl) ?_
  refine g_512 cx hw ha0 k_f_X9_24 dX9_pass_1 (fun v1 e1 h1 => ?_)
  refine lv_aload_n hx hb dX9_pass_4 rfl (lv_at hl 1 rfl) ?_
  refine g_330 cx hw ha1 k_f_X9_40 dX9_pass_5 (fun v2 e2 => ?_)
  refine o_cl hw (oRunV cx hA hw q_X2_openTo k_m_X9_45 rfl h1 (by decide) (As := [.int v2]) (c_X2_openTo v1 h1 v2) (by decide) rfl hl.1 rfl (Nat.le_of_ble_eq_true rfl) dX9_pass_8 (by decide)) (fun v4 σ3 H locs hp hw => ?_)
  have p4_0 := hp
  rw [p4_0] at hw
  refine lv_lstore_n (lv' := [(2, .long v4), (0, .ref a0), (1, .ref a1)]) hx hb dX9_pass_11 rfl hl (by decide) rfl (fun ls hl => ?_)
  refine lv_iconst (v := 0) hx hb dX9_pass_12 (by decide) ?_
  refine lv_istore (lv' := [(4, .int 0), (2, .long v4), (0, .ref a0), (1, .ref a1)]) hx hb dX9_pass_13 hl (by decide) rfl (fun ls hl => ?_)
  refine lv_aload_n hx hb dX9_pass_15 rfl (lv_at hl 3 rfl) ?_
  refine lv_dup hx hb dX9_pass_16 rfl ?_
  refine g_331 cx hw ha1 k_f_X9_51 dX9_pass_17 (fun v5 e5 => ?_)
  refine lv_iconst (v := 1) hx hb dX9_pass_20 (by decide) ?_
  refine lv_iadd hx hb dX9_pass_21 ?_
  refine lv_topi (fun v6 e6 => ?_)
  refine p_331 cx hw ha1 k_f_X9_51 dX9_pass_22 (fun σ7 H locs eσ7 hw => ?_)
  have fr := oFr_i fr eσ7 (by decide)
  refine lv_iconst (v := 0) hx hb dX9_pass_25 (by decide) ?_
  refine lv_istore (lv' := [(5, .int 0), (4, .int 0), (2, .long v4), (0, .ref a0), (1, .ref a1)]) hx hb dX9_pass_26 hl (by decide) rfl (fun ls hl => ?_)
  have J_28 : ∀ n : Nat, ∀ (j28_4 : Int32) (j28_5 : Int32) (ij28_5 : Iv j28_5 0 6), (6 - j28_5.toInt).toNat < n → ∀ (σ_28 : oSt) (H : Heap) (locs : List Loc), oI A L τ cy D s.heap σ_28 H locs → oFr τ fs_X9_pass ts_X9_pass σ σ_28 → ∀ (ls : Array Slot), lv_has ls 8 [(0, .ref a0), (1, .ref a1), (2, .long v4), (4, .int j28_4), (5, .int j28_5)] → W p l e ({ frames := 3, cells := 0, slots := 0, locals := 79 } : Room) s m args below meth c H locs 0 0 Q (F0 m 28 ls []) := by
    intro n
    induction n with
    | zero => intro j28_4 j28_5 ij28_5 hn_28  σ_28 H locs hw fr   ls hl; exact absurd hn_28 (Nat.not_lt_zero _)
    | succ n ih_28 =>
      intro j28_4 j28_5 ij28_5 hn_28  σ_28 H locs hw fr   ls hl
      refine lv_iload hx hb dX9_pass_28 (lv_at hl 4 rfl) ?_
      refine lv_aload_n hx hb dX9_pass_30 rfl (lv_at hl 1 rfl) ?_
      refine g_327 cx hw ha1 k_f_X9_54 dX9_pass_31 (fun v8 e8 i8 => ?_)
      refine lv_icmp_ge (tgt := 102) hx hb dX9_pass_34 (by decide) (fun c9 => ?_) (fun c9 => ?_)
      · --
        refine lv_aload_n hx hb dX9_pass_102 rfl (lv_at hl 0 rfl) ?_
        refine g_515 cx hw ha0 k_f_X9_15 dX9_pass_103 (fun v10 e10 => ?_)
        refine lv_if_le (tgt := 126) hx hb dX9_pass_106 (by decide) (fun c11 => ?_) (fun c11 => ?_)
        · --
          have i12 : Iv v10 (-2147483648) 0 := iv_le1 c11 (iv_top v10) (⟨by decide, by decide⟩ : Iv 0 0 0) (by decide)
          refine lv_iload hx hb dX9_pass_126 (lv_at hl 3 rfl) ?_
          rw [← hQ]
          exact o_ri cx rx hw dX9_pass_128 fr
        · --
          have i13 : Iv v10 1 2147483647 := iv_lt2 (iv_nle c11) (⟨by decide, by decide⟩ : Iv 0 0 0) (iv_top v10) (by decide)
          refine lv_aload_n hx hb dX9_pass_109 rfl (lv_at hl 1 rfl) ?_
          refine g_331 cx hw ha1 k_f_X9_51 dX9_pass_110 (fun v14 e14 => ?_)
          refine lv_aload_n hx hb dX9_pass_113 rfl (lv_at hl 0 rfl) ?_
          refine g_515 cx hw ha0 k_f_X9_15 dX9_pass_114 (fun v15 e15 => ?_)
          rw [show v15 = v10 from e15.trans e10.symm]
          refine lv_irem hx hb dX9_pass_117 (iv_nz i13 (by decide)) ?_
          refine lv_topi (fun v16 e16 => ?_)
          have i16 : Iv v16 (-2147483646) 2147483646 := iv_remA e16 i13 (by decide)
          refine lv_if_ne (tgt := 126) hx hb dX9_pass_118 (by decide) (fun c17 => ?_) (fun c17 => ?_)
          · --
            refine lv_iload hx hb dX9_pass_126 (lv_at hl 3 rfl) ?_
            rw [← hQ]
            exact o_ri cx rx hw dX9_pass_128 fr
          · --
            have i18 : Iv v16 0 0 := iv_eq1 c17 i16 (⟨by decide, by decide⟩ : Iv 0 0 0) (by decide)
            refine lv_aload_n hx hb dX9_pass_121 rfl (lv_at hl 0 rfl) ?_
            refine lv_aload_n hx hb dX9_pass_122 rfl (lv_at hl 1 rfl) ?_
            refine o_cv hw (oRunV cx hA hw q_X9_grow k_m_X9_75 rfl ha0 (by decide) (As := [.ref a1]) (c_X9_grow a0 ha0 a1 ha1) (by decide) rfl hl.1 rfl (Nat.le_of_ble_eq_true rfl) dX9_pass_123 (by decide)) (fun σ19 H locs hp hw => ?_)
            have p20_0 := hp
            have fr := oFr_tr fr p20_0 (by decide)
            refine lv_iload hx hb dX9_pass_126 (lv_at hl 3 rfl) ?_
            rw [← hQ]
            exact o_ri cx rx hw dX9_pass_128 fr
      · --
        have i21 : Iv j28_5 0 5 := iv_lt1 (iv_nle c9) ij28_5 i8 (by decide)
        have i22 : Iv v8 1 6 := iv_lt2 (iv_nle c9) ij28_5 i8 (by decide)
        refine lv_aload_n hx hb dX9_pass_37 rfl (lv_at hl 1 rfl) ?_
        refine g_325 cx hw ha1 k_f_X9_57 dX9_pass_38 (fun v23 e23 h23 => ?_)
        refine lv_iload hx hb dX9_pass_41 (lv_at hl 4 rfl) ?_
        refine o_iald cx hw h23 (by decide) rfl (iv_in i21 (by decide)) dX9_pass_43 (fun v24 e24 b24 => ?_)
        have i24 : Iv v24 0 63 := b24
        refine lv_istore (lv' := [(6, .int v24), (0, .ref a0), (1, .ref a1), (2, .long v4), (4, .int j28_4), (5, .int j28_5)]) hx hb dX9_pass_44 hl (by decide) rfl (fun ls hl => ?_)
        refine lv_aload_n hx hb dX9_pass_46 rfl (lv_at hl 1 rfl) ?_
        refine lv_aload_n hx hb dX9_pass_47 rfl (lv_at hl 2 rfl) ?_
        refine lv_iload hx hb dX9_pass_48 (lv_at hl 5 rfl) ?_
        refine lv_lload_n hx hb dX9_pass_50 rfl (lv_at hl 3 rfl) ?_
        refine o_ci hw (oRunV cx hA hw q_X9_choose k_m_X9_60 rfl ha0 (by decide) (As := [.ref a1, .int j28_5, .long v4]) (c_X9_choose a0 ha0 a1 ha1 j28_5 (iv_w i21 (by decide)) v4) (by decide) rfl hl.1 rfl (Nat.le_of_ble_eq_true rfl) dX9_pass_51 (by decide)) (fun v26 σ25 H locs hp hw => ?_)
        obtain ⟨p26_0, p26_1⟩ := hp
        have fr := oFr_tr fr p26_0 (by decide)
        refine lv_istore (lv' := [(7, .int v26), (6, .int v24), (0, .ref a0), (1, .ref a1), (2, .long v4), (4, .int j28_4), (5, .int j28_5)]) hx hb dX9_pass_54 hl (by decide) rfl (fun ls hl => ?_)
        refine lv_aload_n hx hb dX9_pass_56 rfl (lv_at hl 3 rfl) ?_
        refine lv_iload hx hb dX9_pass_57 (lv_at hl 6 rfl) ?_
        refine lv_iload hx hb dX9_pass_59 (lv_at hl 0 rfl) ?_
        refine o_cv hw (oRunV cx hA hw q_X6_tread k_m_X9_64 rfl ha1 (by decide) (As := [.int j28_5, .int v26]) (c_X6_tread a1 ha1 j28_5 (iv_w i21 (by decide)) v26 (iv_w p26_1 (by decide))) (by decide) rfl hl.1 rfl (Nat.le_of_ble_eq_true rfl) dX9_pass_61 (by decide)) (fun σ27 H locs hp hw => ?_)
        have p28_0 := hp
        have fr := oFr_tr fr p28_0 (by decide)
        refine lv_aload_n hx hb dX9_pass_64 rfl (lv_at hl 3 rfl) ?_
        refine lv_iload hx hb dX9_pass_65 (lv_at hl 0 rfl) ?_
        refine o_cv hw (oRunV cx hA hw q_X6_graze k_m_X9_68 rfl ha1 (by decide) (As := [.int v26]) (c_X6_graze a1 ha1 v26 (iv_w p26_1 (by decide))) (by decide) rfl hl.1 rfl (Nat.le_of_ble_eq_true rfl) dX9_pass_67 (by decide)) (fun σ29 H locs hp hw => ?_)
        have p30_0 := hp
        have fr := oFr_tr fr p30_0 (by decide)
        refine lv_iload hx hb dX9_pass_70 (lv_at hl 0 rfl) ?_
        refine lv_iload hx hb dX9_pass_72 (lv_at hl 1 rfl) ?_
        have J_96 : ∀ (j96_4 : Int32), ∀ (σ_96 : oSt) (H : Heap) (locs : List Loc), oI A L τ cy D s.heap σ_96 H locs → oFr τ fs_X9_pass ts_X9_pass σ σ_96 → ∀ (ls : Array Slot), lv_has ls 8 [(0, .ref a0), (1, .ref a1), (2, .long v4), (4, .int j96_4), (5, .int j28_5), (6, .int v24), (7, .int v26)] → W p l e ({ frames := 3, cells := 0, slots := 0, locals := 79 } : Room) s m args below meth c H locs 0 0 Q (F0 m 96 ls []) := by
          intro j96_4   σ_96 H locs hw fr   ls hl
          obtain ⟨v31, e31⟩ : ∃ y : Int32, y = j28_5 + 1 := ⟨_, rfl⟩
          have i31 : Iv v31 1 6 := iv_add e31 i21 (⟨by decide, by decide⟩ : Iv 1 1 1) (by decide)
          have x31 : v31.toInt = j28_5.toInt + 1 := ex_add e31 i21 (⟨by decide, by decide⟩ : Iv 1 1 1) (by decide)
          refine lv_iinc (v := v31) (lv' := [(5, .int v31), (0, .ref a0), (1, .ref a1), (2, .long v4), (4, .int j96_4), (6, .int v24), (7, .int v26)]) hx hb dX9_pass_96 hl (k := 4) rfl (by rw [e31]; rfl) (by decide) rfl (fun ls hl => ?_)
          refine lv_goto (tgt := 28) hx hb dX9_pass_99 (by decide) ?_
          exact ih_28 j96_4 v31 (iv_w i31 (by decide)) (ms_up x31 (by decide) (iv_w (a' := 0) (b' := 6) i31 (by decide)).2 hn_28) σ_96 _ _ hw fr _ (lv_sub hl [1, 2, 3, 4, 0] rfl)
        refine lv_icmp_ne (tgt := 93) hx hb dX9_pass_74 (by decide) (fun c32 => ?_) (fun c32 => ?_)
        · --
          obtain ⟨v33, e33⟩ : ∃ y : Int32, y = j28_4 + 1 := ⟨_, rfl⟩
          refine lv_iinc (v := v33) (lv' := [(4, .int v33), (7, .int v26), (6, .int v24), (0, .ref a0), (1, .ref a1), (2, .long v4), (5, .int j28_5)]) hx hb dX9_pass_93 hl (k := 5) rfl (by rw [e33]; rfl) (by decide) rfl (fun ls hl => ?_)
          exact J_96 v33 σ29 _ _ hw fr _ (lv_sub hl [3, 4, 5, 0, 6, 2, 1] rfl)
        · --
          refine lv_aload_n hx hb dX9_pass_77 rfl (lv_at hl 3 rfl) ?_
          refine lv_dup hx hb dX9_pass_78 rfl ?_
          refine g_329 cx hw ha1 k_f_X9_72 dX9_pass_79 (fun v34 e34 => ?_)
          refine lv_iconst (v := 1) hx hb dX9_pass_82 (by decide) ?_
          refine lv_iload hx hb dX9_pass_83 (lv_at hl 6 rfl) ?_
          refine lv_ishl hx hb dX9_pass_85 ?_
          refine lv_topi (fun v35 e35 => ?_)
          have i35 : Iv v35 1 32 := iv_shl1 e35 i21 (by decide)
          refine lv_ior hx hb dX9_pass_86 ?_
          refine lv_topi (fun v36 e36 => ?_)
          refine p_329 cx hw ha1 k_f_X9_72 dX9_pass_87 (fun σ37 H locs eσ37 hw => ?_)
          have fr := oFr_i fr eσ37 (by decide)
          refine lv_goto (tgt := 96) hx hb dX9_pass_90 (by decide) ?_
          exact J_96 j28_4 σ37 _ _ hw fr _ (lv_sub hl [2, 3, 4, 5, 6, 1, 0] rfl)
  exact J_28 _ 0 0 (iv_w (⟨by decide, by decide⟩ : Iv 0 0 0) (by decide)) (Nat.lt_succ_self _) σ7 _ _ hw fr _ (lv_sub hl [3, 4, 2, 1, 0] rfl)
abbrev fs_X4_start : List Nat := [193]
abbrev ts_X4_start : List Nat := []
set_option maxHeartbeats 4000000 in
set_option maxRecDepth 100000 in
theorem c_X4_start (a0 : Nat) (ha0 : oA L τ a0 3) : oMet l A L τ cy D K yX4_start cX4_start 1 none 0 0 [.ref a0] σ (va_Qv (fun σ1 => oFr τ fs_X4_start ts_X4_start σ σ1) (oPo A L τ cy D) A) := by
  refine oMk (by decide) (Nat.le_of_ble_eq_true rfl) rfl ?_
  intro p e s m args below meth c ls cx rx hA hw hl
  generalize hQ : MQ below _ args s 0 0 A = Q
  have hx := cx.1.1
  have hb := cx.1.2.1
  have hml := cx.1.2.2.1
  have hown := cx.1.2.2.2.1
  have hts := cx.1.2.2.2.2
  have hl : lv_has ls 1 [(0, .ref a0)] := hl
  have fr : oFr τ fs_X4_start ts_X4_start σ σ := oFr_rf
  refine lv_aload_n hx hb dX4_start_0 rfl (lv_at hl 0 rfl) ?_
  refine lv_iconst (v := 0) hx hb dX4_start_1 (by decide) ?_
  refine p_193 cx hw ha0 (iv_w (⟨by decide, by decide⟩ : Iv 0 0 0) (by decide)) k_f_X4_13 dX4_start_2 (fun σ1 H locs eσ1 hw => ?_)
  have fr := oFr_i fr eσ1 (by decide)
  rw [← hQ]
  exact o_rv cx rx hw dX4_start_5 fr
abbrev fs_X4_put : List Nat := [193]
abbrev ts_X4_put : List Nat := [36]
set_option maxHeartbeats 4000000 in
set_option maxRecDepth 100000 in
theorem c_X4_put (a0 : Nat) (ha0 : oA L τ a0 3) (a1 : Int64) : oMet l A L τ cy D K yX4_put cX4_put 3 none 0 0 [.ref a0, .long a1] σ (va_Qv (fun σ1 => oFr τ fs_X4_put ts_X4_put σ σ1) (oPo A L τ cy D) A) := by
  refine oMk (by decide) (Nat.le_of_ble_eq_true rfl) rfl ?_
  intro p e s m args below meth c ls cx rx hA hw hl
  generalize hQ : MQ below _ args s 0 0 A = Q
  have hx := cx.1.1
  have hb := cx.1.2.1
  have hml := cx.1.2.2.1
  have hown := cx.1.2.2.2.1
  have hts := cx.1.2.2.2.2
  have hl : lv_has ls 3 [(0, .ref a0), (1, .long a1)] := hl
  have fr : oFr τ fs_X4_put ts_X4_put σ σ := oFr_rf
  refine lv_aload_n hx hb dX4_put_0 rfl (lv_at hl 0 rfl) ?_
  refine g_193 cx hw ha0 k_f_X4_13 dX4_put_1 (fun v1 e1 i1 => ?_)
  refine lv_bipush (v := 14) hx hb dX4_put_4 (by decide) ?_
  refine lv_icmp_ge (tgt := 29) hx hb dX4_put_6 (by decide) (fun c2 => ?_) (fun c2 => ?_)
  · --
    have i3 : Iv v1 14 14 := iv_le2 c2 (⟨by decide, by decide⟩ : Iv 14 14 14) i1 (by decide)
    rw [← hQ]
    exact o_rv cx rx hw dX4_put_29 fr
  · --
    have i4 : Iv v1 0 13 := iv_lt1 (iv_nle c2) i1 (⟨by decide, by decide⟩ : Iv 14 14 14) (by decide)
    refine lv_aload_n hx hb dX4_put_9 rfl (lv_at hl 0 rfl) ?_
    refine g_192 cx hw ha0 k_f_X4_9 dX4_put_10 (fun v5 e5 h5 => ?_)
    refine lv_aload_n hx hb dX4_put_13 rfl (lv_at hl 0 rfl) ?_
    refine g_193 cx hw ha0 k_f_X4_13 dX4_put_14 (fun v6 e6 i6 => ?_)
    rw [show v6 = v1 from e6.trans e1.symm]
    refine lv_lload_n hx hb dX4_put_17 rfl (lv_at hl 1 rfl) ?_
    refine o_last cx hw h5 (by decide) rfl (iv_in i4 (by decide)) dX4_put_18 (fun σ7 H locs eσ7 hw => ?_)
    have fr := oFr_q fr eσ7 h5 (by decide)
    refine lv_aload_n hx hb dX4_put_19 rfl (lv_at hl 0 rfl) ?_
    refine lv_dup hx hb dX4_put_20 rfl ?_
    refine g_193 cx hw ha0 k_f_X4_13 dX4_put_21 (fun v8 e8 i8 => ?_)
    rw [show v8 = v1 from e8.trans ((kp_q eσ7).trans e1.symm)]
    refine lv_iconst (v := 1) hx hb dX4_put_24 (by decide) ?_
    refine lv_iadd hx hb dX4_put_25 ?_
    refine lv_topi (fun v9 e9 => ?_)
    have i9 : Iv v9 1 14 := iv_add e9 i4 (⟨by decide, by decide⟩ : Iv 1 1 1) (by decide)
    have x9 : v9.toInt = v1.toInt + 1 := ex_add e9 i4 (⟨by decide, by decide⟩ : Iv 1 1 1) (by decide)
    refine p_193 cx hw ha0 (iv_w i9 (by decide)) k_f_X4_13 dX4_put_26 (fun σ10 H locs eσ10 hw => ?_)
    have fr := oFr_i fr eσ10 (by decide)
    rw [← hQ]
    exact o_rv cx rx hw dX4_put_29 fr
abbrev fs_X10_tellPlaces : List Nat := [193]
abbrev ts_X10_tellPlaces : List Nat := [36]
set_option maxHeartbeats 4000000 in
set_option maxRecDepth 100000 in
theorem c_X10_tellPlaces (a0 : Nat) (ha0 : oA L τ a0 9) (a1 : Nat) (ha1 : oA L τ a1 5) : oMet l A L τ cy D K yX10_tellPlaces cX10_tellPlaces 3 none 1 22 [.ref a0, .ref a1] σ (va_Qv (fun σ1 => oFr τ fs_X10_tellPlaces ts_X10_tellPlaces σ σ1) (oPo A L τ cy D) A) := by
  refine oMk (by decide) (Nat.le_of_ble_eq_true rfl) rfl ?_
  intro p e s m args below meth c ls cx rx hA hw hl
  generalize hQ : MQ below _ args s 0 0 A = Q
  have hx := cx.1.1
  have hb := cx.1.2.1
  have hml := cx.1.2.2.1
  have hown := cx.1.2.2.2.1
  have hts := cx.1.2.2.2.2
  have hl : lv_has ls 3 [(0, .ref a0), (1, .ref a1)] := hl
  have fr : oFr τ fs_X10_tellPlaces ts_X10_tellPlaces σ σ := oFr_rf
  refine lv_aload_n hx hb dX10_tellPlaces_0 rfl (lv_at hl 0 rfl) ?_
  refine g_577 cx hw ha0 k_f_X10_19 dX10_tellPlaces_1 (fun v1 e1 h1 => ?_)
  refine o_cv hw (oRunV cx hA hw q_X4_start k_m_X10_292 rfl h1 (by decide) (As := []) (c_X4_start v1 h1) (by decide) rfl hl.1 rfl (Nat.le_of_ble_eq_true rfl) dX10_tellPlaces_4 (by decide)) (fun σ2 H locs hp hw => ?_)
  have p3_0 := hp
  have fr := oFr_tr fr p3_0 (by decide)
  refine lv_iconst (v := 0) hx hb dX10_tellPlaces_7 (by decide) ?_
  refine lv_istore_n (lv' := [(2, .int 0), (0, .ref a0), (1, .ref a1)]) hx hb dX10_tellPlaces_8 rfl hl (by decide) rfl (fun ls hl => ?_)
  have J_9 : ∀ n : Nat, ∀ (j9_2 : Int32) (ij9_2 : Iv j9_2 0 6), (6 - j9_2.toInt).toNat < n → ∀ (σ_9 : oSt) (H : Heap) (locs : List Loc), oI A L τ cy D s.heap σ_9 H locs → oFr τ fs_X10_tellPlaces ts_X10_tellPlaces σ σ_9 → ∀ (ls : Array Slot), lv_has ls 3 [(0, .ref a0), (1, .ref a1), (2, .int j9_2)] → W p l e ({ frames := 1, cells := 0, slots := 0, locals := 22 } : Room) s m args below meth c H locs 0 0 Q (F0 m 9 ls []) := by
    intro n
    induction n with
    | zero => intro j9_2 ij9_2 hn_9  σ_9 H locs hw fr   ls hl; exact absurd hn_9 (Nat.not_lt_zero _)
    | succ n ih_9 =>
      intro j9_2 ij9_2 hn_9  σ_9 H locs hw fr   ls hl
      refine lv_iload_n hx hb dX10_tellPlaces_9 rfl (lv_at hl 2 rfl) ?_
      refine lv_aload_n hx hb dX10_tellPlaces_10 rfl (lv_at hl 1 rfl) ?_
      refine g_327 cx hw ha1 k_f_X10_206 dX10_tellPlaces_11 (fun v4 e4 i4 => ?_)
      refine lv_icmp_ge (tgt := 37) hx hb dX10_tellPlaces_14 (by decide) (fun c5 => ?_) (fun c5 => ?_)
      · --
        rw [← hQ]
        exact o_rv cx rx hw dX10_tellPlaces_37 fr
      · --
        have i6 : Iv j9_2 0 5 := iv_lt1 (iv_nle c5) ij9_2 i4 (by decide)
        have i7 : Iv v4 1 6 := iv_lt2 (iv_nle c5) ij9_2 i4 (by decide)
        refine lv_aload_n hx hb dX10_tellPlaces_17 rfl (lv_at hl 0 rfl) ?_
        refine g_577 cx hw ha0 k_f_X10_19 dX10_tellPlaces_18 (fun v8 e8 h8 => ?_)
        refine lv_aload_n hx hb dX10_tellPlaces_21 rfl (lv_at hl 1 rfl) ?_
        refine g_325 cx hw ha1 k_f_X10_183 dX10_tellPlaces_22 (fun v9 e9 h9 => ?_)
        refine lv_iload_n hx hb dX10_tellPlaces_25 rfl (lv_at hl 2 rfl) ?_
        refine o_iald cx hw h9 (by decide) rfl (iv_in i6 (by decide)) dX10_tellPlaces_26 (fun v10 e10 b10 => ?_)
        have i10 : Iv v10 0 63 := b10
        refine lv_i2l hx hb dX10_tellPlaces_27 rfl ?_
        refine lv_topl (fun v11 e11 => ?_)
        refine o_cv hw (oRunV cx hA hw q_X4_put k_m_X10_295 rfl h8 (by decide) (As := [.long v11]) (c_X4_put v8 h8 v11) (by decide) rfl hl.1 rfl (Nat.le_of_ble_eq_true rfl) dX10_tellPlaces_28 (by decide)) (fun σ12 H locs hp hw => ?_)
        have p13_0 := hp
        have fr := oFr_tr fr p13_0 (by decide)
        obtain ⟨v14, e14⟩ : ∃ y : Int32, y = j9_2 + 1 := ⟨_, rfl⟩
        have i14 : Iv v14 1 6 := iv_add e14 i6 (⟨by decide, by decide⟩ : Iv 1 1 1) (by decide)
        have x14 : v14.toInt = j9_2.toInt + 1 := ex_add e14 i6 (⟨by decide, by decide⟩ : Iv 1 1 1) (by decide)
        refine lv_iinc (v := v14) (lv' := [(2, .int v14), (0, .ref a0), (1, .ref a1)]) hx hb dX10_tellPlaces_31 hl (k := 2) rfl (by rw [e14]; rfl) (by decide) rfl (fun ls hl => ?_)
        refine lv_goto (tgt := 9) hx hb dX10_tellPlaces_34 (by decide) ?_
        exact ih_9 v14 (iv_w i14 (by decide)) (ms_up x14 (by decide) (iv_w (a' := 0) (b' := 6) i14 (by decide)).2 hn_9) σ12 _ _ hw fr _ (lv_sub hl [1, 2, 0] rfl)
  exact J_9 _ 0 (iv_w (⟨by decide, by decide⟩ : Iv 0 0 0) (by decide)) (Nat.lt_succ_self _) σ2 _ _ hw fr _ (lv_sub hl [1, 2, 0] rfl)
abbrev fs_X10_hour : List Nat := [129, 130, 193, 327, 328, 329, 330, 331, 517]
abbrev ts_X10_hour : List Nat := [32, 33, 34, 36, 37, 38]
set_option maxHeartbeats 4000000 in
set_option maxRecDepth 100000 in
theorem c_X10_hour (a0 : Nat) (ha0 : oA L τ a0 9) : oMet l A L τ cy D K yX10_hour cX10_hour 2 (some .int) 4 123 [.ref a0] σ (va_Qi (fun r σ1 => oFr τ fs_X10_hour ts_X10_hour σ σ1) (oPo A L τ cy D) A) := by
  refine oMk (by decide) (Nat.le_of_ble_eq_true rfl) rfl ?_
  intro p e s m args below meth c ls cx rx hA hw hl
  generalize hQ : MQ below _ args s 0 0 A = Q
  have hx := cx.1.1
  have hb := cx.1.2.1
  have hml := cx.1.2.2.1
  have hown := cx.1.2.2.2.1
  have hts := cx.1.2.2.2.2
  have hl : lv_has ls 2 [(0, .ref a0)] := hl
  have fr : oFr τ fs_X10_hour ts_X10_hour σ σ := oFr_rf
  refine lv_aload_n hx hb dX10_hour_0 rfl (lv_at hl 0 rfl) ?_
  refine g_582 cx hw ha0 k_f_X10_53 dX10_hour_1 (fun v1 e1 h1 => ?_)
  refine lv_aload_n hx hb dX10_hour_4 rfl (lv_at hl 0 rfl) ?_
  refine g_581 cx hw ha0 k_f_X10_49 dX10_hour_5 (fun v2 e2 h2 => ?_)
  refine o_cv hw (oRunV cx hA hw q_X6_copyFrom k_m_X10_131 rfl h1 (by decide) (As := [.ref v2]) (c_X6_copyFrom v1 h1 v2 h2) (by decide) rfl hl.1 rfl (Nat.le_of_ble_eq_true rfl) dX10_hour_8 (by decide)) (fun σ3 H locs hp hw => ?_)
  have p4_0 := hp
  have fr := oFr_tr fr p4_0 (by decide)
  refine lv_aload_n hx hb dX10_hour_11 rfl (lv_at hl 0 rfl) ?_
  refine g_580 cx hw ha0 k_f_X10_42 dX10_hour_12 (fun v5 e5 h5 => ?_)
  refine lv_aload_n hx hb dX10_hour_15 rfl (lv_at hl 0 rfl) ?_
  refine g_581 cx hw ha0 k_f_X10_49 dX10_hour_16 (fun v6 e6 h6 => ?_)
  rw [show v6 = v2 from Option.some.inj (e6.symm.trans (((kr_c p4_0 (by decide)).trans e2)))]
  refine o_ci hw (oRunV cx hA hw q_X9_pass k_m_X10_269 rfl h5 (by decide) (As := [.ref v2]) (c_X9_pass v5 h5 v2 h2) (by decide) rfl hl.1 rfl (Nat.le_of_ble_eq_true rfl) dX10_hour_19 (by decide)) (fun v8 σ7 H locs hp hw => ?_)
  have p8_0 := hp
  have fr := oFr_tr fr p8_0 (by decide)
  refine lv_istore_n (lv' := [(1, .int v8), (0, .ref a0)]) hx hb dX10_hour_22 rfl hl (by decide) rfl (fun ls hl => ?_)
  refine lv_aload_n hx hb dX10_hour_23 rfl (lv_at hl 1 rfl) ?_
  refine lv_aload_n hx hb dX10_hour_24 rfl (lv_at hl 1 rfl) ?_
  refine g_581 cx hw ha0 k_f_X10_49 dX10_hour_25 (fun v9 e9 h9 => ?_)
  rw [show v9 = v2 from Option.some.inj (e9.symm.trans (((kr_c p8_0 (by decide)).trans ((kr_c p4_0 (by decide)).trans e2))))]
  refine o_cv hw (oRunV cx hA hw q_X10_tellPlaces k_m_X10_273 rfl ha0 (by decide) (As := [.ref v2]) (c_X10_tellPlaces a0 ha0 v2 h2) (by decide) rfl hl.1 rfl (Nat.le_of_ble_eq_true rfl) dX10_hour_28 (by decide)) (fun σ10 H locs hp hw => ?_)
  have p11_0 := hp
  have fr := oFr_tr fr p11_0 (by decide)
  refine lv_aload_n hx hb dX10_hour_31 rfl (lv_at hl 1 rfl) ?_
  refine lv_iload_n hx hb dX10_hour_32 rfl (lv_at hl 0 rfl) ?_
  refine o_ci hw (oRunV cx hA hw q_X10_remembered k_m_X10_260 rfl ha0 (by decide) (As := [.int v8]) (c_X10_remembered a0 ha0 v8) (by decide) rfl hl.1 rfl (Nat.le_of_ble_eq_true rfl) dX10_hour_33 (by decide)) (fun v13 σ12 H locs hp hw => ?_)
  have p13_0 := hp
  have fr := oFr_tr fr p13_0 (by decide)
  rw [← hQ]
  exact o_ri cx rx hw dX10_hour_36 fr
abbrev fs_X9_passMany : List Nat := [329, 331, 517]
abbrev ts_X9_passMany : List Nat := [32, 33, 37, 38]
set_option maxHeartbeats 4000000 in
set_option maxRecDepth 100000 in
theorem c_X9_passMany (a0 : Nat) (ha0 : oA L τ a0 8) (a1 : Nat) (ha1 : oA L τ a1 5) (a2 : Int32) : oMet l A L τ cy D K yX9_passMany cX9_passMany 5 (some .int) 4 106 [.ref a0, .ref a1, .int a2] σ (va_Qi (fun r σ1 => oFr τ fs_X9_passMany ts_X9_passMany σ σ1) (oPo A L τ cy D) A) := by
  refine oMk (by decide) (Nat.le_of_ble_eq_true rfl) rfl ?_
  intro p e s m args below meth c ls cx rx hA hw hl
  generalize hQ : MQ below _ args s 0 0 A = Q
  have hx := cx.1.1
  have hb := cx.1.2.1
  have hml := cx.1.2.2.1
  have hown := cx.1.2.2.2.1
  have hts := cx.1.2.2.2.2
  have hl : lv_has ls 5 [(0, .ref a0), (1, .ref a1), (2, .int a2)] := hl
  have fr : oFr τ fs_X9_passMany ts_X9_passMany σ σ := oFr_rf
  refine lv_iconst (v := 0) hx hb dX9_passMany_0 (by decide) ?_
  refine lv_istore_n (lv' := [(3, .int 0), (0, .ref a0), (1, .ref a1), (2, .int a2)]) hx hb dX9_passMany_1 rfl hl (by decide) rfl (fun ls hl => ?_)
  refine lv_iconst (v := 0) hx hb dX9_passMany_2 (by decide) ?_
  refine lv_istore (lv' := [(4, .int 0), (3, .int 0), (0, .ref a0), (1, .ref a1), (2, .int a2)]) hx hb dX9_passMany_3 hl (by decide) rfl (fun ls hl => ?_)
  have J_5 : ∀ n : Nat, ∀ (j5_3 : Int32) (j5_4 : Int32) (ij5_4 : Iv j5_4 0 2147483647), (2147483647 - j5_4.toInt).toNat < n → ∀ (σ_5 : oSt) (H : Heap) (locs : List Loc), oI A L τ cy D s.heap σ_5 H locs → oFr τ fs_X9_passMany ts_X9_passMany σ σ_5 → ∀ (ls : Array Slot), lv_has ls 5 [(0, .ref a0), (1, .ref a1), (2, .int a2), (3, .int j5_3), (4, .int j5_4)] → W p l e ({ frames := 4, cells := 0, slots := 0, locals := 106 } : Room) s m args below meth c H locs 0 0 Q (F0 m 5 ls []) := by
    intro n
    induction n with
    | zero => intro j5_3 j5_4 ij5_4 hn_5  σ_5 H locs hw fr   ls hl; exact absurd hn_5 (Nat.not_lt_zero _)
    | succ n ih_5 =>
      intro j5_3 j5_4 ij5_4 hn_5  σ_5 H locs hw fr   ls hl
      refine lv_iload hx hb dX9_passMany_5 (lv_at hl 4 rfl) ?_
      refine lv_iload_n hx hb dX9_passMany_7 rfl (lv_at hl 2 rfl) ?_
      refine lv_icmp_ge (tgt := 25) hx hb dX9_passMany_8 (by decide) (fun c1 => ?_) (fun c1 => ?_)
      · --
        refine lv_iload_n hx hb dX9_passMany_25 rfl (lv_at hl 3 rfl) ?_
        rw [← hQ]
        exact o_ri cx rx hw dX9_passMany_26 fr
      · --
        have i2 : Iv j5_4 0 2147483646 := iv_lt1 (iv_nle c1) ij5_4 (iv_top a2) (by decide)
        have i3 : Iv a2 1 2147483647 := iv_lt2 (iv_nle c1) ij5_4 (iv_top a2) (by decide)
        refine lv_iload_n hx hb dX9_passMany_11 rfl (lv_at hl 3 rfl) ?_
        refine lv_aload_n hx hb dX9_passMany_12 rfl (lv_at hl 0 rfl) ?_
        refine lv_aload_n hx hb dX9_passMany_13 rfl (lv_at hl 1 rfl) ?_
        refine o_ci hw (oRunV cx hA hw q_X9_pass k_m_X9_79 rfl ha0 (by decide) (As := [.ref a1]) (c_X9_pass a0 ha0 a1 ha1) (by decide) rfl hl.1 rfl (Nat.le_of_ble_eq_true rfl) dX9_passMany_14 (by decide)) (fun v5 σ4 H locs hp hw => ?_)
        have p5_0 := hp
        have fr := oFr_tr fr p5_0 (by decide)
        refine lv_iadd hx hb dX9_passMany_17 ?_
        refine lv_topi (fun v6 e6 => ?_)
        refine lv_istore_n (lv' := [(3, .int v6), (0, .ref a0), (1, .ref a1), (2, .int a2), (4, .int j5_4)]) hx hb dX9_passMany_18 rfl hl (by decide) rfl (fun ls hl => ?_)
        obtain ⟨v7, e7⟩ : ∃ y : Int32, y = j5_4 + 1 := ⟨_, rfl⟩
        have i7 : Iv v7 1 2147483647 := iv_add e7 i2 (⟨by decide, by decide⟩ : Iv 1 1 1) (by decide)
        have x7 : v7.toInt = j5_4.toInt + 1 := ex_add e7 i2 (⟨by decide, by decide⟩ : Iv 1 1 1) (by decide)
        refine lv_iinc (v := v7) (lv' := [(4, .int v7), (3, .int v6), (0, .ref a0), (1, .ref a1), (2, .int a2)]) hx hb dX9_passMany_19 hl (k := 4) rfl (by rw [e7]; rfl) (by decide) rfl (fun ls hl => ?_)
        refine lv_goto (tgt := 5) hx hb dX9_passMany_22 (by decide) ?_
        exact ih_5 v6 v7 (iv_w i7 (by decide)) (ms_up x7 (by decide) (iv_w (a' := 0) (b' := 2147483647) i7 (by decide)).2 hn_5) σ4 _ _ hw fr _ (lv_sub hl [2, 3, 4, 1, 0] rfl)
  exact J_5 _ 0 0 (iv_w (⟨by decide, by decide⟩ : Iv 0 0 0) (by decide)) (Nat.lt_succ_self _) σ _ _ hw fr _ (lv_sub hl [2, 3, 4, 1, 0] rfl)
abbrev fs_X10_hours : List Nat := [129, 130, 193, 327, 328, 329, 330, 331, 517]
abbrev ts_X10_hours : List Nat := [32, 33, 34, 36, 37, 38]
set_option maxHeartbeats 4000000 in
set_option maxRecDepth 100000 in
theorem c_X10_hours (a0 : Nat) (ha0 : oA L τ a0 9) (a1 : Int32) : oMet l A L τ cy D K yX10_hours cX10_hours 3 (some .int) 5 130 [.ref a0, .int a1] σ (va_Qi (fun r σ1 => oFr τ fs_X10_hours ts_X10_hours σ σ1) (oPo A L τ cy D) A) := by
  refine oMk (by decide) (Nat.le_of_ble_eq_true rfl) rfl ?_
  intro p e s m args below meth c ls cx rx hA hw hl
  generalize hQ : MQ below _ args s 0 0 A = Q
  have hx := cx.1.1
  have hb := cx.1.2.1
  have hml := cx.1.2.2.1
  have hown := cx.1.2.2.2.1
  have hts := cx.1.2.2.2.2
  have hl : lv_has ls 3 [(0, .ref a0), (1, .int a1)] := hl
  have fr : oFr τ fs_X10_hours ts_X10_hours σ σ := oFr_rf
  refine lv_iload_n hx hb dX10_hours_0 rfl (lv_at hl 1 rfl) ?_
  refine lv_if_lt (tgt := 10) hx hb dX10_hours_1 (by decide) (fun c1 => ?_) (fun c1 => ?_)
  · --
    have i2 : Iv a1 (-2147483648) (-1) := iv_lt1 c1 (iv_top a1) (⟨by decide, by decide⟩ : Iv 0 0 0) (by decide)
    refine lv_iconst (v := (-1)) hx hb dX10_hours_10 (by decide) ?_
    rw [← hQ]
    exact o_ri cx rx hw dX10_hours_11 fr
  · --
    have i3 : Iv a1 0 2147483647 := iv_le2 (iv_nlt c1) (⟨by decide, by decide⟩ : Iv 0 0 0) (iv_top a1) (by decide)
    refine lv_iload_n hx hb dX10_hours_4 rfl (lv_at hl 1 rfl) ?_
    refine lv_bipush (v := 60) hx hb dX10_hours_5 (by decide) ?_
    refine lv_icmp_le (tgt := 12) hx hb dX10_hours_7 (by decide) (fun c4 => ?_) (fun c4 => ?_)
    · --
      have i5 : Iv a1 0 60 := iv_le1 c4 i3 (⟨by decide, by decide⟩ : Iv 60 60 60) (by decide)
      refine lv_aload_n hx hb dX10_hours_12 rfl (lv_at hl 0 rfl) ?_
      refine g_582 cx hw ha0 k_f_X10_53 dX10_hours_13 (fun v6 e6 h6 => ?_)
      refine lv_aload_n hx hb dX10_hours_16 rfl (lv_at hl 0 rfl) ?_
      refine g_581 cx hw ha0 k_f_X10_49 dX10_hours_17 (fun v7 e7 h7 => ?_)
      refine o_cv hw (oRunV cx hA hw q_X6_copyFrom k_m_X10_131 rfl h6 (by decide) (As := [.ref v7]) (c_X6_copyFrom v6 h6 v7 h7) (by decide) rfl hl.1 rfl (Nat.le_of_ble_eq_true rfl) dX10_hours_20 (by decide)) (fun σ8 H locs hp hw => ?_)
      have p9_0 := hp
      have fr := oFr_tr fr p9_0 (by decide)
      refine lv_aload_n hx hb dX10_hours_23 rfl (lv_at hl 0 rfl) ?_
      refine g_580 cx hw ha0 k_f_X10_42 dX10_hours_24 (fun v10 e10 h10 => ?_)
      refine lv_aload_n hx hb dX10_hours_27 rfl (lv_at hl 0 rfl) ?_
      refine g_581 cx hw ha0 k_f_X10_49 dX10_hours_28 (fun v11 e11 h11 => ?_)
      rw [show v11 = v7 from Option.some.inj (e11.symm.trans (((kr_c p9_0 (by decide)).trans e7)))]
      refine lv_iload_n hx hb dX10_hours_31 rfl (lv_at hl 1 rfl) ?_
      refine o_ci hw (oRunV cx hA hw q_X9_passMany k_m_X10_276 rfl h10 (by decide) (As := [.ref v7, .int a1]) (c_X9_passMany v10 h10 v7 h7 a1) (by decide) rfl hl.1 rfl (Nat.le_of_ble_eq_true rfl) dX10_hours_32 (by decide)) (fun v13 σ12 H locs hp hw => ?_)
      have p13_0 := hp
      have fr := oFr_tr fr p13_0 (by decide)
      refine lv_istore_n (lv' := [(2, .int v13), (0, .ref a0), (1, .int a1)]) hx hb dX10_hours_35 rfl hl (by decide) rfl (fun ls hl => ?_)
      refine lv_aload_n hx hb dX10_hours_36 rfl (lv_at hl 1 rfl) ?_
      refine lv_aload_n hx hb dX10_hours_37 rfl (lv_at hl 1 rfl) ?_
      refine g_581 cx hw ha0 k_f_X10_49 dX10_hours_38 (fun v14 e14 h14 => ?_)
      rw [show v14 = v7 from Option.some.inj (e14.symm.trans (((kr_c p13_0 (by decide)).trans ((kr_c p9_0 (by decide)).trans e7))))]
      refine o_cv hw (oRunV cx hA hw q_X10_tellPlaces k_m_X10_273 rfl ha0 (by decide) (As := [.ref v7]) (c_X10_tellPlaces a0 ha0 v7 h7) (by decide) rfl hl.1 rfl (Nat.le_of_ble_eq_true rfl) dX10_hours_41 (by decide)) (fun σ15 H locs hp hw => ?_)
      have p16_0 := hp
      have fr := oFr_tr fr p16_0 (by decide)
      refine lv_iload_n hx hb dX10_hours_44 rfl (lv_at hl 2 rfl) ?_
      refine lv_if_ne (tgt := 52) hx hb dX10_hours_45 (by decide) (fun c17 => ?_) (fun c17 => ?_)
      · --
        have i18 : Iv a1 1 60 := iv_ne1 c17 i5 (⟨by decide, by decide⟩ : Iv 0 0 0) (by decide)
        refine lv_aload_n hx hb dX10_hours_52 rfl (lv_at hl 1 rfl) ?_
        refine lv_iload_n hx hb dX10_hours_53 rfl (lv_at hl 0 rfl) ?_
        refine o_ci hw (oRunV cx hA hw q_X10_remembered k_m_X10_260 rfl ha0 (by decide) (As := [.int v13]) (c_X10_remembered a0 ha0 v13) (by decide) rfl hl.1 rfl (Nat.le_of_ble_eq_true rfl) dX10_hours_54 (by decide)) (fun v20 σ19 H locs hp hw => ?_)
        have p20_0 := hp
        have fr := oFr_tr fr p20_0 (by decide)
        rw [← hQ]
        exact o_ri cx rx hw dX10_hours_57 fr
      · --
        have i21 : Iv a1 0 0 := iv_eq1 c17 i5 (⟨by decide, by decide⟩ : Iv 0 0 0) (by decide)
        refine lv_iload_n hx hb dX10_hours_48 rfl (lv_at hl 0 rfl) ?_
        refine lv_goto (tgt := 57) hx hb dX10_hours_49 (by decide) ?_
        rw [← hQ]
        exact o_ri cx rx hw dX10_hours_57 fr
    · --
      have i22 : Iv a1 61 2147483647 := iv_lt2 (iv_nle c4) (⟨by decide, by decide⟩ : Iv 60 60 60) i3 (by decide)
      refine lv_iconst (v := (-1)) hx hb dX10_hours_10 (by decide) ?_
      rw [← hQ]
      exact o_ri cx rx hw dX10_hours_11 fr
abbrev fs_X10_perform : List Nat := [329, 330, 331, 517]
abbrev ts_X10_perform : List Nat := [32, 33, 37, 38]
set_option maxHeartbeats 4000000 in
set_option maxRecDepth 100000 in
theorem c_X10_perform (a0 : Nat) (ha0 : oA L τ a0 9) (a1 : Int32) : oMet l A L τ cy D K yX10_perform cX10_perform 4 (some .int) 5 130 [.ref a0, .int a1] σ (va_Qi (fun r σ1 => oFr τ fs_X10_perform ts_X10_perform σ σ1) (oPo A L τ cy D) A) := by
  refine oMk (by decide) (Nat.le_of_ble_eq_true rfl) rfl ?_
  intro p e s m args below meth c ls cx rx hA hw hl
  generalize hQ : MQ below _ args s 0 0 A = Q
  have hx := cx.1.1
  have hb := cx.1.2.1
  have hml := cx.1.2.2.1
  have hown := cx.1.2.2.2.1
  have hts := cx.1.2.2.2.2
  have hl : lv_has ls 4 [(0, .ref a0), (1, .int a1)] := hl
  have fr : oFr τ fs_X10_perform ts_X10_perform σ σ := oFr_rf
  refine lv_iload_n hx hb dX10_perform_0 rfl (lv_at hl 1 rfl) ?_
  refine lv_bipush (v := 6) hx hb dX10_perform_1 (by decide) ?_
  refine lv_ishr hx hb dX10_perform_3 ?_
  refine lv_topi (fun v1 e1 => ?_)
  refine lv_bipush (v := 15) hx hb dX10_perform_4 (by decide) ?_
  refine lv_iand hx hb dX10_perform_6 ?_
  refine lv_topi (fun v2 e2 => ?_)
  have i2 : Iv v2 0 15 := iv_and e2 (⟨by decide, by decide⟩ : Iv 15 15 15) (by decide)
  refine lv_istore_n (lv' := [(2, .int v2), (0, .ref a0), (1, .int a1)]) hx hb dX10_perform_7 rfl hl (by decide) rfl (fun ls hl => ?_)
  refine lv_iload_n hx hb dX10_perform_8 rfl (lv_at hl 2 rfl) ?_
  refine lv_bipush (v := 63) hx hb dX10_perform_9 (by decide) ?_
  refine lv_iand hx hb dX10_perform_11 ?_
  refine lv_topi (fun v3 e3 => ?_)
  have i3 : Iv v3 0 63 := iv_and e3 (⟨by decide, by decide⟩ : Iv 63 63 63) (by decide)
  refine lv_istore_n (lv' := [(3, .int v3), (2, .int v2), (0, .ref a0), (1, .int a1)]) hx hb dX10_perform_12 rfl hl (by decide) rfl (fun ls hl => ?_)
  refine lv_iload_n hx hb dX10_perform_13 rfl (lv_at hl 3 rfl) ?_
  refine lv_bipush (v := 10) hx hb dX10_perform_14 (by decide) ?_
  refine lv_ishr hx hb dX10_perform_16 ?_
  refine lv_topi (fun v4 e4 => ?_)
  by_cases q5 : v4 = 99
  · --
    refine lv_tableIn (tgt := 164) hx hb dX10_perform_17 (by rw [q5]; decide) (by rw [q5]; decide) (by rw [q5]; rfl) (by decide) ?_
    have i6 : Iv v4 99 99 := iv_eq1 q5 (iv_top v4) (⟨by decide, by decide⟩ : Iv 99 99 99) (by decide)
    refine lv_iconst (v := 0) hx hb dX10_perform_164 (by decide) ?_
    refine lv_aload_n hx hb dX10_perform_165 rfl (lv_at hl 2 rfl) ?_
    refine lv_iload_n hx hb dX10_perform_166 rfl (lv_at hl 1 rfl) ?_
    refine lv_iconst (v := 0) hx hb dX10_perform_167 (by decide) ?_
    refine o_ci hw (oRunV cx hA hw q_X10_turn k_m_X10_263 rfl ha0 (by decide) (As := [.int v2, .int 0]) (c_X10_turn a0 ha0 v2 0) (by decide) rfl hl.1 rfl (Nat.le_of_ble_eq_true rfl) dX10_perform_168 (by decide)) (fun v8 σ7 H locs hp hw => ?_)
    obtain ⟨p8_0, p8_1⟩ := hp
    have fr := oFr_tr fr p8_0 (by decide)
    refine va_mmin hx hb (hml.trans hl.1.symm) hown (hts _ k_m_X10_212) (hts _ k_s_J9_min_7cf53) (hts _ k_i_J9) (hts _ k_code_J9_min_7cf53) (by decide) (Nat.le_of_ble_eq_true rfl) (by decide) (by decide) dX10_perform_171 ?_
    refine lv_topi (fun v9 e9 => ?_)
    have i9 : Iv v9 (-2) 0 := iv_min e9 (⟨by decide, by decide⟩ : Iv 0 0 0) p8_1 (by decide)
    rw [← hQ]
    exact o_ri cx rx hw dX10_perform_174 fr
  by_cases q10 : v4 = 100
  · --
    refine lv_tableIn (tgt := 175) hx hb dX10_perform_17 (by rw [q10]; decide) (by rw [q10]; decide) (by rw [q10]; rfl) (by decide) ?_
    have i11 : Iv v4 100 100 := iv_eq1 q10 (iv_top v4) (⟨by decide, by decide⟩ : Iv 100 100 100) (by decide)
    refine lv_iconst (v := 0) hx hb dX10_perform_175 (by decide) ?_
    refine lv_aload_n hx hb dX10_perform_176 rfl (lv_at hl 2 rfl) ?_
    refine lv_iload_n hx hb dX10_perform_177 rfl (lv_at hl 1 rfl) ?_
    refine lv_iload_n hx hb dX10_perform_178 rfl (lv_at hl 0 rfl) ?_
    refine o_ci hw (oRunV cx hA hw q_X10_chase k_m_X10_266 rfl ha0 (by decide) (As := [.int v2, .int v3]) (c_X10_chase a0 ha0 v2 v3) (by decide) rfl hl.1 rfl (Nat.le_of_ble_eq_true rfl) dX10_perform_179 (by decide)) (fun v13 σ12 H locs hp hw => ?_)
    obtain ⟨p13_0, p13_1⟩ := hp
    have fr := oFr_tr fr p13_0 (by decide)
    refine va_mmin hx hb (hml.trans hl.1.symm) hown (hts _ k_m_X10_212) (hts _ k_s_J9_min_7cf53) (hts _ k_i_J9) (hts _ k_code_J9_min_7cf53) (by decide) (Nat.le_of_ble_eq_true rfl) (by decide) (by decide) dX10_perform_182 ?_
    refine lv_topi (fun v14 e14 => ?_)
    have i14 : Iv v14 (-2) 0 := iv_min e14 (⟨by decide, by decide⟩ : Iv 0 0 0) p13_1 (by decide)
    rw [← hQ]
    exact o_ri cx rx hw dX10_perform_185 fr
  by_cases q15 : v4 = 101
  · --
    refine lv_tableIn (tgt := 186) hx hb dX10_perform_17 (by rw [q15]; decide) (by rw [q15]; decide) (by rw [q15]; rfl) (by decide) ?_
    have i16 : Iv v4 101 101 := iv_eq1 q15 (iv_top v4) (⟨by decide, by decide⟩ : Iv 101 101 101) (by decide)
    refine lv_iconst (v := (-1)) hx hb dX10_perform_186 (by decide) ?_
    rw [← hQ]
    exact o_ri cx rx hw dX10_perform_187 fr
  by_cases q17 : v4 = 102
  · --
    refine lv_tableIn (tgt := 186) hx hb dX10_perform_17 (by rw [q17]; decide) (by rw [q17]; decide) (by rw [q17]; rfl) (by decide) ?_
    have i18 : Iv v4 102 102 := iv_eq1 q17 (iv_top v4) (⟨by decide, by decide⟩ : Iv 102 102 102) (by decide)
    refine lv_iconst (v := (-1)) hx hb dX10_perform_186 (by decide) ?_
    rw [← hQ]
    exact o_ri cx rx hw dX10_perform_187 fr
  by_cases q19 : v4 = 103
  · --
    refine lv_tableIn (tgt := 186) hx hb dX10_perform_17 (by rw [q19]; decide) (by rw [q19]; decide) (by rw [q19]; rfl) (by decide) ?_
    have i20 : Iv v4 103 103 := iv_eq1 q19 (iv_top v4) (⟨by decide, by decide⟩ : Iv 103 103 103) (by decide)
    refine lv_iconst (v := (-1)) hx hb dX10_perform_186 (by decide) ?_
    rw [← hQ]
    exact o_ri cx rx hw dX10_perform_187 fr
  by_cases q21 : v4 = 104
  · --
    refine lv_tableIn (tgt := 104) hx hb dX10_perform_17 (by rw [q21]; decide) (by rw [q21]; decide) (by rw [q21]; rfl) (by decide) ?_
    have i22 : Iv v4 104 104 := iv_eq1 q21 (iv_top v4) (⟨by decide, by decide⟩ : Iv 104 104 104) (by decide)
    refine lv_aload_n hx hb dX10_perform_104 rfl (lv_at hl 2 rfl) ?_
    refine g_580 cx hw ha0 k_f_X10_42 dX10_perform_105 (fun v23 e23 h23 => ?_)
    refine lv_aload_n hx hb dX10_perform_108 rfl (lv_at hl 2 rfl) ?_
    refine g_581 cx hw ha0 k_f_X10_49 dX10_perform_109 (fun v24 e24 h24 => ?_)
    refine lv_iload_n hx hb dX10_perform_112 rfl (lv_at hl 1 rfl) ?_
    refine o_ci hw (oRunV cx hA hw q_X9_passMany k_m_X10_276 rfl h23 (by decide) (As := [.ref v24, .int v2]) (c_X9_passMany v23 h23 v24 h24 v2) (by decide) rfl hl.1 rfl (Nat.le_of_ble_eq_true rfl) dX10_perform_113 (by decide)) (fun v26 σ25 H locs hp hw => ?_)
    have p26_0 := hp
    have fr := oFr_tr fr p26_0 (by decide)
    rw [← hQ]
    exact o_ri cx rx hw dX10_perform_116 fr
  by_cases q27 : v4 = 105
  · --
    refine lv_tableIn (tgt := 186) hx hb dX10_perform_17 (by rw [q27]; decide) (by rw [q27]; decide) (by rw [q27]; rfl) (by decide) ?_
    have i28 : Iv v4 105 105 := iv_eq1 q27 (iv_top v4) (⟨by decide, by decide⟩ : Iv 105 105 105) (by decide)
    refine lv_iconst (v := (-1)) hx hb dX10_perform_186 (by decide) ?_
    rw [← hQ]
    exact o_ri cx rx hw dX10_perform_187 fr
  by_cases q29 : v4 = 106
  · --
    refine lv_tableIn (tgt := 186) hx hb dX10_perform_17 (by rw [q29]; decide) (by rw [q29]; decide) (by rw [q29]; rfl) (by decide) ?_
    have i30 : Iv v4 106 106 := iv_eq1 q29 (iv_top v4) (⟨by decide, by decide⟩ : Iv 106 106 106) (by decide)
    refine lv_iconst (v := (-1)) hx hb dX10_perform_186 (by decide) ?_
    rw [← hQ]
    exact o_ri cx rx hw dX10_perform_187 fr
  by_cases q31 : v4 = 107
  · --
    refine lv_tableIn (tgt := 186) hx hb dX10_perform_17 (by rw [q31]; decide) (by rw [q31]; decide) (by rw [q31]; rfl) (by decide) ?_
    have i32 : Iv v4 107 107 := iv_eq1 q31 (iv_top v4) (⟨by decide, by decide⟩ : Iv 107 107 107) (by decide)
    refine lv_iconst (v := (-1)) hx hb dX10_perform_186 (by decide) ?_
    rw [← hQ]
    exact o_ri cx rx hw dX10_perform_187 fr
  by_cases q33 : v4 = 108
  · --
    refine lv_tableIn (tgt := 186) hx hb dX10_perform_17 (by rw [q33]; decide) (by rw [q33]; decide) (by rw [q33]; rfl) (by decide) ?_
    have i34 : Iv v4 108 108 := iv_eq1 q33 (iv_top v4) (⟨by decide, by decide⟩ : Iv 108 108 108) (by decide)
    refine lv_iconst (v := (-1)) hx hb dX10_perform_186 (by decide) ?_
    rw [← hQ]
    exact o_ri cx rx hw dX10_perform_187 fr
  by_cases q35 : v4 = 109
  · --
    refine lv_tableIn (tgt := 186) hx hb dX10_perform_17 (by rw [q35]; decide) (by rw [q35]; decide) (by rw [q35]; rfl) (by decide) ?_
    have i36 : Iv v4 109 109 := iv_eq1 q35 (iv_top v4) (⟨by decide, by decide⟩ : Iv 109 109 109) (by decide)
    refine lv_iconst (v := (-1)) hx hb dX10_perform_186 (by decide) ?_
    rw [← hQ]
    exact o_ri cx rx hw dX10_perform_187 fr
  by_cases q37 : v4 = 110
  · --
    refine lv_tableIn (tgt := 186) hx hb dX10_perform_17 (by rw [q37]; decide) (by rw [q37]; decide) (by rw [q37]; rfl) (by decide) ?_
    have i38 : Iv v4 110 110 := iv_eq1 q37 (iv_top v4) (⟨by decide, by decide⟩ : Iv 110 110 110) (by decide)
    refine lv_iconst (v := (-1)) hx hb dX10_perform_186 (by decide) ?_
    rw [← hQ]
    exact o_ri cx rx hw dX10_perform_187 fr
  by_cases q39 : v4 = 111
  · --
    refine lv_tableIn (tgt := 153) hx hb dX10_perform_17 (by rw [q39]; decide) (by rw [q39]; decide) (by rw [q39]; rfl) (by decide) ?_
    have i40 : Iv v4 111 111 := iv_eq1 q39 (iv_top v4) (⟨by decide, by decide⟩ : Iv 111 111 111) (by decide)
    refine lv_iconst (v := 0) hx hb dX10_perform_153 (by decide) ?_
    refine lv_aload_n hx hb dX10_perform_154 rfl (lv_at hl 2 rfl) ?_
    refine lv_iload_n hx hb dX10_perform_155 rfl (lv_at hl 1 rfl) ?_
    refine lv_iconst (v := 1) hx hb dX10_perform_156 (by decide) ?_
    refine o_ci hw (oRunV cx hA hw q_X10_turn k_m_X10_263 rfl ha0 (by decide) (As := [.int v2, .int 1]) (c_X10_turn a0 ha0 v2 1) (by decide) rfl hl.1 rfl (Nat.le_of_ble_eq_true rfl) dX10_perform_157 (by decide)) (fun v42 σ41 H locs hp hw => ?_)
    obtain ⟨p42_0, p42_1⟩ := hp
    have fr := oFr_tr fr p42_0 (by decide)
    refine va_mmin hx hb (hml.trans hl.1.symm) hown (hts _ k_m_X10_212) (hts _ k_s_J9_min_7cf53) (hts _ k_i_J9) (hts _ k_code_J9_min_7cf53) (by decide) (Nat.le_of_ble_eq_true rfl) (by decide) (by decide) dX10_perform_160 ?_
    refine lv_topi (fun v43 e43 => ?_)
    have i43 : Iv v43 (-2) 0 := iv_min e43 (⟨by decide, by decide⟩ : Iv 0 0 0) p42_1 (by decide)
    rw [← hQ]
    exact o_ri cx rx hw dX10_perform_163 fr
  by_cases q44 : v4 = 112
  · --
    refine lv_tableIn (tgt := 186) hx hb dX10_perform_17 (by rw [q44]; decide) (by rw [q44]; decide) (by rw [q44]; rfl) (by decide) ?_
    have i45 : Iv v4 112 112 := iv_eq1 q44 (iv_top v4) (⟨by decide, by decide⟩ : Iv 112 112 112) (by decide)
    refine lv_iconst (v := (-1)) hx hb dX10_perform_186 (by decide) ?_
    rw [← hQ]
    exact o_ri cx rx hw dX10_perform_187 fr
  by_cases q46 : v4 = 113
  · --
    refine lv_tableIn (tgt := 186) hx hb dX10_perform_17 (by rw [q46]; decide) (by rw [q46]; decide) (by rw [q46]; rfl) (by decide) ?_
    have i47 : Iv v4 113 113 := iv_eq1 q46 (iv_top v4) (⟨by decide, by decide⟩ : Iv 113 113 113) (by decide)
    refine lv_iconst (v := (-1)) hx hb dX10_perform_186 (by decide) ?_
    rw [← hQ]
    exact o_ri cx rx hw dX10_perform_187 fr
  by_cases q48 : v4 = 114
  · --
    refine lv_tableIn (tgt := 186) hx hb dX10_perform_17 (by rw [q48]; decide) (by rw [q48]; decide) (by rw [q48]; rfl) (by decide) ?_
    have i49 : Iv v4 114 114 := iv_eq1 q48 (iv_top v4) (⟨by decide, by decide⟩ : Iv 114 114 114) (by decide)
    refine lv_iconst (v := (-1)) hx hb dX10_perform_186 (by decide) ?_
    rw [← hQ]
    exact o_ri cx rx hw dX10_perform_187 fr
  by_cases q50 : v4 = 115
  · --
    refine lv_tableIn (tgt := 117) hx hb dX10_perform_17 (by rw [q50]; decide) (by rw [q50]; decide) (by rw [q50]; rfl) (by decide) ?_
    have i51 : Iv v4 115 115 := iv_eq1 q50 (iv_top v4) (⟨by decide, by decide⟩ : Iv 115 115 115) (by decide)
    refine lv_iconst (v := 0) hx hb dX10_perform_117 (by decide) ?_
    refine lv_aload_n hx hb dX10_perform_118 rfl (lv_at hl 2 rfl) ?_
    refine lv_aload_n hx hb dX10_perform_119 rfl (lv_at hl 2 rfl) ?_
    refine g_581 cx hw ha0 k_f_X10_49 dX10_perform_120 (fun v52 e52 h52 => ?_)
    refine g_321 cx hw h52 k_f_X10_148 dX10_perform_123 (fun v53 e53 h53 => ?_)
    refine lv_iload_n hx hb dX10_perform_126 rfl (lv_at hl 0 rfl) ?_
    refine lv_iload_n hx hb dX10_perform_127 rfl (lv_at hl 1 rfl) ?_
    refine o_ci hw (oRunV cx hA hw q_X10_lay k_m_X10_257 rfl ha0 (by decide) (As := [.ref v53, .int v3, .int v2]) (c_X10_lay a0 ha0 v53 h53 v3 v2) (by decide) rfl hl.1 rfl (Nat.le_of_ble_eq_true rfl) dX10_perform_128 (by decide)) (fun v55 σ54 H locs hp hw => ?_)
    have p55_0 := hp
    have fr := oFr_tr fr p55_0 (by decide)
    refine va_mmin hx hb (hml.trans hl.1.symm) hown (hts _ k_m_X10_212) (hts _ k_s_J9_min_7cf53) (hts _ k_i_J9) (hts _ k_code_J9_min_7cf53) (by decide) (Nat.le_of_ble_eq_true rfl) (by decide) (by decide) dX10_perform_131 ?_
    refine lv_topi (fun v56 e56 => ?_)
    have i56 : Iv v56 (-2147483648) 0 := iv_min e56 (⟨by decide, by decide⟩ : Iv 0 0 0) (iv_top v55) (by decide)
    rw [← hQ]
    exact o_ri cx rx hw dX10_perform_134 fr
  by_cases q57 : v4 = 116
  · --
    refine lv_tableIn (tgt := 135) hx hb dX10_perform_17 (by rw [q57]; decide) (by rw [q57]; decide) (by rw [q57]; rfl) (by decide) ?_
    have i58 : Iv v4 116 116 := iv_eq1 q57 (iv_top v4) (⟨by decide, by decide⟩ : Iv 116 116 116) (by decide)
    refine lv_iconst (v := 0) hx hb dX10_perform_135 (by decide) ?_
    refine lv_aload_n hx hb dX10_perform_136 rfl (lv_at hl 2 rfl) ?_
    refine lv_aload_n hx hb dX10_perform_137 rfl (lv_at hl 2 rfl) ?_
    refine g_581 cx hw ha0 k_f_X10_49 dX10_perform_138 (fun v59 e59 h59 => ?_)
    refine g_322 cx hw h59 k_f_X10_151 dX10_perform_141 (fun v60 e60 h60 => ?_)
    refine lv_iload_n hx hb dX10_perform_144 rfl (lv_at hl 0 rfl) ?_
    refine lv_iload_n hx hb dX10_perform_145 rfl (lv_at hl 1 rfl) ?_
    refine o_ci hw (oRunV cx hA hw q_X10_lay k_m_X10_257 rfl ha0 (by decide) (As := [.ref v60, .int v3, .int v2]) (c_X10_lay a0 ha0 v60 h60 v3 v2) (by decide) rfl hl.1 rfl (Nat.le_of_ble_eq_true rfl) dX10_perform_146 (by decide)) (fun v62 σ61 H locs hp hw => ?_)
    have p62_0 := hp
    have fr := oFr_tr fr p62_0 (by decide)
    refine va_mmin hx hb (hml.trans hl.1.symm) hown (hts _ k_m_X10_212) (hts _ k_s_J9_min_7cf53) (hts _ k_i_J9) (hts _ k_code_J9_min_7cf53) (by decide) (Nat.le_of_ble_eq_true rfl) (by decide) (by decide) dX10_perform_149 ?_
    refine lv_topi (fun v63 e63 => ?_)
    have i63 : Iv v63 (-2147483648) 0 := iv_min e63 (⟨by decide, by decide⟩ : Iv 0 0 0) (iv_top v62) (by decide)
    rw [← hQ]
    exact o_ri cx rx hw dX10_perform_152 fr
  have q5 := iv_nt q5 (k := 99) (by decide)
  have q10 := iv_nt q10 (k := 100) (by decide)
  have q15 := iv_nt q15 (k := 101) (by decide)
  have q17 := iv_nt q17 (k := 102) (by decide)
  have q19 := iv_nt q19 (k := 103) (by decide)
  have q21 := iv_nt q21 (k := 104) (by decide)
  have q27 := iv_nt q27 (k := 105) (by decide)
  have q29 := iv_nt q29 (k := 106) (by decide)
  have q31 := iv_nt q31 (k := 107) (by decide)
  have q33 := iv_nt q33 (k := 108) (by decide)
  have q35 := iv_nt q35 (k := 109) (by decide)
  have q37 := iv_nt q37 (k := 110) (by decide)
  have q39 := iv_nt q39 (k := 111) (by decide)
  have q44 := iv_nt q44 (k := 112) (by decide)
  have q46 := iv_nt q46 (k := 113) (by decide)
  have q48 := iv_nt q48 (k := 114) (by decide)
  have q50 := iv_nt q50 (k := 115) (by decide)
  have q57 := iv_nt q57 (k := 116) (by decide)
  refine lv_tableOut (tgt := 186) hx hb dX10_perform_17 (by omega) (by decide) ?_
  refine lv_iconst (v := (-1)) hx hb dX10_perform_186 (by decide) ?_
  rw [← hQ]
  exact o_ri cx rx hw dX10_perform_187 fr
abbrev fs_X3_bringBack : List Nat := [129, 130, 327, 328, 329, 330, 331]
abbrev ts_X3_bringBack : List Nat := [32, 33, 34]
set_option maxHeartbeats 4000000 in
set_option maxRecDepth 100000 in
theorem c_X3_bringBack (a0 : Nat) (ha0 : oA L τ a0 2) (a1 : Nat) (ha1 : oA L τ a1 5) : oMet l A L τ cy D K yX3_bringBack cX3_bringBack 2 (some .boolean) 2 81 [.ref a0, .ref a1] σ (va_Qi (fun r σ1 => oFr τ fs_X3_bringBack ts_X3_bringBack σ σ1 ∧ Iv r 0 1) (oPo A L τ cy D) A) := by
  refine oMk (by decide) (Nat.le_of_ble_eq_true rfl) rfl ?_
  intro p e s m args below meth c ls cx rx hA hw hl
  generalize hQ : MQ below _ args s 0 0 A = Q
  have hx := cx.1.1
  have hb := cx.1.2.1
  have hml := cx.1.2.2.1
  have hown := cx.1.2.2.2.1
  have hts := cx.1.2.2.2.2
  have hl : lv_has ls 2 [(0, .ref a0), (1, .ref a1)] := hl
  have fr : oFr τ fs_X3_bringBack ts_X3_bringBack σ σ := oFr_rf
  refine lv_aload_n hx hb dX3_bringBack_0 rfl (lv_at hl 0 rfl) ?_
  refine g_130 cx hw ha0 k_f_X3_16 dX3_bringBack_1 (fun v1 e1 i1 => ?_)
  refine lv_if_ne (tgt := 9) hx hb dX3_bringBack_4 (by decide) (fun c2 => ?_) (fun c2 => ?_)
  · --
    have i3 : Iv v1 1 10 := iv_ne1 c2 i1 (⟨by decide, by decide⟩ : Iv 0 0 0) (by decide)
    refine lv_aload_n hx hb dX3_bringBack_9 rfl (lv_at hl 0 rfl) ?_
    refine lv_aload_n hx hb dX3_bringBack_10 rfl (lv_at hl 0 rfl) ?_
    refine g_129 cx hw ha0 k_f_X3_20 dX3_bringBack_11 (fun v4 e4 i4 => ?_)
    refine lv_bipush (v := 10) hx hb dX3_bringBack_14 (by decide) ?_
    refine lv_iadd hx hb dX3_bringBack_16 ?_
    refine lv_topi (fun v5 e5 => ?_)
    have i5 : Iv v5 10 19 := iv_add e5 i4 (⟨by decide, by decide⟩ : Iv 10 10 10) (by decide)
    have x5 : v5.toInt = v4.toInt + 10 := ex_add e5 i4 (⟨by decide, by decide⟩ : Iv 10 10 10) (by decide)
    refine lv_iconst (v := 1) hx hb dX3_bringBack_17 (by decide) ?_
    refine lv_isub hx hb dX3_bringBack_18 ?_
    refine lv_topi (fun v6 e6 => ?_)
    have i6 : Iv v6 9 18 := iv_sub e6 i5 (⟨by decide, by decide⟩ : Iv 1 1 1) (by decide)
    have x6 : v6.toInt = v5.toInt + (-1) := ex_sub e6 i5 (⟨by decide, by decide⟩ : Iv 1 1 1) (by decide)
    refine lv_bipush (v := 10) hx hb dX3_bringBack_19 (by decide) ?_
    refine lv_irem hx hb dX3_bringBack_21 (iv_nz (⟨by decide, by decide⟩ : Iv 10 10 10) (by decide)) ?_
    refine lv_topi (fun v7 e7 => ?_)
    have i7 : Iv v7 0 9 := iv_rem e7 i6 (⟨by decide, by decide⟩ : Iv 10 10 10) (by decide)
    refine p_129 cx hw ha0 (iv_w i7 (by decide)) k_f_X3_20 dX3_bringBack_22 (fun σ8 H locs eσ8 hw => ?_)
    have fr := oFr_i fr eσ8 (by decide)
    refine lv_aload_n hx hb dX3_bringBack_25 rfl (lv_at hl 1 rfl) ?_
    refine lv_aload_n hx hb dX3_bringBack_26 rfl (lv_at hl 0 rfl) ?_
    refine g_128 cx hw ha0 k_f_X3_11 dX3_bringBack_27 (fun v9 e9 h9 => ?_)
    refine lv_aload_n hx hb dX3_bringBack_30 rfl (lv_at hl 0 rfl) ?_
    refine g_129 cx hw ha0 k_f_X3_20 dX3_bringBack_31 (fun v10 e10 i10 => ?_)
    rw [show v10 = v7 from e10.trans (kp_s eσ8)]
    refine o_aald cx hw h9 (by decide) rfl (iv_in i7 (by decide)) (by decide) dX3_bringBack_34 (fun v11 e11 h11 => ?_)
    refine o_cv hw (oRunV cx hA hw q_X6_copyFrom k_m_X3_23 rfl ha1 (by decide) (As := [.ref v11]) (c_X6_copyFrom a1 ha1 v11 h11) (by decide) rfl hl.1 rfl (Nat.le_of_ble_eq_true rfl) dX3_bringBack_35 (by decide)) (fun σ12 H locs hp hw => ?_)
    have p13_0 := hp
    have fr := oFr_tr fr p13_0 (by decide)
    refine lv_aload_n hx hb dX3_bringBack_38 rfl (lv_at hl 0 rfl) ?_
    refine lv_dup hx hb dX3_bringBack_39 rfl ?_
    refine g_130 cx hw ha0 k_f_X3_16 dX3_bringBack_40 (fun v14 e14 i14 => ?_)
    rw [show v14 = v1 from e14.trans ((kp_c p13_0 (by decide)).trans ((kp_i eσ8 (by decide)).trans e1.symm))]
    refine lv_iconst (v := 1) hx hb dX3_bringBack_43 (by decide) ?_
    refine lv_isub hx hb dX3_bringBack_44 ?_
    refine lv_topi (fun v15 e15 => ?_)
    have i15 : Iv v15 0 9 := iv_sub e15 i3 (⟨by decide, by decide⟩ : Iv 1 1 1) (by decide)
    have x15 : v15.toInt = v1.toInt + (-1) := ex_sub e15 i3 (⟨by decide, by decide⟩ : Iv 1 1 1) (by decide)
    refine p_130 cx hw ha0 (iv_w i15 (by decide)) k_f_X3_16 dX3_bringBack_45 (fun σ16 H locs eσ16 hw => ?_)
    have fr := oFr_i fr eσ16 (by decide)
    refine lv_iconst (v := 1) hx hb dX3_bringBack_48 (by decide) ?_
    rw [← hQ]
    exact o_rz cx rx hw (iv_nz01 (iv_w (⟨by decide, by decide⟩ : Iv 1 1 1) (by decide))) dX3_bringBack_49 ⟨fr, (iv_w (⟨by decide, by decide⟩ : Iv 1 1 1) (by decide))⟩
  · --
    have i17 : Iv v1 0 0 := iv_eq1 c2 i1 (⟨by decide, by decide⟩ : Iv 0 0 0) (by decide)
    refine lv_iconst (v := 0) hx hb dX3_bringBack_7 (by decide) ?_
    rw [← hQ]
    exact o_rz cx rx hw (iv_nz01 (iv_w (⟨by decide, by decide⟩ : Iv 0 0 0) (by decide))) dX3_bringBack_8 ⟨fr, (iv_w (⟨by decide, by decide⟩ : Iv 0 0 0) (by decide))⟩
abbrev fs_X10_undo : List Nat := [129, 130, 327, 328, 329, 330, 331]
abbrev ts_X10_undo : List Nat := [32, 33, 34]
set_option maxHeartbeats 4000000 in
set_option maxRecDepth 100000 in
theorem c_X10_undo (a0 : Nat) (ha0 : oA L τ a0 9) : oMet l A L τ cy D K yX10_undo cX10_undo 1 (some .int) 3 102 [.ref a0] σ (va_Qi (fun r σ1 => oFr τ fs_X10_undo ts_X10_undo σ σ1 ∧ Iv r (-1) 10) (oPo A L τ cy D) A) := by
  refine oMk (by decide) (Nat.le_of_ble_eq_true rfl) rfl ?_
  intro p e s m args below meth c ls cx rx hA hw hl
  generalize hQ : MQ below _ args s 0 0 A = Q
  have hx := cx.1.1
  have hb := cx.1.2.1
  have hml := cx.1.2.2.1
  have hown := cx.1.2.2.2.1
  have hts := cx.1.2.2.2.2
  have hl : lv_has ls 1 [(0, .ref a0)] := hl
  have fr : oFr τ fs_X10_undo ts_X10_undo σ σ := oFr_rf
  refine lv_aload_n hx hb dX10_undo_0 rfl (lv_at hl 0 rfl) ?_
  refine g_585 cx hw ha0 k_f_X10_75 dX10_undo_1 (fun v1 e1 h1 => ?_)
  refine lv_aload_n hx hb dX10_undo_4 rfl (lv_at hl 0 rfl) ?_
  refine g_581 cx hw ha0 k_f_X10_49 dX10_undo_5 (fun v2 e2 h2 => ?_)
  refine o_ci hw (oRunV cx hA hw q_X3_bringBack k_m_X10_299 rfl h1 (by decide) (As := [.ref v2]) (c_X3_bringBack v1 h1 v2 h2) (by decide) rfl hl.1 rfl (Nat.le_of_ble_eq_true rfl) dX10_undo_8 (by decide)) (fun v4 σ3 H locs hp hw => ?_)
  obtain ⟨p4_0, p4_1⟩ := hp
  have fr := oFr_tr fr p4_0 (by decide)
  refine lv_if_eq (tgt := 24) hx hb dX10_undo_11 (by decide) (fun c5 => ?_) (fun c5 => ?_)
  · --
    have i6 : Iv v4 0 0 := iv_eq1 c5 p4_1 (⟨by decide, by decide⟩ : Iv 0 0 0) (by decide)
    refine lv_iconst (v := (-1)) hx hb dX10_undo_24 (by decide) ?_
    rw [← hQ]
    exact o_ri cx rx hw dX10_undo_25 ⟨fr, (iv_w (⟨by decide, by decide⟩ : Iv (-1) (-1) (-1)) (by decide))⟩
  · --
    have i7 : Iv v4 1 1 := iv_ne1 c5 p4_1 (⟨by decide, by decide⟩ : Iv 0 0 0) (by decide)
    refine lv_aload_n hx hb dX10_undo_14 rfl (lv_at hl 0 rfl) ?_
    refine g_585 cx hw ha0 k_f_X10_75 dX10_undo_15 (fun v8 e8 h8 => ?_)
    rw [show v8 = v1 from Option.some.inj (e8.symm.trans (((kr_c p4_0 (by decide)).trans e1)))]
    refine g_130 cx hw h1 k_f_X10_303 dX10_undo_18 (fun v9 e9 i9 => ?_)
    refine lv_goto (tgt := 25) hx hb dX10_undo_21 (by decide) ?_
    rw [← hQ]
    exact o_ri cx rx hw dX10_undo_25 ⟨fr, (iv_w i9 (by decide))⟩
set_option maxHeartbeats 4000000 in
set_option maxRecDepth 100000 in
theorem c_X6_roadCells (a0 : Nat) (ha0 : oA L τ a0 5) (a1 : Int32) : oMet l A L τ cy D K yX6_roadCells cX6_roadCells 5 (some .long) 1 22 [.ref a0, .int a1] σ (va_Ql (fun r σ1 => σ1 = σ) (oPo A L τ cy D) A) := by
  refine oMk (by decide) (Nat.le_of_ble_eq_true rfl) rfl ?_
  intro p e s m args below meth c ls cx rx hA hw hl
  generalize hQ : MQ below _ args s 0 0 A = Q
  have hx := cx.1.1
  have hb := cx.1.2.1
  have hml := cx.1.2.2.1
  have hown := cx.1.2.2.2.1
  have hts := cx.1.2.2.2.2
  have hl : lv_has ls 5 [(0, .ref a0), (1, .int a1)] := hl
  refine lv_lconst (v := 0) hx hb dX6_roadCells_0 (by decide) ?_
  refine lv_lstore_n (lv' := [(2, .long 0), (0, .ref a0), (1, .int a1)]) hx hb dX6_roadCells_1 rfl hl (by decide) rfl (fun ls hl => ?_)
  refine lv_iconst (v := 0) hx hb dX6_roadCells_2 (by decide) ?_
  refine lv_istore (lv' := [(4, .int 0), (2, .long 0), (0, .ref a0), (1, .int a1)]) hx hb dX6_roadCells_3 hl (by decide) rfl (fun ls hl => ?_)
  have J_5 : ∀ n : Nat, ∀ (j5_2 : Int64) (j5_4 : Int32) (ij5_4 : Iv j5_4 0 64), (64 - j5_4.toInt).toNat < n → ∀ (H : Heap) (locs : List Loc), oI A L τ cy D s.heap σ H locs → ∀ (ls : Array Slot), lv_has ls 5 [(0, .ref a0), (1, .int a1), (2, .long j5_2), (4, .int j5_4)] → W p l e ({ frames := 1, cells := 0, slots := 0, locals := 22 } : Room) s m args below meth c H locs 0 0 Q (F0 m 5 ls []) := by
    intro n
    induction n with
    | zero => intro j5_2 j5_4 ij5_4 hn_5  H locs hw  ls hl; exact absurd hn_5 (Nat.not_lt_zero _)
    | succ n ih_5 =>
      intro j5_2 j5_4 ij5_4 hn_5  H locs hw  ls hl
      refine lv_iload hx hb dX6_roadCells_5 (lv_at hl 3 rfl) ?_
      refine lv_bipush (v := 64) hx hb dX6_roadCells_7 (by decide) ?_
      refine lv_icmp_ge (tgt := 36) hx hb dX6_roadCells_9 (by decide) (fun c1 => ?_) (fun c1 => ?_)
      · --
        have i2 : Iv j5_4 64 64 := iv_le2 c1 (⟨by decide, by decide⟩ : Iv 64 64 64) ij5_4 (by decide)
        refine lv_lload_n hx hb dX6_roadCells_36 rfl (lv_at hl 2 rfl) ?_
        rw [← hQ]
        exact o_rl cx rx hw dX6_roadCells_37 rfl
      · --
        have i3 : Iv j5_4 0 63 := iv_lt1 (iv_nle c1) ij5_4 (⟨by decide, by decide⟩ : Iv 64 64 64) (by decide)
        refine lv_aload_n hx hb dX6_roadCells_12 rfl (lv_at hl 0 rfl) ?_
        refine lv_iload hx hb dX6_roadCells_13 (lv_at hl 3 rfl) ?_
        refine lv_iload_n hx hb dX6_roadCells_15 rfl (lv_at hl 1 rfl) ?_
        refine o_ci hw (oRunV cx hA hw q_X6_isRoad k_m_X6_65 rfl ha0 (by decide) (As := [.int j5_4, .int a1]) (c_X6_isRoad a0 ha0 j5_4 (iv_w i3 (by decide)) a1) (by decide) rfl hl.1 rfl (Nat.le_of_ble_eq_true rfl) dX6_roadCells_16 (by decide)) (fun v5 σ4 H locs hp hw => ?_)
        obtain ⟨p5_0, p5_1⟩ := hp
        rw [p5_0] at hw
        have J_30 : ∀ (j30_2 : Int64), ∀ (H : Heap) (locs : List Loc), oI A L τ cy D s.heap σ H locs → ∀ (ls : Array Slot), lv_has ls 5 [(0, .ref a0), (1, .int a1), (2, .long j30_2), (4, .int j5_4)] → W p l e ({ frames := 1, cells := 0, slots := 0, locals := 22 } : Room) s m args below meth c H locs 0 0 Q (F0 m 30 ls []) := by
          intro j30_2   H locs hw  ls hl
          obtain ⟨v6, e6⟩ : ∃ y : Int32, y = j5_4 + 1 := ⟨_, rfl⟩
          have i6 : Iv v6 1 64 := iv_add e6 i3 (⟨by decide, by decide⟩ : Iv 1 1 1) (by decide)
          have x6 : v6.toInt = j5_4.toInt + 1 := ex_add e6 i3 (⟨by decide, by decide⟩ : Iv 1 1 1) (by decide)
          refine lv_iinc (v := v6) (lv' := [(4, .int v6), (0, .ref a0), (1, .int a1), (2, .long j30_2)]) hx hb dX6_roadCells_30 hl (k := 3) rfl (by rw [e6]; rfl) (by decide) rfl (fun ls hl => ?_)
          refine lv_goto (tgt := 5) hx hb dX6_roadCells_33 (by decide) ?_
          exact ih_5 j30_2 v6 (iv_w i6 (by decide)) (ms_up x6 (by decide) (iv_w (a' := 0) (b' := 64) i6 (by decide)).2 hn_5) _ _ hw _ (lv_sub hl [1, 2, 3, 0] rfl)
        refine lv_if_eq (tgt := 30) hx hb dX6_roadCells_19 (by decide) (fun c7 => ?_) (fun c7 => ?_)
        · --
          have i8 : Iv v5 0 0 := iv_eq1 c7 p5_1 (⟨by decide, by decide⟩ : Iv 0 0 0) (by decide)
          exact J_30 j5_2 _ _ hw _ (lv_sub hl [0, 1, 2, 3] rfl)
        · --
          have i9 : Iv v5 1 1 := iv_ne1 c7 p5_1 (⟨by decide, by decide⟩ : Iv 0 0 0) (by decide)
          refine lv_lload_n hx hb dX6_roadCells_22 rfl (lv_at hl 2 rfl) ?_
          refine lv_iload hx hb dX6_roadCells_23 (lv_at hl 3 rfl) ?_
          refine o_cl hw (oRunS cx hA hw q_X0_bit k_m_X6_69 (As := [.int j5_4]) (c_X0_bit j5_4) (by decide) rfl hl.1 rfl (Nat.le_of_ble_eq_true rfl) dX6_roadCells_25 (by decide)) (fun v11 σ10 H locs hp hw => ?_)
          have p11_0 := hp
          rw [p11_0] at hw
          refine lv_lor hx hb dX6_roadCells_28 ?_
          refine lv_topl (fun v12 e12 => ?_)
          refine lv_lstore_n (lv' := [(2, .long v12), (0, .ref a0), (1, .int a1), (4, .int j5_4)]) hx hb dX6_roadCells_29 rfl hl (by decide) rfl (fun ls hl => ?_)
          exact J_30 v12 _ _ hw _ (lv_sub hl [1, 2, 0, 3] rfl)
  exact J_5 _ 0 0 (iv_w (⟨by decide, by decide⟩ : Iv 0 0 0) (by decide)) (Nat.lt_succ_self _) _ _ hw _ (lv_sub hl [2, 3, 1, 0] rfl)
set_option maxHeartbeats 4000000 in
set_option maxRecDepth 100000 in
theorem c_X10_roadNow (a0 : Nat) (ha0 : oA L τ a0 9) : oMet l A L τ cy D K yX10_roadNow cX10_roadNow 1 (some .long) 2 46 [.ref a0] σ (va_Ql (fun r σ1 => σ1 = σ) (oPo A L τ cy D) A) := by
  refine oMk (by decide) (Nat.le_of_ble_eq_true rfl) rfl ?_
  intro p e s m args below meth c ls cx rx hA hw hl
  generalize hQ : MQ below _ args s 0 0 A = Q
  have hx := cx.1.1
  have hb := cx.1.2.1
  have hml := cx.1.2.2.1
  have hown := cx.1.2.2.2.1
  have hts := cx.1.2.2.2.2
  have hl : lv_has ls 1 [(0, .ref a0)] := hl
  refine lv_aload_n hx hb dX10_roadNow_0 rfl (lv_at hl 0 rfl) ?_
  refine g_581 cx hw ha0 k_f_X10_49 dX10_roadNow_1 (fun v1 e1 h1 => ?_)
  refine lv_aload_n hx hb dX10_roadNow_4 rfl (lv_at hl 0 rfl) ?_
  refine g_580 cx hw ha0 k_f_X10_42 dX10_roadNow_5 (fun v2 e2 h2 => ?_)
  refine g_514 cx hw h2 k_f_X10_167 dX10_roadNow_8 (fun v3 e3 => ?_)
  refine o_cl hw (oRunV cx hA hw q_X6_roadCells k_m_X10_370 rfl h1 (by decide) (As := [.int v3]) (c_X6_roadCells v1 h1 v3) (by decide) rfl hl.1 rfl (Nat.le_of_ble_eq_true rfl) dX10_roadNow_11 (by decide)) (fun v5 σ4 H locs hp hw => ?_)
  have p5_0 := hp
  rw [p5_0] at hw
  rw [← hQ]
  exact o_rl cx rx hw dX10_roadNow_14 rfl
set_option maxHeartbeats 4000000 in
set_option maxRecDepth 100000 in
theorem c_J6_numberOfTrailingZeros_0f7a4 (a0 : Int32) : oMet l A L τ cy D K yJ6_numberOfTrailingZeros_0f7a4 cJ6_numberOfTrailingZeros_0f7a4 2 (some .int) 0 0 [.int a0] σ (va_Qi (fun r σ1 => σ1 = σ) (oPo A L τ cy D) A) := by
  refine oMk (by decide) (Nat.le_of_ble_eq_true rfl) rfl ?_
  intro p e s m args below meth c ls cx rx hA hw hl
  generalize hQ : MQ below _ args s 0 0 A = Q
  have hx := cx.1.1
  have hb := cx.1.2.1
  have hml := cx.1.2.2.1
  have hown := cx.1.2.2.2.1
  have hts := cx.1.2.2.2.2
  have hl : lv_has ls 2 [(0, .int a0)] := hl
  refine lv_iload_n hx hb dJ6_numberOfTrailingZeros_0f7a4_0 rfl (lv_at hl 0 rfl) ?_
  refine lv_iconst (v := (-1)) hx hb dJ6_numberOfTrailingZeros_0f7a4_1 (by decide) ?_
  refine lv_ixor hx hb dJ6_numberOfTrailingZeros_0f7a4_2 ?_
  refine lv_topi (fun v1 e1 => ?_)
  refine lv_iload_n hx hb dJ6_numberOfTrailingZeros_0f7a4_3 rfl (lv_at hl 0 rfl) ?_
  refine lv_iconst (v := 1) hx hb dJ6_numberOfTrailingZeros_0f7a4_4 (by decide) ?_
  refine lv_isub hx hb dJ6_numberOfTrailingZeros_0f7a4_5 ?_
  refine lv_topi (fun v2 e2 => ?_)
  refine lv_iand hx hb dJ6_numberOfTrailingZeros_0f7a4_6 ?_
  refine lv_topi (fun v3 e3 => ?_)
  refine lv_istore_n (lv' := [(0, .int v3)]) hx hb dJ6_numberOfTrailingZeros_0f7a4_7 rfl hl (by decide) rfl (fun ls hl => ?_)
  refine lv_iload_n hx hb dJ6_numberOfTrailingZeros_0f7a4_8 rfl (lv_at hl 0 rfl) ?_
  refine lv_if_gt (tgt := 17) hx hb dJ6_numberOfTrailingZeros_0f7a4_9 (by decide) (fun c4 => ?_) (fun c4 => ?_)
  · --
    have i5 : Iv v3 1 2147483647 := iv_lt2 c4 (⟨by decide, by decide⟩ : Iv 0 0 0) (iv_top v3) (by decide)
    refine lv_iconst (v := 1) hx hb dJ6_numberOfTrailingZeros_0f7a4_17 (by decide) ?_
    refine lv_istore_n (lv' := [(1, .int 1), (0, .int v3)]) hx hb dJ6_numberOfTrailingZeros_0f7a4_18 rfl hl (by decide) rfl (fun ls hl => ?_)
    refine lv_iload_n hx hb dJ6_numberOfTrailingZeros_0f7a4_19 rfl (lv_at hl 1 rfl) ?_
    refine lv_ldcw (v := 65536) hx hb hown (hts _ k_k_J6_264) dJ6_numberOfTrailingZeros_0f7a4_20 ?_
    have J_34 : ∀ (j34_0 : Int32) (j34_1 : Int32) (ij34_1 : Iv j34_1 1 17), ∀ (H : Heap) (locs : List Loc), oI A L τ cy D s.heap σ H locs → ∀ (ls : Array Slot), lv_has ls 2 [(0, .int j34_0), (1, .int j34_1)] → W p l e ({ frames := 0, cells := 0, slots := 0, locals := 0 } : Room) s m args below meth c H locs 0 0 Q (F0 m 34 ls []) := by
      intro j34_0 j34_1 ij34_1   H locs hw  ls hl
      refine lv_iload_n hx hb dJ6_numberOfTrailingZeros_0f7a4_34 rfl (lv_at hl 0 rfl) ?_
      refine lv_sipush (v := 256) hx hb dJ6_numberOfTrailingZeros_0f7a4_35 (by decide) ?_
      have J_49 : ∀ (j49_0 : Int32) (j49_1 : Int32) (ij49_1 : Iv j49_1 1 25), ∀ (H : Heap) (locs : List Loc), oI A L τ cy D s.heap σ H locs → ∀ (ls : Array Slot), lv_has ls 2 [(0, .int j49_0), (1, .int j49_1)] → W p l e ({ frames := 0, cells := 0, slots := 0, locals := 0 } : Room) s m args below meth c H locs 0 0 Q (F0 m 49 ls []) := by
        intro j49_0 j49_1 ij49_1   H locs hw  ls hl
        refine lv_iload_n hx hb dJ6_numberOfTrailingZeros_0f7a4_49 rfl (lv_at hl 0 rfl) ?_
        refine lv_bipush (v := 16) hx hb dJ6_numberOfTrailingZeros_0f7a4_50 (by decide) ?_
        have J_62 : ∀ (j62_0 : Int32) (j62_1 : Int32) (ij62_1 : Iv j62_1 1 29), ∀ (H : Heap) (locs : List Loc), oI A L τ cy D s.heap σ H locs → ∀ (ls : Array Slot), lv_has ls 2 [(0, .int j62_0), (1, .int j62_1)] → W p l e ({ frames := 0, cells := 0, slots := 0, locals := 0 } : Room) s m args below meth c H locs 0 0 Q (F0 m 62 ls []) := by
          intro j62_0 j62_1 ij62_1   H locs hw  ls hl
          refine lv_iload_n hx hb dJ6_numberOfTrailingZeros_0f7a4_62 rfl (lv_at hl 0 rfl) ?_
          refine lv_iconst (v := 4) hx hb dJ6_numberOfTrailingZeros_0f7a4_63 (by decide) ?_
          have J_74 : ∀ (j74_0 : Int32) (j74_1 : Int32) (ij74_1 : Iv j74_1 1 31), ∀ (H : Heap) (locs : List Loc), oI A L τ cy D s.heap σ H locs → ∀ (ls : Array Slot), lv_has ls 2 [(0, .int j74_0), (1, .int j74_1)] → W p l e ({ frames := 0, cells := 0, slots := 0, locals := 0 } : Room) s m args below meth c H locs 0 0 Q (F0 m 74 ls []) := by
            intro j74_0 j74_1 ij74_1   H locs hw  ls hl
            refine lv_iload_n hx hb dJ6_numberOfTrailingZeros_0f7a4_74 rfl (lv_at hl 1 rfl) ?_
            refine lv_iload_n hx hb dJ6_numberOfTrailingZeros_0f7a4_75 rfl (lv_at hl 0 rfl) ?_
            refine lv_iconst (v := 1) hx hb dJ6_numberOfTrailingZeros_0f7a4_76 (by decide) ?_
            refine lv_iushr hx hb dJ6_numberOfTrailingZeros_0f7a4_77 rfl ?_
            refine lv_topi (fun v6 e6 => ?_)
            refine lv_iadd hx hb dJ6_numberOfTrailingZeros_0f7a4_78 ?_
            refine lv_topi (fun v7 e7 => ?_)
            rw [← hQ]
            exact o_ri cx rx hw dJ6_numberOfTrailingZeros_0f7a4_79 rfl
          refine lv_icmp_le (tgt := 74) hx hb dJ6_numberOfTrailingZeros_0f7a4_64 (by decide) (fun c8 => ?_) (fun c8 => ?_)
          · --
            have i9 : Iv j62_0 (-2147483648) 4 := iv_le1 c8 (iv_top j62_0) (⟨by decide, by decide⟩ : Iv 4 4 4) (by decide)
            exact J_74 j62_0 j62_1 (iv_w ij62_1 (by decide)) _ _ hw _ (lv_sub hl [0, 1] rfl)
          · --
            have i10 : Iv j62_0 5 2147483647 := iv_lt2 (iv_nle c8) (⟨by decide, by decide⟩ : Iv 4 4 4) (iv_top j62_0) (by decide)
            obtain ⟨v11, e11⟩ : ∃ y : Int32, y = j62_1 + 2 := ⟨_, rfl⟩
            have i11 : Iv v11 3 31 := iv_add e11 ij62_1 (⟨by decide, by decide⟩ : Iv 2 2 2) (by decide)
            have x11 : v11.toInt = j62_1.toInt + 2 := ex_add e11 ij62_1 (⟨by decide, by decide⟩ : Iv 2 2 2) (by decide)
            refine lv_iinc (v := v11) (lv' := [(1, .int v11), (0, .int j62_0)]) hx hb dJ6_numberOfTrailingZeros_0f7a4_67 hl (k := 1) rfl (by rw [e11]; rfl) (by decide) rfl (fun ls hl => ?_)
            refine lv_iload_n hx hb dJ6_numberOfTrailingZeros_0f7a4_70 rfl (lv_at hl 1 rfl) ?_
            refine lv_iconst (v := 2) hx hb dJ6_numberOfTrailingZeros_0f7a4_71 (by decide) ?_
            refine lv_iushr hx hb dJ6_numberOfTrailingZeros_0f7a4_72 rfl ?_
            refine lv_topi (fun v12 e12 => ?_)
            refine lv_istore_n (lv' := [(0, .int v12), (1, .int v11)]) hx hb dJ6_numberOfTrailingZeros_0f7a4_73 rfl hl (by decide) rfl (fun ls hl => ?_)
            exact J_74 v12 v11 (iv_w i11 (by decide)) _ _ hw _ (lv_sub hl [0, 1] rfl)
        refine lv_icmp_le (tgt := 62) hx hb dJ6_numberOfTrailingZeros_0f7a4_52 (by decide) (fun c13 => ?_) (fun c13 => ?_)
        · --
          have i14 : Iv j49_0 (-2147483648) 16 := iv_le1 c13 (iv_top j49_0) (⟨by decide, by decide⟩ : Iv 16 16 16) (by decide)
          exact J_62 j49_0 j49_1 (iv_w ij49_1 (by decide)) _ _ hw _ (lv_sub hl [0, 1] rfl)
        · --
          have i15 : Iv j49_0 17 2147483647 := iv_lt2 (iv_nle c13) (⟨by decide, by decide⟩ : Iv 16 16 16) (iv_top j49_0) (by decide)
          obtain ⟨v16, e16⟩ : ∃ y : Int32, y = j49_1 + 4 := ⟨_, rfl⟩
          have i16 : Iv v16 5 29 := iv_add e16 ij49_1 (⟨by decide, by decide⟩ : Iv 4 4 4) (by decide)
          have x16 : v16.toInt = j49_1.toInt + 4 := ex_add e16 ij49_1 (⟨by decide, by decide⟩ : Iv 4 4 4) (by decide)
          refine lv_iinc (v := v16) (lv' := [(1, .int v16), (0, .int j49_0)]) hx hb dJ6_numberOfTrailingZeros_0f7a4_55 hl (k := 1) rfl (by rw [e16]; rfl) (by decide) rfl (fun ls hl => ?_)
          refine lv_iload_n hx hb dJ6_numberOfTrailingZeros_0f7a4_58 rfl (lv_at hl 1 rfl) ?_
          refine lv_iconst (v := 4) hx hb dJ6_numberOfTrailingZeros_0f7a4_59 (by decide) ?_
          refine lv_iushr hx hb dJ6_numberOfTrailingZeros_0f7a4_60 rfl ?_
          refine lv_topi (fun v17 e17 => ?_)
          refine lv_istore_n (lv' := [(0, .int v17), (1, .int v16)]) hx hb dJ6_numberOfTrailingZeros_0f7a4_61 rfl hl (by decide) rfl (fun ls hl => ?_)
          exact J_62 v17 v16 (iv_w i16 (by decide)) _ _ hw _ (lv_sub hl [0, 1] rfl)
      refine lv_icmp_le (tgt := 49) hx hb dJ6_numberOfTrailingZeros_0f7a4_38 (by decide) (fun c18 => ?_) (fun c18 => ?_)
      · --
        have i19 : Iv j34_0 (-2147483648) 256 := iv_le1 c18 (iv_top j34_0) (⟨by decide, by decide⟩ : Iv 256 256 256) (by decide)
        exact J_49 j34_0 j34_1 (iv_w ij34_1 (by decide)) _ _ hw _ (lv_sub hl [0, 1] rfl)
      · --
        have i20 : Iv j34_0 257 2147483647 := iv_lt2 (iv_nle c18) (⟨by decide, by decide⟩ : Iv 256 256 256) (iv_top j34_0) (by decide)
        obtain ⟨v21, e21⟩ : ∃ y : Int32, y = j34_1 + 8 := ⟨_, rfl⟩
        have i21 : Iv v21 9 25 := iv_add e21 ij34_1 (⟨by decide, by decide⟩ : Iv 8 8 8) (by decide)
        have x21 : v21.toInt = j34_1.toInt + 8 := ex_add e21 ij34_1 (⟨by decide, by decide⟩ : Iv 8 8 8) (by decide)
        refine lv_iinc (v := v21) (lv' := [(1, .int v21), (0, .int j34_0)]) hx hb dJ6_numberOfTrailingZeros_0f7a4_41 hl (k := 1) rfl (by rw [e21]; rfl) (by decide) rfl (fun ls hl => ?_)
        refine lv_iload_n hx hb dJ6_numberOfTrailingZeros_0f7a4_44 rfl (lv_at hl 1 rfl) ?_
        refine lv_bipush (v := 8) hx hb dJ6_numberOfTrailingZeros_0f7a4_45 (by decide) ?_
        refine lv_iushr hx hb dJ6_numberOfTrailingZeros_0f7a4_47 rfl ?_
        refine lv_topi (fun v22 e22 => ?_)
        refine lv_istore_n (lv' := [(0, .int v22), (1, .int v21)]) hx hb dJ6_numberOfTrailingZeros_0f7a4_48 rfl hl (by decide) rfl (fun ls hl => ?_)
        exact J_49 v22 v21 (iv_w i21 (by decide)) _ _ hw _ (lv_sub hl [0, 1] rfl)
    refine lv_icmp_le (tgt := 34) hx hb dJ6_numberOfTrailingZeros_0f7a4_23 (by decide) (fun c23 => ?_) (fun c23 => ?_)
    · --
      have i24 : Iv v3 1 65536 := iv_le1 c23 i5 (⟨by decide, by decide⟩ : Iv 65536 65536 65536) (by decide)
      exact J_34 v3 1 (iv_w (⟨by decide, by decide⟩ : Iv 1 1 1) (by decide)) _ _ hw _ (lv_sub hl [1, 0] rfl)
    · --
      have i25 : Iv v3 65537 2147483647 := iv_lt2 (iv_nle c23) (⟨by decide, by decide⟩ : Iv 65536 65536 65536) i5 (by decide)
      refine lv_iinc (v := 17) (lv' := [(1, .int 17), (0, .int v3)]) hx hb dJ6_numberOfTrailingZeros_0f7a4_26 hl (k := 0) rfl (by decide) (by decide) rfl (fun ls hl => ?_)
      refine lv_iload_n hx hb dJ6_numberOfTrailingZeros_0f7a4_29 rfl (lv_at hl 1 rfl) ?_
      refine lv_bipush (v := 16) hx hb dJ6_numberOfTrailingZeros_0f7a4_30 (by decide) ?_
      refine lv_iushr hx hb dJ6_numberOfTrailingZeros_0f7a4_32 rfl ?_
      refine lv_topi (fun v27 e27 => ?_)
      refine lv_istore_n (lv' := [(0, .int v27), (1, .int 17)]) hx hb dJ6_numberOfTrailingZeros_0f7a4_33 rfl hl (by decide) rfl (fun ls hl => ?_)
      exact J_34 v27 17 (iv_w (⟨by decide, by decide⟩ : Iv 17 17 17) (by decide)) _ _ hw _ (lv_sub hl [0, 1] rfl)
  · --
    have i28 : Iv v3 (-2147483648) 0 := iv_le1 (iv_nlt c4) (iv_top v3) (⟨by decide, by decide⟩ : Iv 0 0 0) (by decide)
    refine lv_iload_n hx hb dJ6_numberOfTrailingZeros_0f7a4_12 rfl (lv_at hl 0 rfl) ?_
    refine lv_bipush (v := 32) hx hb dJ6_numberOfTrailingZeros_0f7a4_13 (by decide) ?_
    refine lv_iand hx hb dJ6_numberOfTrailingZeros_0f7a4_15 ?_
    refine lv_topi (fun v29 e29 => ?_)
    have i29 : Iv v29 0 32 := iv_and e29 (⟨by decide, by decide⟩ : Iv 32 32 32) (by decide)
    rw [← hQ]
    exact o_ri cx rx hw dJ6_numberOfTrailingZeros_0f7a4_16 rfl
set_option maxHeartbeats 4000000 in
set_option maxRecDepth 100000 in
theorem c_J13_numberOfTrailingZeros_95d88 (a0 : Int64) : oMet l A L τ cy D K yJ13_numberOfTrailingZeros_95d88 cJ13_numberOfTrailingZeros_95d88 3 (some .int) 1 21 [.long a0] σ (va_Qi (fun r σ1 => σ1 = σ) (oPo A L τ cy D) A) := by
  refine oMk (by decide) (Nat.le_of_ble_eq_true rfl) rfl ?_
  intro p e s m args below meth c ls cx rx hA hw hl
  generalize hQ : MQ below _ args s 0 0 A = Q
  have hx := cx.1.1
  have hb := cx.1.2.1
  have hml := cx.1.2.2.1
  have hown := cx.1.2.2.2.1
  have hts := cx.1.2.2.2.2
  have hl : lv_has ls 3 [(0, .long a0)] := hl
  refine lv_lload_n hx hb dJ13_numberOfTrailingZeros_95d88_0 rfl (lv_at hl 0 rfl) ?_
  refine lv_l2i hx hb dJ13_numberOfTrailingZeros_95d88_1 rfl ?_
  refine lv_topi (fun v1 e1 => ?_)
  refine lv_istore_n (lv' := [(2, .int v1), (0, .long a0)]) hx hb dJ13_numberOfTrailingZeros_95d88_2 rfl hl (by decide) rfl (fun ls hl => ?_)
  refine lv_iload_n hx hb dJ13_numberOfTrailingZeros_95d88_3 rfl (lv_at hl 0 rfl) ?_
  refine lv_if_ne (tgt := 21) hx hb dJ13_numberOfTrailingZeros_95d88_4 (by decide) (fun c2 => ?_) (fun c2 => ?_)
  · --
    refine lv_iload_n hx hb dJ13_numberOfTrailingZeros_95d88_21 rfl (lv_at hl 0 rfl) ?_
    refine o_ci hw (oRunS cx hA hw q_J6_numberOfTrailingZeros_0f7a4 k_m_J13_311 (As := [.int v1]) (c_J6_numberOfTrailingZeros_0f7a4 v1) (by decide) rfl hl.1 rfl (Nat.le_of_ble_eq_true rfl) dJ13_numberOfTrailingZeros_95d88_22 (by decide)) (fun v4 σ3 H locs hp hw => ?_)
    have p4_0 := hp
    rw [p4_0] at hw
    rw [← hQ]
    exact o_ri cx rx hw dJ13_numberOfTrailingZeros_95d88_25 rfl
  · --
    have i5 : Iv v1 0 0 := iv_eq1 c2 (iv_top v1) (⟨by decide, by decide⟩ : Iv 0 0 0) (by decide)
    refine lv_bipush (v := 32) hx hb dJ13_numberOfTrailingZeros_95d88_7 (by decide) ?_
    refine lv_lload_n hx hb dJ13_numberOfTrailingZeros_95d88_9 rfl (lv_at hl 1 rfl) ?_
    refine lv_bipush (v := 32) hx hb dJ13_numberOfTrailingZeros_95d88_10 (by decide) ?_
    refine lv_lushr hx hb dJ13_numberOfTrailingZeros_95d88_12 rfl ?_
    refine lv_topl (fun v6 e6 => ?_)
    refine lv_l2i hx hb dJ13_numberOfTrailingZeros_95d88_13 rfl ?_
    refine lv_topi (fun v7 e7 => ?_)
    refine o_ci hw (oRunS cx hA hw q_J6_numberOfTrailingZeros_0f7a4 k_m_J13_311 (As := [.int v7]) (c_J6_numberOfTrailingZeros_0f7a4 v7) (by decide) rfl hl.1 rfl (Nat.le_of_ble_eq_true rfl) dJ13_numberOfTrailingZeros_95d88_14 (by decide)) (fun v9 σ8 H locs hp hw => ?_)
    have p9_0 := hp
    rw [p9_0] at hw
    refine lv_iadd hx hb dJ13_numberOfTrailingZeros_95d88_17 ?_
    refine lv_topi (fun v10 e10 => ?_)
    refine lv_goto (tgt := 25) hx hb dJ13_numberOfTrailingZeros_95d88_18 (by decide) ?_
    rw [← hQ]
    exact o_ri cx rx hw dJ13_numberOfTrailingZeros_95d88_25 rfl
set_option maxHeartbeats 4000000 in
set_option maxRecDepth 100000 in
theorem c_X0_firstOf (a0 : Int64) : oMet l A L τ cy D K yX0_firstOf cX0_firstOf 2 (some .int) 2 43 [.long a0] σ (va_Qi (fun r σ1 => σ1 = σ) (oPo A L τ cy D) A) := by
  refine oMk (by decide) (Nat.le_of_ble_eq_true rfl) rfl ?_
  intro p e s m args below meth c ls cx rx hA hw hl
  generalize hQ : MQ below _ args s 0 0 A = Q
  have hx := cx.1.1
  have hb := cx.1.2.1
  have hml := cx.1.2.2.1
  have hown := cx.1.2.2.2.1
  have hts := cx.1.2.2.2.2
  have hl : lv_has ls 2 [(0, .long a0)] := hl
  refine lv_lload_n hx hb dX0_firstOf_0 rfl (lv_at hl 0 rfl) ?_
  refine lv_lconst (v := 0) hx hb dX0_firstOf_1 (by decide) ?_
  refine W.lcmp hx hb dX0_firstOf_2 ?_
  refine lv_topi (fun v1 e1 => ?_)
  have i1 : Iv v1 (-1) 1 := iv_lcmp e1
  refine lv_if_ne (tgt := 10) hx hb dX0_firstOf_3 (by decide) (fun c2 => ?_) (fun c2 => ?_)
  · --
    refine lv_lload_n hx hb dX0_firstOf_10 rfl (lv_at hl 0 rfl) ?_
    refine o_ci hw (oRunS cx hA hw q_J13_numberOfTrailingZeros_95d88 k_m_X0_9 (As := [.long a0]) (c_J13_numberOfTrailingZeros_95d88 a0) (by decide) rfl hl.1 rfl (Nat.le_of_ble_eq_true rfl) dX0_firstOf_11 (by decide)) (fun v4 σ3 H locs hp hw => ?_)
    have p4_0 := hp
    rw [p4_0] at hw
    rw [← hQ]
    exact o_ri cx rx hw dX0_firstOf_14 rfl
  · --
    have i5 : Iv v1 0 0 := iv_eq1 c2 i1 (⟨by decide, by decide⟩ : Iv 0 0 0) (by decide)
    refine lv_iconst (v := (-1)) hx hb dX0_firstOf_6 (by decide) ?_
    refine lv_goto (tgt := 14) hx hb dX0_firstOf_7 (by decide) ?_
    rw [← hQ]
    exact o_ri cx rx hw dX0_firstOf_14 rfl
set_option maxHeartbeats 4000000 in
set_option maxRecDepth 100000 in
theorem c_X0_pieceOf (a0 : Int64) (a1 : Int32) : oMet l A L τ cy D K yX0_pieceOf cX0_pieceOf 8 (some .long) 1 22 [.long a0, .int a1] σ (va_Ql (fun r σ1 => σ1 = σ) (oPo A L τ cy D) A) := by
  refine oMk (by decide) (Nat.le_of_ble_eq_true rfl) rfl ?_
  intro p e s m args below meth c ls cx rx hA hw hl
  generalize hQ : MQ below _ args s 0 0 A = Q
  have hx := cx.1.1
  have hb := cx.1.2.1
  have hml := cx.1.2.2.1
  have hown := cx.1.2.2.2.1
  have hts := cx.1.2.2.2.2
  have hl : lv_has ls 8 [(0, .long a0), (2, .int a1)] := hl
  refine lv_lload_n hx hb dX0_pieceOf_0 rfl (lv_at hl 0 rfl) ?_
  refine lv_iload_n hx hb dX0_pieceOf_1 rfl (lv_at hl 1 rfl) ?_
  refine o_ci hw (oRunS cx hA hw q_X0_has k_m_X0_21 (As := [.long a0, .int a1]) (c_X0_has a0 a1) (by decide) rfl hl.1 rfl (Nat.le_of_ble_eq_true rfl) dX0_pieceOf_2 (by decide)) (fun v2 σ1 H locs hp hw => ?_)
  obtain ⟨p2_0, p2_1, p2_2⟩ := hp
  rw [p2_0] at hw
  refine lv_if_ne (tgt := 10) hx hb dX0_pieceOf_5 (by decide) (fun c3 => ?_) (fun c3 => ?_)
  · --
    have i4 : Iv v2 1 1 := iv_ne1 c3 p2_1 (⟨by decide, by decide⟩ : Iv 0 0 0) (by decide)
    have i5 : Iv a1 0 63 := p2_2 c3
    refine lv_iload_n hx hb dX0_pieceOf_10 rfl (lv_at hl 1 rfl) ?_
    refine o_cl hw (oRunS cx hA hw q_X0_bit k_m_X0_25 (As := [.int a1]) (c_X0_bit a1) (by decide) rfl hl.1 rfl (Nat.le_of_ble_eq_true rfl) dX0_pieceOf_11 (by decide)) (fun v7 σ6 H locs hp hw => ?_)
    have p7_0 := hp
    rw [p7_0] at hw
    refine lv_lstore_n (lv' := [(3, .long v7), (0, .long a0), (2, .int a1)]) hx hb dX0_pieceOf_14 rfl hl (by decide) rfl (fun ls hl => ?_)
    refine lv_iconst (v := 0) hx hb dX0_pieceOf_15 (by decide) ?_
    refine lv_istore (lv' := [(5, .int 0), (3, .long v7), (0, .long a0), (2, .int a1)]) hx hb dX0_pieceOf_16 hl (by decide) rfl (fun ls hl => ?_)
    have J_18 : ∀ n : Nat, ∀ (j18_3 : Int64) (j18_5 : Int32) (ij18_5 : Iv j18_5 0 64), (64 - j18_5.toInt).toNat < n → ∀ (H : Heap) (locs : List Loc), oI A L τ cy D s.heap σ H locs → ∀ (ls : Array Slot), lv_has ls 8 [(0, .long a0), (2, .int a1), (3, .long j18_3), (5, .int j18_5)] → W p l e ({ frames := 1, cells := 0, slots := 0, locals := 22 } : Room) s m args below meth c H locs 0 0 Q (F0 m 18 ls []) := by
      intro n
      induction n with
      | zero => intro j18_3 j18_5 ij18_5 hn_18  H locs hw  ls hl; exact absurd hn_18 (Nat.not_lt_zero _)
      | succ n ih_18 =>
        intro j18_3 j18_5 ij18_5 hn_18  H locs hw  ls hl
        refine lv_iload hx hb dX0_pieceOf_18 (lv_at hl 3 rfl) ?_
        refine lv_bipush (v := 64) hx hb dX0_pieceOf_20 (by decide) ?_
        refine lv_icmp_ge (tgt := 54) hx hb dX0_pieceOf_22 (by decide) (fun c8 => ?_) (fun c8 => ?_)
        · --
          have i9 : Iv j18_5 64 64 := iv_le2 c8 (⟨by decide, by decide⟩ : Iv 64 64 64) ij18_5 (by decide)
          refine lv_lload_n hx hb dX0_pieceOf_54 rfl (lv_at hl 2 rfl) ?_
          rw [← hQ]
          exact o_rl cx rx hw dX0_pieceOf_55 rfl
        · --
          have i10 : Iv j18_5 0 63 := iv_lt1 (iv_nle c8) ij18_5 (⟨by decide, by decide⟩ : Iv 64 64 64) (by decide)
          refine lv_lload_n hx hb dX0_pieceOf_25 rfl (lv_at hl 2 rfl) ?_
          refine lv_lload_n hx hb dX0_pieceOf_26 rfl (lv_at hl 2 rfl) ?_
          refine o_cl hw (oRunS cx hA hw q_X0_beside k_m_X0_29 (As := [.long j18_3]) (c_X0_beside j18_3) (by decide) rfl hl.1 rfl (Nat.le_of_ble_eq_true rfl) dX0_pieceOf_27 (by decide)) (fun v12 σ11 H locs hp hw => ?_)
          have p12_0 := hp
          rw [p12_0] at hw
          refine lv_lload_n hx hb dX0_pieceOf_30 rfl (lv_at hl 0 rfl) ?_
          refine lv_land hx hb dX0_pieceOf_31 ?_
          refine lv_topl (fun v13 e13 => ?_)
          refine lv_lor hx hb dX0_pieceOf_32 ?_
          refine lv_topl (fun v14 e14 => ?_)
          refine lv_lstore (lv' := [(6, .long v14), (0, .long a0), (2, .int a1), (3, .long j18_3), (5, .int j18_5)]) hx hb dX0_pieceOf_33 hl (by decide) rfl (fun ls hl => ?_)
          refine lv_lload hx hb dX0_pieceOf_35 (lv_at hl 0 rfl) ?_
          refine lv_lload_n hx hb dX0_pieceOf_37 rfl (lv_at hl 3 rfl) ?_
          refine W.lcmp hx hb dX0_pieceOf_38 ?_
          refine lv_topi (fun v15 e15 => ?_)
          have i15 : Iv v15 (-1) 1 := iv_lcmp e15
          refine lv_if_ne (tgt := 45) hx hb dX0_pieceOf_39 (by decide) (fun c16 => ?_) (fun c16 => ?_)
          · --
            refine lv_lload hx hb dX0_pieceOf_45 (lv_at hl 0 rfl) ?_
            refine lv_lstore_n (lv' := [(3, .long v14), (6, .long v14), (0, .long a0), (2, .int a1), (5, .int j18_5)]) hx hb dX0_pieceOf_47 rfl hl (by decide) rfl (fun ls hl => ?_)
            obtain ⟨v17, e17⟩ : ∃ y : Int32, y = j18_5 + 1 := ⟨_, rfl⟩
            have i17 : Iv v17 1 64 := iv_add e17 i10 (⟨by decide, by decide⟩ : Iv 1 1 1) (by decide)
            have x17 : v17.toInt = j18_5.toInt + 1 := ex_add e17 i10 (⟨by decide, by decide⟩ : Iv 1 1 1) (by decide)
            refine lv_iinc (v := v17) (lv' := [(5, .int v17), (3, .long v14), (6, .long v14), (0, .long a0), (2, .int a1)]) hx hb dX0_pieceOf_48 hl (k := 4) rfl (by rw [e17]; rfl) (by decide) rfl (fun ls hl => ?_)
            refine lv_goto (tgt := 18) hx hb dX0_pieceOf_51 (by decide) ?_
            exact ih_18 v14 v17 (iv_w i17 (by decide)) (ms_up x17 (by decide) (iv_w (a' := 0) (b' := 64) i17 (by decide)).2 hn_18) _ _ hw _ (lv_sub hl [3, 4, 1, 0] rfl)
          · --
            have i18 : Iv v15 0 0 := iv_eq1 c16 i15 (⟨by decide, by decide⟩ : Iv 0 0 0) (by decide)
            refine lv_goto (tgt := 54) hx hb dX0_pieceOf_42 (by decide) ?_
            refine lv_lload_n hx hb dX0_pieceOf_54 rfl (lv_at hl 3 rfl) ?_
            rw [← hQ]
            exact o_rl cx rx hw dX0_pieceOf_55 rfl
    exact J_18 _ v7 0 (iv_w (⟨by decide, by decide⟩ : Iv 0 0 0) (by decide)) (Nat.lt_succ_self _) _ _ hw _ (lv_sub hl [2, 3, 1, 0] rfl)
  · --
    have i19 : Iv v2 0 0 := iv_eq1 c3 p2_1 (⟨by decide, by decide⟩ : Iv 0 0 0) (by decide)
    refine lv_lconst (v := 0) hx hb dX0_pieceOf_8 (by decide) ?_
    rw [← hQ]
    exact o_rl cx rx hw dX0_pieceOf_9 rfl
set_option maxHeartbeats 4000000 in
set_option maxRecDepth 100000 in
theorem c_J13_bitCount_95d88 (a0 : Int64) : oMet l A L τ cy D K yJ13_bitCount_95d88 cJ13_bitCount_95d88 2 (some .int) 0 0 [.long a0] σ (va_Qi (fun r σ1 => σ1 = σ ∧ Iv r 0 127) (oPo A L τ cy D) A) := by
  refine oMk (by decide) (Nat.le_of_ble_eq_true rfl) rfl ?_
  intro p e s m args below meth c ls cx rx hA hw hl
  generalize hQ : MQ below _ args s 0 0 A = Q
  have hx := cx.1.1
  have hb := cx.1.2.1
  have hml := cx.1.2.2.1
  have hown := cx.1.2.2.2.1
  have hts := cx.1.2.2.2.2
  have hl : lv_has ls 2 [(0, .long a0)] := hl
  refine lv_lload_n hx hb dJ13_bitCount_95d88_0 rfl (lv_at hl 0 rfl) ?_
  refine lv_lload_n hx hb dJ13_bitCount_95d88_1 rfl (lv_at hl 0 rfl) ?_
  refine lv_iconst (v := 1) hx hb dJ13_bitCount_95d88_2 (by decide) ?_
  refine lv_lushr hx hb dJ13_bitCount_95d88_3 rfl ?_
  refine lv_topl (fun v1 e1 => ?_)
  refine lv_ldc2 (v := 6148914691236517205) hx hb hown (hts _ k_k_J13_314) dJ13_bitCount_95d88_4 ?_
  refine lv_land hx hb dJ13_bitCount_95d88_7 ?_
  refine lv_topl (fun v2 e2 => ?_)
  refine lv_lsub hx hb dJ13_bitCount_95d88_8 ?_
  refine lv_topl (fun v3 e3 => ?_)
  refine lv_lstore_n (lv' := [(0, .long v3)]) hx hb dJ13_bitCount_95d88_9 rfl hl (by decide) rfl (fun ls hl => ?_)
  refine lv_lload_n hx hb dJ13_bitCount_95d88_10 rfl (lv_at hl 0 rfl) ?_
  refine lv_ldc2 (v := 3689348814741910323) hx hb hown (hts _ k_k_J13_316) dJ13_bitCount_95d88_11 ?_
  refine lv_land hx hb dJ13_bitCount_95d88_14 ?_
  refine lv_topl (fun v4 e4 => ?_)
  refine lv_lload_n hx hb dJ13_bitCount_95d88_15 rfl (lv_at hl 0 rfl) ?_
  refine lv_iconst (v := 2) hx hb dJ13_bitCount_95d88_16 (by decide) ?_
  refine lv_lushr hx hb dJ13_bitCount_95d88_17 rfl ?_
  refine lv_topl (fun v5 e5 => ?_)
  refine lv_ldc2 (v := 3689348814741910323) hx hb hown (hts _ k_k_J13_316) dJ13_bitCount_95d88_18 ?_
  refine lv_land hx hb dJ13_bitCount_95d88_21 ?_
  refine lv_topl (fun v6 e6 => ?_)
  refine lv_ladd hx hb dJ13_bitCount_95d88_22 ?_
  refine lv_topl (fun v7 e7 => ?_)
  refine lv_lstore_n (lv' := [(0, .long v7)]) hx hb dJ13_bitCount_95d88_23 rfl hl (by decide) rfl (fun ls hl => ?_)
  refine lv_lload_n hx hb dJ13_bitCount_95d88_24 rfl (lv_at hl 0 rfl) ?_
  refine lv_lload_n hx hb dJ13_bitCount_95d88_25 rfl (lv_at hl 0 rfl) ?_
  refine lv_iconst (v := 4) hx hb dJ13_bitCount_95d88_26 (by decide) ?_
  refine lv_lushr hx hb dJ13_bitCount_95d88_27 rfl ?_
  refine lv_topl (fun v8 e8 => ?_)
  refine lv_ladd hx hb dJ13_bitCount_95d88_28 ?_
  refine lv_topl (fun v9 e9 => ?_)
  refine lv_ldc2 (v := 1085102592571150095) hx hb hown (hts _ k_k_J13_318) dJ13_bitCount_95d88_29 ?_
  refine lv_land hx hb dJ13_bitCount_95d88_32 ?_
  refine lv_topl (fun v10 e10 => ?_)
  refine lv_lstore_n (lv' := [(0, .long v10)]) hx hb dJ13_bitCount_95d88_33 rfl hl (by decide) rfl (fun ls hl => ?_)
  refine lv_lload_n hx hb dJ13_bitCount_95d88_34 rfl (lv_at hl 0 rfl) ?_
  refine lv_lload_n hx hb dJ13_bitCount_95d88_35 rfl (lv_at hl 0 rfl) ?_
  refine lv_bipush (v := 8) hx hb dJ13_bitCount_95d88_36 (by decide) ?_
  refine lv_lushr hx hb dJ13_bitCount_95d88_38 rfl ?_
  refine lv_topl (fun v11 e11 => ?_)
  refine lv_ladd hx hb dJ13_bitCount_95d88_39 ?_
  refine lv_topl (fun v12 e12 => ?_)
  refine lv_lstore_n (lv' := [(0, .long v12)]) hx hb dJ13_bitCount_95d88_40 rfl hl (by decide) rfl (fun ls hl => ?_)
  refine lv_lload_n hx hb dJ13_bitCount_95d88_41 rfl (lv_at hl 0 rfl) ?_
  refine lv_lload_n hx hb dJ13_bitCount_95d88_42 rfl (lv_at hl 0 rfl) ?_
  refine lv_bipush (v := 16) hx hb dJ13_bitCount_95d88_43 (by decide) ?_
  refine lv_lushr hx hb dJ13_bitCount_95d88_45 rfl ?_
  refine lv_topl (fun v13 e13 => ?_)
  refine lv_ladd hx hb dJ13_bitCount_95d88_46 ?_
  refine lv_topl (fun v14 e14 => ?_)
  refine lv_lstore_n (lv' := [(0, .long v14)]) hx hb dJ13_bitCount_95d88_47 rfl hl (by decide) rfl (fun ls hl => ?_)
  refine lv_lload_n hx hb dJ13_bitCount_95d88_48 rfl (lv_at hl 0 rfl) ?_
  refine lv_lload_n hx hb dJ13_bitCount_95d88_49 rfl (lv_at hl 0 rfl) ?_
  refine lv_bipush (v := 32) hx hb dJ13_bitCount_95d88_50 (by decide) ?_
  refine lv_lushr hx hb dJ13_bitCount_95d88_52 rfl ?_
  refine lv_topl (fun v15 e15 => ?_)
  refine lv_ladd hx hb dJ13_bitCount_95d88_53 ?_
  refine lv_topl (fun v16 e16 => ?_)
  refine lv_lstore_n (lv' := [(0, .long v16)]) hx hb dJ13_bitCount_95d88_54 rfl hl (by decide) rfl (fun ls hl => ?_)
  refine lv_lload_n hx hb dJ13_bitCount_95d88_55 rfl (lv_at hl 0 rfl) ?_
  refine lv_l2i hx hb dJ13_bitCount_95d88_56 rfl ?_
  refine lv_topi (fun v17 e17 => ?_)
  refine lv_bipush (v := 127) hx hb dJ13_bitCount_95d88_57 (by decide) ?_
  refine lv_iand hx hb dJ13_bitCount_95d88_59 ?_
  refine lv_topi (fun v18 e18 => ?_)
  have i18 : Iv v18 0 127 := iv_and e18 (⟨by decide, by decide⟩ : Iv 127 127 127) (by decide)
  rw [← hQ]
  exact o_ri cx rx hw dJ13_bitCount_95d88_60 ⟨rfl, (iv_w i18 (by decide))⟩
abbrev fs_X10_road : List Nat := [193]
abbrev ts_X10_road : List Nat := [36]
set_option maxHeartbeats 4000000 in
set_option maxRecDepth 100000 in
theorem c_X10_road (a0 : Nat) (ha0 : oA L τ a0 9) : oMet l A L τ cy D K yX10_road cX10_road 10 (some .int) 3 66 [.ref a0] σ (va_Qi (fun r σ1 => oFr τ fs_X10_road ts_X10_road σ σ1 ∧ Iv r 0 127) (oPo A L τ cy D) A) := by
  refine oMk (by decide) (Nat.le_of_ble_eq_true rfl) rfl ?_
  intro p e s m args below meth c ls cx rx hA hw hl
  generalize hQ : MQ below _ args s 0 0 A = Q
  have hx := cx.1.1
  have hb := cx.1.2.1
  have hml := cx.1.2.2.1
  have hown := cx.1.2.2.2.1
  have hts := cx.1.2.2.2.2
  have hl : lv_has ls 10 [(0, .ref a0)] := hl
  have fr : oFr τ fs_X10_road ts_X10_road σ σ := oFr_rf
  refine lv_aload_n hx hb dX10_road_0 rfl (lv_at hl 0 rfl) ?_
  refine o_cl hw (oRunV cx hA hw q_X10_roadNow k_m_X10_335 rfl ha0 (by decide) (As := []) (c_X10_roadNow a0 ha0) (by decide) rfl hl.1 rfl (Nat.le_of_ble_eq_true rfl) dX10_road_1 (by decide)) (fun v2 σ1 H locs hp hw => ?_)
  have p2_0 := hp
  rw [p2_0] at hw
  refine lv_lstore_n (lv' := [(1, .long v2), (0, .ref a0)]) hx hb dX10_road_4 rfl hl (by decide) rfl (fun ls hl => ?_)
  refine lv_iconst (v := 0) hx hb dX10_road_5 (by decide) ?_
  refine lv_istore_n (lv' := [(3, .int 0), (1, .long v2), (0, .ref a0)]) hx hb dX10_road_6 rfl hl (by decide) rfl (fun ls hl => ?_)
  refine lv_iconst (v := 0) hx hb dX10_road_7 (by decide) ?_
  refine lv_istore (lv' := [(4, .int 0), (3, .int 0), (1, .long v2), (0, .ref a0)]) hx hb dX10_road_8 hl (by decide) rfl (fun ls hl => ?_)
  refine lv_lload_n hx hb dX10_road_10 rfl (lv_at hl 2 rfl) ?_
  refine lv_lstore (lv' := [(5, .long v2), (4, .int 0), (3, .int 0), (1, .long v2), (0, .ref a0)]) hx hb dX10_road_11 hl (by decide) rfl (fun ls hl => ?_)
  refine lv_iconst (v := 0) hx hb dX10_road_13 (by decide) ?_
  refine lv_istore (lv' := [(7, .int 0), (5, .long v2), (4, .int 0), (3, .int 0), (1, .long v2), (0, .ref a0)]) hx hb dX10_road_14 hl (by decide) rfl (fun ls hl => ?_)
  have J_16 : ∀ n : Nat, ∀ (j16_3 : Int32) (j16_4 : Int32) (ij16_4 : Iv j16_4 0 127) (j16_5 : Int64) (j16_7 : Int32) (ij16_7 : Iv j16_7 0 64), (64 - j16_7.toInt).toNat < n → ∀ (σ_16 : oSt) (H : Heap) (locs : List Loc), oI A L τ cy D s.heap σ_16 H locs → oFr τ fs_X10_road ts_X10_road σ σ_16 → ∀ (ls : Array Slot), lv_has ls 10 [(0, .ref a0), (1, .long v2), (3, .int j16_3), (4, .int j16_4), (5, .long j16_5), (7, .int j16_7)] → W p l e ({ frames := 3, cells := 0, slots := 0, locals := 66 } : Room) s m args below meth c H locs 0 0 Q (F0 m 16 ls []) := by
    intro n
    induction n with
    | zero => intro j16_3 j16_4 ij16_4 j16_5 j16_7 ij16_7 hn_16  σ_16 H locs hw fr   ls hl; exact absurd hn_16 (Nat.not_lt_zero _)
    | succ n ih_16 =>
      intro j16_3 j16_4 ij16_4 j16_5 j16_7 ij16_7 hn_16  σ_16 H locs hw fr   ls hl
      refine lv_iload hx hb dX10_road_16 (lv_at hl 5 rfl) ?_
      refine lv_bipush (v := 64) hx hb dX10_road_18 (by decide) ?_
      have J_74 : ∀ (σ_74 : oSt) (H : Heap) (locs : List Loc), oI A L τ cy D s.heap σ_74 H locs → oFr τ fs_X10_road ts_X10_road σ σ_74 → ∀ (ls : Array Slot), lv_has ls 10 [(0, .ref a0), (1, .long v2), (3, .int j16_3), (4, .int j16_4), (5, .long j16_5), (7, .int j16_7)] → W p l e ({ frames := 3, cells := 0, slots := 0, locals := 66 } : Room) s m args below meth c H locs 0 0 Q (F0 m 74 ls []) := by
        intro    σ_74 H locs hw fr   ls hl
        refine lv_aload_n hx hb dX10_road_74 rfl (lv_at hl 0 rfl) ?_
        refine g_577 cx hw ha0 k_f_X10_19 dX10_road_75 (fun v3 e3 h3 => ?_)
        refine o_cv hw (oRunV cx hA hw q_X4_start k_m_X10_292 rfl h3 (by decide) (As := []) (c_X4_start v3 h3) (by decide) rfl hl.1 rfl (Nat.le_of_ble_eq_true rfl) dX10_road_78 (by decide)) (fun σ4 H locs hp hw => ?_)
        have p5_0 := hp
        have fr := oFr_tr fr p5_0 (by decide)
        refine lv_aload_n hx hb dX10_road_81 rfl (lv_at hl 0 rfl) ?_
        refine g_577 cx hw ha0 k_f_X10_19 dX10_road_82 (fun v6 e6 h6 => ?_)
        rw [show v6 = v3 from Option.some.inj (e6.symm.trans (((kr_c p5_0 (by decide)).trans e3)))]
        refine lv_lload_n hx hb dX10_road_85 rfl (lv_at hl 1 rfl) ?_
        refine o_cv hw (oRunV cx hA hw q_X4_put k_m_X10_295 rfl h3 (by decide) (As := [.long v2]) (c_X4_put v3 h3 v2) (by decide) rfl hl.1 rfl (Nat.le_of_ble_eq_true rfl) dX10_road_86 (by decide)) (fun σ7 H locs hp hw => ?_)
        have p8_0 := hp
        have fr := oFr_tr fr p8_0 (by decide)
        refine lv_aload_n hx hb dX10_road_89 rfl (lv_at hl 0 rfl) ?_
        refine g_577 cx hw ha0 k_f_X10_19 dX10_road_90 (fun v9 e9 h9 => ?_)
        rw [show v9 = v3 from Option.some.inj (e9.symm.trans (((kr_c p8_0 (by decide)).trans ((kr_c p5_0 (by decide)).trans e3))))]
        refine lv_iload_n hx hb dX10_road_93 rfl (lv_at hl 2 rfl) ?_
        refine lv_i2l hx hb dX10_road_94 rfl ?_
        refine lv_topl (fun v10 e10 => ?_)
        refine o_cv hw (oRunV cx hA hw q_X4_put k_m_X10_295 rfl h3 (by decide) (As := [.long v10]) (c_X4_put v3 h3 v10) (by decide) rfl hl.1 rfl (Nat.le_of_ble_eq_true rfl) dX10_road_95 (by decide)) (fun σ11 H locs hp hw => ?_)
        have p12_0 := hp
        have fr := oFr_tr fr p12_0 (by decide)
        refine lv_aload_n hx hb dX10_road_98 rfl (lv_at hl 0 rfl) ?_
        refine g_577 cx hw ha0 k_f_X10_19 dX10_road_99 (fun v13 e13 h13 => ?_)
        rw [show v13 = v3 from Option.some.inj (e13.symm.trans (((kr_c p12_0 (by decide)).trans ((kr_c p8_0 (by decide)).trans ((kr_c p5_0 (by decide)).trans e3)))))]
        refine lv_iload hx hb dX10_road_102 (lv_at hl 3 rfl) ?_
        refine lv_i2l hx hb dX10_road_104 rfl ?_
        refine lv_topl (fun v14 e14 => ?_)
        refine o_cv hw (oRunV cx hA hw q_X4_put k_m_X10_295 rfl h3 (by decide) (As := [.long v14]) (c_X4_put v3 h3 v14) (by decide) rfl hl.1 rfl (Nat.le_of_ble_eq_true rfl) dX10_road_105 (by decide)) (fun σ15 H locs hp hw => ?_)
        have p16_0 := hp
        have fr := oFr_tr fr p16_0 (by decide)
        refine lv_lload_n hx hb dX10_road_108 rfl (lv_at hl 1 rfl) ?_
        refine o_ci hw (oRunS cx hA hw q_J13_bitCount_95d88 k_m_X10_349 (As := [.long v2]) (c_J13_bitCount_95d88 v2) (by decide) rfl hl.1 rfl (Nat.le_of_ble_eq_true rfl) dX10_road_109 (by decide)) (fun v18 σ17 H locs hp hw => ?_)
        obtain ⟨p18_0, p18_1⟩ := hp
        rw [p18_0] at hw
        rw [← hQ]
        exact o_ri cx rx hw dX10_road_112 ⟨fr, (iv_w p18_1 (by decide))⟩
      refine lv_icmp_ge (tgt := 74) hx hb dX10_road_20 (by decide) (fun c19 => ?_) (fun c19 => ?_)
      · --
        have i20 : Iv j16_7 64 64 := iv_le2 c19 (⟨by decide, by decide⟩ : Iv 64 64 64) ij16_7 (by decide)
        exact J_74 σ_16 _ _ hw fr _ (lv_sub hl [0, 1, 2, 3, 4, 5] rfl)
      · --
        have i21 : Iv j16_7 0 63 := iv_lt1 (iv_nle c19) ij16_7 (⟨by decide, by decide⟩ : Iv 64 64 64) (by decide)
        refine lv_lload hx hb dX10_road_23 (lv_at hl 4 rfl) ?_
        refine lv_lconst (v := 0) hx hb dX10_road_25 (by decide) ?_
        refine W.lcmp hx hb dX10_road_26 ?_
        refine lv_topi (fun v22 e22 => ?_)
        have i22 : Iv v22 (-1) 1 := iv_lcmp e22
        refine lv_if_eq (tgt := 74) hx hb dX10_road_27 (by decide) (fun c23 => ?_) (fun c23 => ?_)
        · --
          have i24 : Iv v22 0 0 := iv_eq1 c23 i22 (⟨by decide, by decide⟩ : Iv 0 0 0) (by decide)
          exact J_74 σ_16 _ _ hw fr _ (lv_sub hl [0, 1, 2, 3, 4, 5] rfl)
        · --
          refine lv_lload hx hb dX10_road_30 (lv_at hl 4 rfl) ?_
          refine lv_lload hx hb dX10_road_32 (lv_at hl 4 rfl) ?_
          refine o_ci hw (oRunS cx hA hw q_X0_firstOf k_m_X10_339 (As := [.long j16_5]) (c_X0_firstOf j16_5) (by decide) rfl hl.1 rfl (Nat.le_of_ble_eq_true rfl) dX10_road_34 (by decide)) (fun v26 σ25 H locs hp hw => ?_)
          have p26_0 := hp
          rw [p26_0] at hw
          refine o_cl hw (oRunS cx hA hw q_X0_pieceOf k_m_X10_343 (As := [.long j16_5, .int v26]) (c_X0_pieceOf j16_5 v26) (by decide) rfl hl.1 rfl (Nat.le_of_ble_eq_true rfl) dX10_road_37 (by decide)) (fun v28 σ27 H locs hp hw => ?_)
          have p28_0 := hp
          rw [p28_0] at hw
          refine lv_lstore (lv' := [(8, .long v28), (0, .ref a0), (1, .long v2), (3, .int j16_3), (4, .int j16_4), (5, .long j16_5), (7, .int j16_7)]) hx hb dX10_road_40 hl (by decide) rfl (fun ls hl => ?_)
          refine lv_lload hx hb dX10_road_42 (lv_at hl 5 rfl) ?_
          refine lv_lload hx hb dX10_road_44 (lv_at hl 0 rfl) ?_
          refine lv_ldc2 (v := (-1)) hx hb hown (hts _ k_k_X10_347) dX10_road_46 ?_
          refine lv_lxor hx hb dX10_road_49 ?_
          refine lv_topl (fun v29 e29 => ?_)
          refine lv_land hx hb dX10_road_50 ?_
          refine lv_topl (fun v30 e30 => ?_)
          refine lv_lstore (lv' := [(5, .long v30), (8, .long v28), (0, .ref a0), (1, .long v2), (3, .int j16_3), (4, .int j16_4), (7, .int j16_7)]) hx hb dX10_road_51 hl (by decide) rfl (fun ls hl => ?_)
          obtain ⟨v31, e31⟩ : ∃ y : Int32, y = j16_3 + 1 := ⟨_, rfl⟩
          refine lv_iinc (v := v31) (lv' := [(3, .int v31), (5, .long v30), (8, .long v28), (0, .ref a0), (1, .long v2), (4, .int j16_4), (7, .int j16_7)]) hx hb dX10_road_53 hl (k := 4) rfl (by rw [e31]; rfl) (by decide) rfl (fun ls hl => ?_)
          refine lv_iload hx hb dX10_road_56 (lv_at hl 5 rfl) ?_
          refine lv_lload hx hb dX10_road_58 (lv_at hl 2 rfl) ?_
          refine o_ci hw (oRunS cx hA hw q_J13_bitCount_95d88 k_m_X10_349 (As := [.long v28]) (c_J13_bitCount_95d88 v28) (by decide) rfl hl.1 rfl (Nat.le_of_ble_eq_true rfl) dX10_road_60 (by decide)) (fun v33 σ32 H locs hp hw => ?_)
          obtain ⟨p33_0, p33_1⟩ := hp
          rw [p33_0] at hw
          refine va_mmax hx hb (hml.trans hl.1.symm) hown (hts _ k_m_X10_217) (hts _ k_s_J9_max_7cf53) (hts _ k_i_J9) (hts _ k_code_J9_max_7cf53) (by decide) (Nat.le_of_ble_eq_true rfl) (by decide) (by decide) dX10_road_63 ?_
          refine lv_topi (fun v34 e34 => ?_)
          have i34 : Iv v34 0 127 := iv_max e34 ij16_4 p33_1 (by decide)
          refine lv_istore (lv' := [(4, .int v34), (3, .int v31), (5, .long v30), (8, .long v28), (0, .ref a0), (1, .long v2), (7, .int j16_7)]) hx hb dX10_road_66 hl (by decide) rfl (fun ls hl => ?_)
          obtain ⟨v35, e35⟩ : ∃ y : Int32, y = j16_7 + 1 := ⟨_, rfl⟩
          have i35 : Iv v35 1 64 := iv_add e35 i21 (⟨by decide, by decide⟩ : Iv 1 1 1) (by decide)
          have x35 : v35.toInt = j16_7.toInt + 1 := ex_add e35 i21 (⟨by decide, by decide⟩ : Iv 1 1 1) (by decide)
          refine lv_iinc (v := v35) (lv' := [(7, .int v35), (4, .int v34), (3, .int v31), (5, .long v30), (8, .long v28), (0, .ref a0), (1, .long v2)]) hx hb dX10_road_68 hl (k := 6) rfl (by rw [e35]; rfl) (by decide) rfl (fun ls hl => ?_)
          refine lv_goto (tgt := 16) hx hb dX10_road_71 (by decide) ?_
          exact ih_16 v31 v34 i34 v30 v35 (iv_w i35 (by decide)) (ms_up x35 (by decide) (iv_w (a' := 0) (b' := 64) i35 (by decide)).2 hn_16) σ_16 _ _ hw fr _ (lv_sub hl [5, 6, 2, 1, 3, 0] rfl)
  exact J_16 _ 0 0 (iv_w (⟨by decide, by decide⟩ : Iv 0 0 0) (by decide)) v2 0 (iv_w (⟨by decide, by decide⟩ : Iv 0 0 0) (by decide)) (Nat.lt_succ_self _) σ _ _ hw fr _ (lv_sub hl [5, 4, 3, 2, 1, 0] rfl)
abbrev fs_X10_squares : List Nat := [193]
abbrev ts_X10_squares : List Nat := [36]
set_option maxHeartbeats 4000000 in
set_option maxRecDepth 100000 in
theorem c_X10_squares (a0 : Nat) (ha0 : oA L τ a0 9) : oMet l A L τ cy D K yX10_squares cX10_squares 8 (some .int) 3 66 [.ref a0] σ (va_Qi (fun r σ1 => oFr τ fs_X10_squares ts_X10_squares σ σ1 ∧ Iv r 0 127) (oPo A L τ cy D) A) := by
  refine oMk (by decide) (Nat.le_of_ble_eq_true rfl) rfl ?_
  intro p e s m args below meth c ls cx rx hA hw hl
  generalize hQ : MQ below _ args s 0 0 A = Q
  have hx := cx.1.1
  have hb := cx.1.2.1
  have hml := cx.1.2.2.1
  have hown := cx.1.2.2.2.1
  have hts := cx.1.2.2.2.2
  have hl : lv_has ls 8 [(0, .ref a0)] := hl
  have fr : oFr τ fs_X10_squares ts_X10_squares σ σ := oFr_rf
  refine lv_aload_n hx hb dX10_squares_0 rfl (lv_at hl 0 rfl) ?_
  refine o_cl hw (oRunV cx hA hw q_X10_roadNow k_m_X10_335 rfl ha0 (by decide) (As := []) (c_X10_roadNow a0 ha0) (by decide) rfl hl.1 rfl (Nat.le_of_ble_eq_true rfl) dX10_squares_1 (by decide)) (fun v2 σ1 H locs hp hw => ?_)
  have p2_0 := hp
  rw [p2_0] at hw
  refine lv_lstore_n (lv' := [(1, .long v2), (0, .ref a0)]) hx hb dX10_squares_4 rfl hl (by decide) rfl (fun ls hl => ?_)
  refine lv_lconst (v := 0) hx hb dX10_squares_5 (by decide) ?_
  refine lv_lstore_n (lv' := [(3, .long 0), (1, .long v2), (0, .ref a0)]) hx hb dX10_squares_6 rfl hl (by decide) rfl (fun ls hl => ?_)
  refine lv_iconst (v := 0) hx hb dX10_squares_7 (by decide) ?_
  refine lv_istore (lv' := [(5, .int 0), (3, .long 0), (1, .long v2), (0, .ref a0)]) hx hb dX10_squares_8 hl (by decide) rfl (fun ls hl => ?_)
  have J_10 : ∀ n : Nat, ∀ (j10_3 : Int64) (j10_5 : Int32) (ij10_5 : Iv j10_5 0 64), (64 - j10_5.toInt).toNat < n → ∀ (σ_10 : oSt) (H : Heap) (locs : List Loc), oI A L τ cy D s.heap σ_10 H locs → oFr τ fs_X10_squares ts_X10_squares σ σ_10 → ∀ (ls : Array Slot), lv_has ls 8 [(0, .ref a0), (1, .long v2), (3, .long j10_3), (5, .int j10_5)] → W p l e ({ frames := 3, cells := 0, slots := 0, locals := 66 } : Room) s m args below meth c H locs 0 0 Q (F0 m 10 ls []) := by
    intro n
    induction n with
    | zero => intro j10_3 j10_5 ij10_5 hn_10  σ_10 H locs hw fr   ls hl; exact absurd hn_10 (Nat.not_lt_zero _)
    | succ n ih_10 =>
      intro j10_3 j10_5 ij10_5 hn_10  σ_10 H locs hw fr   ls hl
      refine lv_iload hx hb dX10_squares_10 (lv_at hl 3 rfl) ?_
      refine lv_bipush (v := 64) hx hb dX10_squares_12 (by decide) ?_
      refine lv_icmp_ge (tgt := 58) hx hb dX10_squares_14 (by decide) (fun c3 => ?_) (fun c3 => ?_)
      · --
        have i4 : Iv j10_5 64 64 := iv_le2 c3 (⟨by decide, by decide⟩ : Iv 64 64 64) ij10_5 (by decide)
        refine lv_aload_n hx hb dX10_squares_58 rfl (lv_at hl 0 rfl) ?_
        refine g_577 cx hw ha0 k_f_X10_19 dX10_squares_59 (fun v5 e5 h5 => ?_)
        refine o_cv hw (oRunV cx hA hw q_X4_start k_m_X10_292 rfl h5 (by decide) (As := []) (c_X4_start v5 h5) (by decide) rfl hl.1 rfl (Nat.le_of_ble_eq_true rfl) dX10_squares_62 (by decide)) (fun σ6 H locs hp hw => ?_)
        have p7_0 := hp
        have fr := oFr_tr fr p7_0 (by decide)
        refine lv_aload_n hx hb dX10_squares_65 rfl (lv_at hl 0 rfl) ?_
        refine g_577 cx hw ha0 k_f_X10_19 dX10_squares_66 (fun v8 e8 h8 => ?_)
        rw [show v8 = v5 from Option.some.inj (e8.symm.trans (((kr_c p7_0 (by decide)).trans e5)))]
        refine lv_lload_n hx hb dX10_squares_69 rfl (lv_at hl 2 rfl) ?_
        refine o_cv hw (oRunV cx hA hw q_X4_put k_m_X10_295 rfl h5 (by decide) (As := [.long j10_3]) (c_X4_put v5 h5 j10_3) (by decide) rfl hl.1 rfl (Nat.le_of_ble_eq_true rfl) dX10_squares_70 (by decide)) (fun σ9 H locs hp hw => ?_)
        have p10_0 := hp
        have fr := oFr_tr fr p10_0 (by decide)
        refine lv_lload_n hx hb dX10_squares_73 rfl (lv_at hl 2 rfl) ?_
        refine o_ci hw (oRunS cx hA hw q_J13_bitCount_95d88 k_m_X10_349 (As := [.long j10_3]) (c_J13_bitCount_95d88 j10_3) (by decide) rfl hl.1 rfl (Nat.le_of_ble_eq_true rfl) dX10_squares_74 (by decide)) (fun v12 σ11 H locs hp hw => ?_)
        obtain ⟨p12_0, p12_1⟩ := hp
        rw [p12_0] at hw
        rw [← hQ]
        exact o_ri cx rx hw dX10_squares_77 ⟨fr, (iv_w p12_1 (by decide))⟩
      · --
        have i13 : Iv j10_5 0 63 := iv_lt1 (iv_nle c3) ij10_5 (⟨by decide, by decide⟩ : Iv 64 64 64) (by decide)
        refine lv_iload hx hb dX10_squares_17 (lv_at hl 3 rfl) ?_
        refine o_cl hw (oRunS cx hA hw q_X0_bit k_m_X10_312 (As := [.int j10_5]) (c_X0_bit j10_5) (by decide) rfl hl.1 rfl (Nat.le_of_ble_eq_true rfl) dX10_squares_19 (by decide)) (fun v15 σ14 H locs hp hw => ?_)
        have p15_0 := hp
        rw [p15_0] at hw
        refine lv_lstore (lv' := [(6, .long v15), (0, .ref a0), (1, .long v2), (3, .long j10_3), (5, .int j10_5)]) hx hb dX10_squares_22 hl (by decide) rfl (fun ls hl => ?_)
        refine lv_lload_n hx hb dX10_squares_24 rfl (lv_at hl 2 rfl) ?_
        refine lv_lload hx hb dX10_squares_25 (lv_at hl 0 rfl) ?_
        refine lv_land hx hb dX10_squares_27 ?_
        refine lv_topl (fun v16 e16 => ?_)
        refine lv_lconst (v := 0) hx hb dX10_squares_28 (by decide) ?_
        refine W.lcmp hx hb dX10_squares_29 ?_
        refine lv_topi (fun v17 e17 => ?_)
        have i17 : Iv v17 (-1) 1 := iv_lcmp e17
        have J_52 : ∀ (j52_3 : Int64), ∀ (σ_52 : oSt) (H : Heap) (locs : List Loc), oI A L τ cy D s.heap σ_52 H locs → oFr τ fs_X10_squares ts_X10_squares σ σ_52 → ∀ (ls : Array Slot), lv_has ls 8 [(0, .ref a0), (1, .long v2), (3, .long j52_3), (5, .int j10_5), (6, .long v15)] → W p l e ({ frames := 3, cells := 0, slots := 0, locals := 66 } : Room) s m args below meth c H locs 0 0 Q (F0 m 52 ls []) := by
          intro j52_3   σ_52 H locs hw fr   ls hl
          obtain ⟨v18, e18⟩ : ∃ y : Int32, y = j10_5 + 1 := ⟨_, rfl⟩
          have i18 : Iv v18 1 64 := iv_add e18 i13 (⟨by decide, by decide⟩ : Iv 1 1 1) (by decide)
          have x18 : v18.toInt = j10_5.toInt + 1 := ex_add e18 i13 (⟨by decide, by decide⟩ : Iv 1 1 1) (by decide)
          refine lv_iinc (v := v18) (lv' := [(5, .int v18), (0, .ref a0), (1, .long v2), (3, .long j52_3), (6, .long v15)]) hx hb dX10_squares_52 hl (k := 3) rfl (by rw [e18]; rfl) (by decide) rfl (fun ls hl => ?_)
          refine lv_goto (tgt := 10) hx hb dX10_squares_55 (by decide) ?_
          exact ih_10 j52_3 v18 (iv_w i18 (by decide)) (ms_up x18 (by decide) (iv_w (a' := 0) (b' := 64) i18 (by decide)).2 hn_10) σ_52 _ _ hw fr _ (lv_sub hl [1, 2, 3, 0] rfl)
        refine lv_if_eq (tgt := 52) hx hb dX10_squares_30 (by decide) (fun c19 => ?_) (fun c19 => ?_)
        · --
          have i20 : Iv v17 0 0 := iv_eq1 c19 i17 (⟨by decide, by decide⟩ : Iv 0 0 0) (by decide)
          exact J_52 j10_3 σ_10 _ _ hw fr _ (lv_sub hl [1, 2, 3, 4, 0] rfl)
        · --
          refine lv_lload hx hb dX10_squares_33 (lv_at hl 0 rfl) ?_
          refine o_cl hw (oRunS cx hA hw q_X0_beside k_m_X10_317 (As := [.long v15]) (c_X0_beside v15) (by decide) rfl hl.1 rfl (Nat.le_of_ble_eq_true rfl) dX10_squares_35 (by decide)) (fun v22 σ21 H locs hp hw => ?_)
          have p22_0 := hp
          rw [p22_0] at hw
          refine lv_lload_n hx hb dX10_squares_38 rfl (lv_at hl 2 rfl) ?_
          refine lv_land hx hb dX10_squares_39 ?_
          refine lv_topl (fun v23 e23 => ?_)
          refine o_ci hw (oRunS cx hA hw q_J13_bitCount_95d88 k_m_X10_349 (As := [.long v23]) (c_J13_bitCount_95d88 v23) (by decide) rfl hl.1 rfl (Nat.le_of_ble_eq_true rfl) dX10_squares_40 (by decide)) (fun v25 σ24 H locs hp hw => ?_)
          obtain ⟨p25_0, p25_1⟩ := hp
          rw [p25_0] at hw
          refine lv_iconst (v := 3) hx hb dX10_squares_43 (by decide) ?_
          refine lv_icmp_lt (tgt := 52) hx hb dX10_squares_44 (by decide) (fun c26 => ?_) (fun c26 => ?_)
          · --
            have i27 : Iv v25 0 2 := iv_lt1 c26 p25_1 (⟨by decide, by decide⟩ : Iv 3 3 3) (by decide)
            exact J_52 j10_3 σ_10 _ _ hw fr _ (lv_sub hl [1, 2, 3, 4, 0] rfl)
          · --
            have i28 : Iv v25 3 127 := iv_le2 (iv_nlt c26) (⟨by decide, by decide⟩ : Iv 3 3 3) p25_1 (by decide)
            refine lv_lload_n hx hb dX10_squares_47 rfl (lv_at hl 3 rfl) ?_
            refine lv_lload hx hb dX10_squares_48 (lv_at hl 0 rfl) ?_
            refine lv_lor hx hb dX10_squares_50 ?_
            refine lv_topl (fun v29 e29 => ?_)
            refine lv_lstore_n (lv' := [(3, .long v29), (6, .long v15), (0, .ref a0), (1, .long v2), (5, .int j10_5)]) hx hb dX10_squares_51 rfl hl (by decide) rfl (fun ls hl => ?_)
            exact J_52 v29 σ_10 _ _ hw fr _ (lv_sub hl [2, 3, 0, 4, 1] rfl)
  exact J_10 _ 0 0 (iv_w (⟨by decide, by decide⟩ : Iv 0 0 0) (by decide)) (Nat.lt_succ_self _) σ _ _ hw fr _ (lv_sub hl [3, 2, 1, 0] rfl)
end OM
