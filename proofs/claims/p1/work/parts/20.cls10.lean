section OM
variable {l : Launch} {A : Nat → Prop} {L : List Nat} {τ : Nat → Nat} {cy : Nat → ClassId} {D : va_G} {K : (Nat → Nat) × (Nat → Nat)} {σ : oSt}
set_option maxHeartbeats 4000000 in
set_option maxRecDepth 100000 in
theorem c_X11_herdsAt (a0 : Nat) (ha0 : oA L τ a0 10) (a1 : Nat) (ha1 : oA L τ a1 48) (a2 : Int32) : oMet l A L τ cy D K yX11_herdsAt cX11_herdsAt 5 (some .int) 0 0 [.ref a0, .ref a1, .int a2] σ (va_Qi (fun r σ1 => σ1 = σ ∧ Iv r 0 63) (oPo A L τ cy D) A) := by
  refine oMk (by decide) (Nat.le_of_ble_eq_true rfl) rfl ?_
  intro p e s m args below meth c ls cx rx hA hw hl
  generalize hQ : MQ below _ args s 0 0 A = Q
  have hx := cx.1.1
  have hb := cx.1.2.1
  have hml := cx.1.2.2.1
  have hown := cx.1.2.2.2.1
  have hts := cx.1.2.2.2.2
  have hl : lv_has ls 5 [(0, .ref a0), (1, .ref a1), (2, .int a2)] := hl
  refine lv_iconst (v := 0) hx hb dX11_herdsAt_0 (by decide) ?_
  refine lv_istore_n (lv' := [(3, .int 0), (0, .ref a0), (1, .ref a1), (2, .int a2)]) hx hb dX11_herdsAt_1 rfl hl (by decide) rfl (fun ls hl => ?_)
  refine lv_iconst (v := 0) hx hb dX11_herdsAt_2 (by decide) ?_
  refine lv_istore (lv' := [(4, .int 0), (3, .int 0), (0, .ref a0), (1, .ref a1), (2, .int a2)]) hx hb dX11_herdsAt_3 hl (by decide) rfl (fun ls hl => ?_)
  have J_5 : ∀ n : Nat, ∀ (j5_3 : Int32) (ij5_3 : Iv j5_3 0 63) (j5_4 : Int32) (ij5_4 : Iv j5_4 0 6), (6 - j5_4.toInt).toNat < n → ∀ (H : Heap) (locs : List Loc), oI A L τ cy D s.heap σ H locs → ∀ (ls : Array Slot), lv_has ls 5 [(0, .ref a0), (1, .ref a1), (2, .int a2), (3, .int j5_3), (4, .int j5_4)] → W p l e ({ frames := 0, cells := 0, slots := 0, locals := 0 } : Room) s m args below meth c H locs 0 0 Q (F0 m 5 ls []) := by
    intro n
    induction n with
    | zero => intro j5_3 ij5_3 j5_4 ij5_4 hn_5  H locs hw  ls hl; exact absurd hn_5 (Nat.not_lt_zero _)
    | succ n ih_5 =>
      intro j5_3 ij5_3 j5_4 ij5_4 hn_5  H locs hw  ls hl
      refine lv_iload hx hb dX11_herdsAt_5 (lv_at hl 4 rfl) ?_
      refine lv_aload_n hx hb dX11_herdsAt_7 rfl (lv_at hl 0 rfl) ?_
      refine g_647 cx hw ha0 k_f_X11_105 dX11_herdsAt_8 (fun v1 e1 i1 => ?_)
      refine lv_icmp_ge (tgt := 43) hx hb dX11_herdsAt_11 (by decide) (fun c2 => ?_) (fun c2 => ?_)
      · --
        refine lv_iload_n hx hb dX11_herdsAt_43 rfl (lv_at hl 3 rfl) ?_
        rw [← hQ]
        exact o_ri cx rx hw dX11_herdsAt_44 ⟨rfl, (iv_w ij5_3 (by decide))⟩
      · --
        have i3 : Iv j5_4 0 5 := iv_lt1 (iv_nle c2) ij5_4 i1 (by decide)
        have i4 : Iv v1 1 6 := iv_lt2 (iv_nle c2) ij5_4 i1 (by decide)
        refine lv_iload_n hx hb dX11_herdsAt_14 rfl (lv_at hl 3 rfl) ?_
        refine lv_aload_n hx hb dX11_herdsAt_15 rfl (lv_at hl 1 rfl) ?_
        refine lv_sipush (v := 320) hx hb dX11_herdsAt_16 (by decide) ?_
        refine lv_iload hx hb dX11_herdsAt_19 (lv_at hl 4 rfl) ?_
        refine lv_iadd hx hb dX11_herdsAt_21 ?_
        refine lv_topi (fun v5 e5 => ?_)
        have i5 : Iv v5 320 325 := iv_add e5 (⟨by decide, by decide⟩ : Iv 320 320 320) i3 (by decide)
        have x5 : v5.toInt = j5_4.toInt + 320 := (ex_add e5 (⟨by decide, by decide⟩ : Iv 320 320 320) i3 (by decide)).trans (Int.add_comm _ _)
        refine o_iald cx hw ha1 (by decide) rfl (iv_in i5 (by decide)) dX11_herdsAt_22 (fun v6 e6 b6 => ?_)
        have i6 : Iv v6 0 63 := rb_now b6 i5 (by decide)
        refine lv_iload_n hx hb dX11_herdsAt_23 rfl (lv_at hl 2 rfl) ?_
        have J_35 : ∀ (k35_1 : Int32) (ik35_1 : Iv k35_1 0 32), ∀ (H : Heap) (locs : List Loc), oI A L τ cy D s.heap σ H locs → ∀ (ls : Array Slot), lv_has ls 5 [(0, .ref a0), (1, .ref a1), (2, .int a2), (3, .int j5_3), (4, .int j5_4)] → W p l e ({ frames := 0, cells := 0, slots := 0, locals := 0 } : Room) s m args below meth c H locs 0 0 Q (F0 m 35 ls [.int k35_1, .int j5_3]) := by
          intro k35_1 ik35_1   H locs hw  ls hl
          refine lv_ior hx hb dX11_herdsAt_35 ?_
          refine lv_topi (fun v7 e7 => ?_)
          have i7 : Iv v7 0 63 := iv_or e7 ij5_3 ik35_1 6 (by decide)
          refine lv_istore_n (lv' := [(3, .int v7), (0, .ref a0), (1, .ref a1), (2, .int a2), (4, .int j5_4)]) hx hb dX11_herdsAt_36 rfl hl (by decide) rfl (fun ls hl => ?_)
          obtain ⟨v8, e8⟩ : ∃ y : Int32, y = j5_4 + 1 := ⟨_, rfl⟩
          have i8 : Iv v8 1 6 := iv_add e8 i3 (⟨by decide, by decide⟩ : Iv 1 1 1) (by decide)
          have x8 : v8.toInt = j5_4.toInt + 1 := ex_add e8 i3 (⟨by decide, by decide⟩ : Iv 1 1 1) (by decide)
          refine lv_iinc (v := v8) (lv' := [(4, .int v8), (3, .int v7), (0, .ref a0), (1, .ref a1), (2, .int a2)]) hx hb dX11_herdsAt_37 hl (k := 4) rfl (by rw [e8]; rfl) (by decide) rfl (fun ls hl => ?_)
          refine lv_goto (tgt := 5) hx hb dX11_herdsAt_40 (by decide) ?_
          exact ih_5 v7 i7 v8 (iv_w i8 (by decide)) (ms_up x8 (by decide) (iv_w (a' := 0) (b' := 6) i8 (by decide)).2 hn_5) _ _ hw _ (lv_sub hl [2, 3, 4, 1, 0] rfl)
        refine lv_icmp_ne (tgt := 34) hx hb dX11_herdsAt_24 (by decide) (fun c9 => ?_) (fun c9 => ?_)
        · --
          refine lv_iconst (v := 0) hx hb dX11_herdsAt_34 (by decide) ?_
          exact J_35 0 (iv_w (⟨by decide, by decide⟩ : Iv 0 0 0) (by decide)) _ _ hw _ (lv_sub hl [0, 1, 2, 3, 4] rfl)
        · --
          have i10 : Iv a2 0 63 := iv_eq1 (Eq.symm c9) (iv_top a2) i6 (by decide)
          refine lv_iconst (v := 1) hx hb dX11_herdsAt_27 (by decide) ?_
          refine lv_iload hx hb dX11_herdsAt_28 (lv_at hl 4 rfl) ?_
          refine lv_ishl hx hb dX11_herdsAt_30 ?_
          refine lv_topi (fun v11 e11 => ?_)
          have i11 : Iv v11 1 32 := iv_shl1 e11 i3 (by decide)
          refine lv_goto (tgt := 35) hx hb dX11_herdsAt_31 (by decide) ?_
          exact J_35 v11 (iv_w i11 (by decide)) _ _ hw _ (lv_sub hl [0, 1, 2, 3, 4] rfl)
  exact J_5 _ 0 (iv_w (⟨by decide, by decide⟩ : Iv 0 0 0) (by decide)) 0 (iv_w (⟨by decide, by decide⟩ : Iv 0 0 0) (by decide)) (Nat.lt_succ_self _) _ _ hw _ (lv_sub hl [2, 3, 4, 1, 0] rfl)
abbrev fs_X11_cell : List Nat := [658]
abbrev ts_X11_cell : List Nat := []
set_option maxHeartbeats 4000000 in
set_option maxRecDepth 100000 in
theorem c_X11_cell (a0 : Nat) (ha0 : oA L τ a0 10) (a1 : Int32) (a2 : Int32) : oMet l A L τ cy D K yX11_cell cX11_cell 3 (some .int) 2 43 [.ref a0, .int a1, .int a2] σ (va_Qi (fun r σ1 => oFr τ fs_X11_cell ts_X11_cell σ σ1) (oPo A L τ cy D) A) := by
  refine oMk (by decide) (Nat.le_of_ble_eq_true rfl) rfl ?_
  intro p e s m args below meth c ls cx rx hA hw hl
  generalize hQ : MQ below _ args s 0 0 A = Q
  have hx := cx.1.1
  have hb := cx.1.2.1
  have hml := cx.1.2.2.1
  have hown := cx.1.2.2.2.1
  have hts := cx.1.2.2.2.2
  have hl : lv_has ls 3 [(0, .ref a0), (1, .int a1), (2, .int a2)] := hl
  have fr : oFr τ fs_X11_cell ts_X11_cell σ σ := oFr_rf
  refine lv_aload_n hx hb dX11_cell_0 rfl (lv_at hl 0 rfl) ?_
  refine lv_iconst (v := 0) hx hb dX11_cell_1 (by decide) ?_
  refine p_658 cx hw ha0 k_f_X11_89 dX11_cell_2 (fun σ1 H locs eσ1 hw => ?_)
  have fr := oFr_i fr eσ1 (by decide)
  refine lv_aload_n hx hb dX11_cell_5 rfl (lv_at hl 0 rfl) ?_
  refine lv_iload_n hx hb dX11_cell_6 rfl (lv_at hl 1 rfl) ?_
  refine o_ci hw (oRunV cx hA hw q_X11_isCell k_m_X11_157 rfl ha0 (by decide) (As := [.int a1]) (c_X11_isCell a0 ha0 a1) (by decide) rfl hl.1 rfl (Nat.le_of_ble_eq_true rfl) dX11_cell_7 (by decide)) (fun v3 σ2 H locs hp hw => ?_)
  obtain ⟨p3_0, p3_1, p3_2⟩ := hp
  rw [p3_0] at hw
  have J_23 : ∀ (σ_23 : oSt) (H : Heap) (locs : List Loc), oI A L τ cy D s.heap σ_23 H locs → oFr τ fs_X11_cell ts_X11_cell σ σ_23 → ∀ (ls : Array Slot), lv_has ls 3 [(0, .ref a0), (1, .int a1), (2, .int a2)] → W p l e ({ frames := 2, cells := 0, slots := 0, locals := 43 } : Room) s m args below meth c H locs 0 0 Q (F0 m 23 ls []) := by
    intro    σ_23 H locs hw fr   ls hl
    refine lv_aload_n hx hb dX11_cell_23 rfl (lv_at hl 0 rfl) ?_
    refine o_ci hw (oRunV cx hA hw q_X11_lost k_m_X11_230 rfl ha0 (by decide) (As := []) (c_X11_lost a0 ha0) (by decide) rfl hl.1 rfl (Nat.le_of_ble_eq_true rfl) dX11_cell_24 (by decide)) (fun v5 σ4 H locs hp hw => ?_)
    obtain ⟨p5_0, p5_1⟩ := hp
    have fr := oFr_tr fr p5_0 (by decide)
    rw [← hQ]
    exact o_ri cx rx hw dX11_cell_27 fr
  refine lv_if_eq (tgt := 23) hx hb dX11_cell_10 (by decide) (fun c6 => ?_) (fun c6 => ?_)
  · --
    have i7 : Iv v3 0 0 := iv_eq1 c6 p3_1 (⟨by decide, by decide⟩ : Iv 0 0 0) (by decide)
    exact J_23 σ1 _ _ hw fr _ (lv_sub hl [0, 1, 2] rfl)
  · --
    have i8 : Iv v3 1 1 := iv_ne1 c6 p3_1 (⟨by decide, by decide⟩ : Iv 0 0 0) (by decide)
    have i9 : Iv a1 0 63 := p3_2 c6
    refine lv_iload_n hx hb dX11_cell_13 rfl (lv_at hl 2 rfl) ?_
    refine lv_iconst (v := 0) hx hb dX11_cell_14 (by decide) ?_
    refine lv_bipush (v := 7) hx hb dX11_cell_15 (by decide) ?_
    refine o_ci hw (oRunS cx hA hw q_X11_in k_m_X11_95 (As := [.int a2, .int 0, .int 7]) (c_X11_in a2 0 7) (by decide) rfl hl.1 rfl (Nat.le_of_ble_eq_true rfl) dX11_cell_17 (by decide)) (fun v11 σ10 H locs hp hw => ?_)
    obtain ⟨p11_0, p11_1, p11_2⟩ := hp
    rw [p11_0] at hw
    refine lv_if_ne (tgt := 28) hx hb dX11_cell_20 (by decide) (fun c12 => ?_) (fun c12 => ?_)
    · --
      have i13 : Iv v11 1 1 := iv_ne1 c12 p11_1 (⟨by decide, by decide⟩ : Iv 0 0 0) (by decide)
      have i14 : Iv a2 0 7 := (fun h => iv_rel (p11_2 h) (⟨by decide, by decide⟩ : Iv 0 0 0) (⟨by decide, by decide⟩ : Iv 7 7 7)) c12
      refine lv_iload_n hx hb dX11_cell_28 rfl (lv_at hl 2 rfl) ?_
      by_cases q15 : a2 = 0
      · --
        refine lv_tableIn (tgt := 72) hx hb dX11_cell_29 (by rw [q15]; decide) (by rw [q15]; decide) (by rw [q15]; rfl) (by decide) ?_
        have i16 : Iv a2 0 0 := iv_eq1 q15 i14 (⟨by decide, by decide⟩ : Iv 0 0 0) (by decide)
        refine lv_aload_n hx hb dX11_cell_72 rfl (lv_at hl 0 rfl) ?_
        refine g_640 cx hw ha0 k_f_X11_9 dX11_cell_73 (fun v17 e17 h17 => ?_)
        refine lv_iconst (v := 0) hx hb dX11_cell_76 (by decide) ?_
        refine lv_iload_n hx hb dX11_cell_77 rfl (lv_at hl 1 rfl) ?_
        refine lv_iadd hx hb dX11_cell_78 ?_
        refine lv_topi (fun v18 e18 => ?_)
        have i18 : Iv v18 0 63 := iv_add e18 (⟨by decide, by decide⟩ : Iv 0 0 0) i9 (by decide)
        have x18 : v18.toInt = a1.toInt + 0 := (ex_add e18 (⟨by decide, by decide⟩ : Iv 0 0 0) i9 (by decide)).trans (Int.add_comm _ _)
        refine o_iald cx hw h17 (by decide) rfl (iv_in i18 (by decide)) dX11_cell_79 (fun v19 e19 b19 => ?_)
        rw [← hQ]
        exact o_ri cx rx hw dX11_cell_80 fr
      by_cases q20 : a2 = 1
      · --
        refine lv_tableIn (tgt := 81) hx hb dX11_cell_29 (by rw [q20]; decide) (by rw [q20]; decide) (by rw [q20]; rfl) (by decide) ?_
        have i21 : Iv a2 1 1 := iv_eq1 q20 i14 (⟨by decide, by decide⟩ : Iv 1 1 1) (by decide)
        refine lv_aload_n hx hb dX11_cell_81 rfl (lv_at hl 0 rfl) ?_
        refine g_640 cx hw ha0 k_f_X11_9 dX11_cell_82 (fun v22 e22 h22 => ?_)
        refine lv_bipush (v := 64) hx hb dX11_cell_85 (by decide) ?_
        refine lv_iload_n hx hb dX11_cell_87 rfl (lv_at hl 1 rfl) ?_
        refine lv_iadd hx hb dX11_cell_88 ?_
        refine lv_topi (fun v23 e23 => ?_)
        have i23 : Iv v23 64 127 := iv_add e23 (⟨by decide, by decide⟩ : Iv 64 64 64) i9 (by decide)
        have x23 : v23.toInt = a1.toInt + 64 := (ex_add e23 (⟨by decide, by decide⟩ : Iv 64 64 64) i9 (by decide)).trans (Int.add_comm _ _)
        refine o_iald cx hw h22 (by decide) rfl (iv_in i23 (by decide)) dX11_cell_89 (fun v24 e24 b24 => ?_)
        rw [← hQ]
        exact o_ri cx rx hw dX11_cell_90 fr
      by_cases q25 : a2 = 2
      · --
        refine lv_tableIn (tgt := 91) hx hb dX11_cell_29 (by rw [q25]; decide) (by rw [q25]; decide) (by rw [q25]; rfl) (by decide) ?_
        have i26 : Iv a2 2 2 := iv_eq1 q25 i14 (⟨by decide, by decide⟩ : Iv 2 2 2) (by decide)
        refine lv_aload_n hx hb dX11_cell_91 rfl (lv_at hl 0 rfl) ?_
        refine g_640 cx hw ha0 k_f_X11_9 dX11_cell_92 (fun v27 e27 h27 => ?_)
        refine lv_sipush (v := 128) hx hb dX11_cell_95 (by decide) ?_
        refine lv_iload_n hx hb dX11_cell_98 rfl (lv_at hl 1 rfl) ?_
        refine lv_iadd hx hb dX11_cell_99 ?_
        refine lv_topi (fun v28 e28 => ?_)
        have i28 : Iv v28 128 191 := iv_add e28 (⟨by decide, by decide⟩ : Iv 128 128 128) i9 (by decide)
        have x28 : v28.toInt = a1.toInt + 128 := (ex_add e28 (⟨by decide, by decide⟩ : Iv 128 128 128) i9 (by decide)).trans (Int.add_comm _ _)
        refine o_iald cx hw h27 (by decide) rfl (iv_in i28 (by decide)) dX11_cell_100 (fun v29 e29 b29 => ?_)
        rw [← hQ]
        exact o_ri cx rx hw dX11_cell_101 fr
      by_cases q30 : a2 = 3
      · --
        refine lv_tableIn (tgt := 102) hx hb dX11_cell_29 (by rw [q30]; decide) (by rw [q30]; decide) (by rw [q30]; rfl) (by decide) ?_
        have i31 : Iv a2 3 3 := iv_eq1 q30 i14 (⟨by decide, by decide⟩ : Iv 3 3 3) (by decide)
        refine lv_aload_n hx hb dX11_cell_102 rfl (lv_at hl 0 rfl) ?_
        refine g_643 cx hw ha0 k_f_X11_13 dX11_cell_103 (fun v32 e32 h32 => ?_)
        refine lv_iload_n hx hb dX11_cell_106 rfl (lv_at hl 1 rfl) ?_
        refine o_iald cx hw h32 (by decide) rfl (iv_in i9 (by decide)) dX11_cell_107 (fun v33 e33 b33 => ?_)
        refine lv_iconst (v := 2) hx hb dX11_cell_108 (by decide) ?_
        have J_137 : ∀ (σ_137 : oSt) (H : Heap) (locs : List Loc), oI A L τ cy D s.heap σ_137 H locs → oFr τ fs_X11_cell ts_X11_cell σ σ_137 → ∀ (ls : Array Slot), lv_has ls 3 [(0, .ref a0), (1, .int a1), (2, .int a2)] → W p l e ({ frames := 2, cells := 0, slots := 0, locals := 43 } : Room) s m args below meth c H locs 0 0 Q (F0 m 137 ls []) := by
          intro    σ_137 H locs hw fr   ls hl
          refine lv_aload_n hx hb dX11_cell_137 rfl (lv_at hl 0 rfl) ?_
          refine g_643 cx hw ha0 k_f_X11_13 dX11_cell_138 (fun v34 e34 h34 => ?_)
          refine lv_iload_n hx hb dX11_cell_141 rfl (lv_at hl 1 rfl) ?_
          refine o_iald cx hw h34 (by decide) rfl (iv_in i9 (by decide)) dX11_cell_142 (fun v35 e35 b35 => ?_)
          rw [← hQ]
          exact o_ri cx rx hw dX11_cell_143 fr
        refine lv_icmp_ne (tgt := 137) hx hb dX11_cell_109 (by decide) (fun c36 => ?_) (fun c36 => ?_)
        · --
          exact J_137 σ1 _ _ hw fr _ (lv_sub hl [0, 1, 2] rfl)
        · --
          have i37 : Iv v33 2 2 := iv_eq1 c36 (iv_top v33) (⟨by decide, by decide⟩ : Iv 2 2 2) (by decide)
          refine lv_aload_n hx hb dX11_cell_112 rfl (lv_at hl 0 rfl) ?_
          refine g_640 cx hw ha0 k_f_X11_9 dX11_cell_113 (fun v38 e38 h38 => ?_)
          refine lv_sipush (v := 332) hx hb dX11_cell_116 (by decide) ?_
          refine o_iald cx hw h38 (by decide) rfl (iv_in (⟨by decide, by decide⟩ : Iv 332 332 332) (by decide)) dX11_cell_119 (fun v39 e39 b39 => ?_)
          refine lv_i2l hx hb dX11_cell_120 rfl ?_
          refine lv_topl (fun v40 e40 => ?_)
          refine lv_aload_n hx hb dX11_cell_121 rfl (lv_at hl 0 rfl) ?_
          refine g_644 cx hw ha0 k_f_X11_16 dX11_cell_122 (fun v41 e41 h41 => ?_)
          refine lv_iload_n hx hb dX11_cell_125 rfl (lv_at hl 1 rfl) ?_
          refine o_iald cx hw h41 (by decide) rfl (iv_in i9 (by decide)) dX11_cell_126 (fun v42 e42 b42 => ?_)
          refine o_ci hw (oRunS cx hA hw q_X11_has k_m_X11_215 (As := [.long v40, .int v42]) (c_X11_has v40 v42) (by decide) rfl hl.1 rfl (Nat.le_of_ble_eq_true rfl) dX11_cell_127 (by decide)) (fun v44 σ43 H locs hp hw => ?_)
          obtain ⟨p44_0, p44_1⟩ := hp
          rw [p44_0] at hw
          refine lv_if_eq (tgt := 137) hx hb dX11_cell_130 (by decide) (fun c45 => ?_) (fun c45 => ?_)
          · --
            have i46 : Iv v44 0 0 := iv_eq1 c45 p44_1 (⟨by decide, by decide⟩ : Iv 0 0 0) (by decide)
            exact J_137 σ1 _ _ hw fr _ (lv_sub hl [0, 1, 2] rfl)
          · --
            have i47 : Iv v44 1 1 := iv_ne1 c45 p44_1 (⟨by decide, by decide⟩ : Iv 0 0 0) (by decide)
            refine lv_iconst (v := 3) hx hb dX11_cell_133 (by decide) ?_
            refine lv_goto (tgt := 143) hx hb dX11_cell_134 (by decide) ?_
            rw [← hQ]
            exact o_ri cx rx hw dX11_cell_143 fr
      by_cases q48 : a2 = 4
      · --
        refine lv_tableIn (tgt := 144) hx hb dX11_cell_29 (by rw [q48]; decide) (by rw [q48]; decide) (by rw [q48]; rfl) (by decide) ?_
        have i49 : Iv a2 4 4 := iv_eq1 q48 i14 (⟨by decide, by decide⟩ : Iv 4 4 4) (by decide)
        refine lv_aload_n hx hb dX11_cell_144 rfl (lv_at hl 0 rfl) ?_
        refine g_640 cx hw ha0 k_f_X11_9 dX11_cell_145 (fun v50 e50 h50 => ?_)
        refine lv_sipush (v := 192) hx hb dX11_cell_148 (by decide) ?_
        refine lv_iload_n hx hb dX11_cell_151 rfl (lv_at hl 1 rfl) ?_
        refine lv_iadd hx hb dX11_cell_152 ?_
        refine lv_topi (fun v51 e51 => ?_)
        have i51 : Iv v51 192 255 := iv_add e51 (⟨by decide, by decide⟩ : Iv 192 192 192) i9 (by decide)
        have x51 : v51.toInt = a1.toInt + 192 := (ex_add e51 (⟨by decide, by decide⟩ : Iv 192 192 192) i9 (by decide)).trans (Int.add_comm _ _)
        refine o_iald cx hw h50 (by decide) rfl (iv_in i51 (by decide)) dX11_cell_153 (fun v52 e52 b52 => ?_)
        rw [← hQ]
        exact o_ri cx rx hw dX11_cell_154 fr
      by_cases q53 : a2 = 5
      · --
        refine lv_tableIn (tgt := 155) hx hb dX11_cell_29 (by rw [q53]; decide) (by rw [q53]; decide) (by rw [q53]; rfl) (by decide) ?_
        have i54 : Iv a2 5 5 := iv_eq1 q53 i14 (⟨by decide, by decide⟩ : Iv 5 5 5) (by decide)
        refine lv_aload_n hx hb dX11_cell_155 rfl (lv_at hl 0 rfl) ?_
        refine g_640 cx hw ha0 k_f_X11_9 dX11_cell_156 (fun v55 e55 h55 => ?_)
        refine lv_sipush (v := 256) hx hb dX11_cell_159 (by decide) ?_
        refine lv_iload_n hx hb dX11_cell_162 rfl (lv_at hl 1 rfl) ?_
        refine lv_iadd hx hb dX11_cell_163 ?_
        refine lv_topi (fun v56 e56 => ?_)
        have i56 : Iv v56 256 319 := iv_add e56 (⟨by decide, by decide⟩ : Iv 256 256 256) i9 (by decide)
        have x56 : v56.toInt = a1.toInt + 256 := (ex_add e56 (⟨by decide, by decide⟩ : Iv 256 256 256) i9 (by decide)).trans (Int.add_comm _ _)
        refine o_iald cx hw h55 (by decide) rfl (iv_in i56 (by decide)) dX11_cell_164 (fun v57 e57 b57 => ?_)
        rw [← hQ]
        exact o_ri cx rx hw dX11_cell_165 fr
      by_cases q58 : a2 = 6
      · --
        refine lv_tableIn (tgt := 166) hx hb dX11_cell_29 (by rw [q58]; decide) (by rw [q58]; decide) (by rw [q58]; rfl) (by decide) ?_
        have i59 : Iv a2 6 6 := iv_eq1 q58 i14 (⟨by decide, by decide⟩ : Iv 6 6 6) (by decide)
        refine lv_aload_n hx hb dX11_cell_166 rfl (lv_at hl 0 rfl) ?_
        refine lv_aload_n hx hb dX11_cell_167 rfl (lv_at hl 0 rfl) ?_
        refine g_640 cx hw ha0 k_f_X11_9 dX11_cell_168 (fun v60 e60 h60 => ?_)
        refine lv_iload_n hx hb dX11_cell_171 rfl (lv_at hl 1 rfl) ?_
        refine o_ci hw (oRunV cx hA hw q_X11_isRoad k_m_X11_211 rfl ha0 (by decide) (As := [.ref v60, .int a1]) (c_X11_isRoad a0 ha0 v60 h60 a1 (iv_w i9 (by decide))) (by decide) rfl hl.1 rfl (Nat.le_of_ble_eq_true rfl) dX11_cell_172 (by decide)) (fun v62 σ61 H locs hp hw => ?_)
        obtain ⟨p62_0, p62_1⟩ := hp
        rw [p62_0] at hw
        refine lv_if_eq (tgt := 182) hx hb dX11_cell_175 (by decide) (fun c63 => ?_) (fun c63 => ?_)
        · --
          have i64 : Iv v62 0 0 := iv_eq1 c63 p62_1 (⟨by decide, by decide⟩ : Iv 0 0 0) (by decide)
          refine lv_iconst (v := 0) hx hb dX11_cell_182 (by decide) ?_
          rw [← hQ]
          exact o_ri cx rx hw dX11_cell_183 fr
        · --
          have i65 : Iv v62 1 1 := iv_ne1 c63 p62_1 (⟨by decide, by decide⟩ : Iv 0 0 0) (by decide)
          refine lv_iconst (v := 1) hx hb dX11_cell_178 (by decide) ?_
          refine lv_goto (tgt := 183) hx hb dX11_cell_179 (by decide) ?_
          rw [← hQ]
          exact o_ri cx rx hw dX11_cell_183 fr
      have q15 := iv_nt q15 (k := 0) (by decide)
      have q20 := iv_nt q20 (k := 1) (by decide)
      have q25 := iv_nt q25 (k := 2) (by decide)
      have q30 := iv_nt q30 (k := 3) (by decide)
      have q48 := iv_nt q48 (k := 4) (by decide)
      have q53 := iv_nt q53 (k := 5) (by decide)
      have q58 := iv_nt q58 (k := 6) (by decide)
      refine lv_tableOut (tgt := 184) hx hb dX11_cell_29 (by omega) (by decide) ?_
      refine lv_aload_n hx hb dX11_cell_184 rfl (lv_at hl 0 rfl) ?_
      refine lv_aload_n hx hb dX11_cell_185 rfl (lv_at hl 0 rfl) ?_
      refine g_640 cx hw ha0 k_f_X11_9 dX11_cell_186 (fun v66 e66 h66 => ?_)
      refine lv_iload_n hx hb dX11_cell_189 rfl (lv_at hl 1 rfl) ?_
      refine o_ci hw (oRunV cx hA hw q_X11_herdsAt k_m_X11_233 rfl ha0 (by decide) (As := [.ref v66, .int a1]) (c_X11_herdsAt a0 ha0 v66 h66 a1) (by decide) rfl hl.1 rfl (Nat.le_of_ble_eq_true rfl) dX11_cell_190 (by decide)) (fun v68 σ67 H locs hp hw => ?_)
      obtain ⟨p68_0, p68_1⟩ := hp
      rw [p68_0] at hw
      rw [← hQ]
      exact o_ri cx rx hw dX11_cell_193 fr
    · --
      have i69 : Iv v11 0 0 := iv_eq1 c12 p11_1 (⟨by decide, by decide⟩ : Iv 0 0 0) (by decide)
      exact J_23 σ1 _ _ hw fr _ (lv_sub hl [0, 1, 2] rfl)
abbrev fs_X11_set : List Nat := [650, 651, 658]
abbrev ts_X11_set : List Nat := []
set_option maxHeartbeats 4000000 in
set_option maxRecDepth 100000 in
theorem c_X11_set (a0 : Nat) (ha0 : oA L τ a0 10) (a1 : Int32) (a2 : Int32) : oMet l A L τ cy D K yX11_set cX11_set 4 (some .int) 1 22 [.ref a0, .int a1, .int a2] σ (va_Qi (fun r σ1 => oFr τ fs_X11_set ts_X11_set σ σ1) (oPo A L τ cy D) A) := by
  refine oMk (by decide) (Nat.le_of_ble_eq_true rfl) rfl ?_
  intro p e s m args below meth c ls cx rx hA hw hl
  generalize hQ : MQ below _ args s 0 0 A = Q
  have hx := cx.1.1
  have hb := cx.1.2.1
  have hml := cx.1.2.2.1
  have hown := cx.1.2.2.2.1
  have hts := cx.1.2.2.2.2
  have hl : lv_has ls 4 [(0, .ref a0), (1, .int a1), (2, .int a2)] := hl
  have fr : oFr τ fs_X11_set ts_X11_set σ σ := oFr_rf
  refine lv_aload_n hx hb dX11_set_0 rfl (lv_at hl 0 rfl) ?_
  refine lv_iconst (v := 0) hx hb dX11_set_1 (by decide) ?_
  refine p_658 cx hw ha0 k_f_X11_89 dX11_set_2 (fun σ1 H locs eσ1 hw => ?_)
  have fr := oFr_i fr eσ1 (by decide)
  refine lv_iload_n hx hb dX11_set_5 rfl (lv_at hl 1 rfl) ?_
  refine lv_iconst (v := 0) hx hb dX11_set_6 (by decide) ?_
  refine lv_iconst (v := 1) hx hb dX11_set_7 (by decide) ?_
  refine o_ci hw (oRunS cx hA hw q_X11_in k_m_X11_95 (As := [.int a1, .int 0, .int 1]) (c_X11_in a1 0 1) (by decide) rfl hl.1 rfl (Nat.le_of_ble_eq_true rfl) dX11_set_8 (by decide)) (fun v3 σ2 H locs hp hw => ?_)
  obtain ⟨p3_0, p3_1, p3_2⟩ := hp
  rw [p3_0] at hw
  refine lv_if_eq (tgt := 24) hx hb dX11_set_11 (by decide) (fun c4 => ?_) (fun c4 => ?_)
  · --
    have i5 : Iv v3 0 0 := iv_eq1 c4 p3_1 (⟨by decide, by decide⟩ : Iv 0 0 0) (by decide)
    refine lv_iconst (v := (-1)) hx hb dX11_set_24 (by decide) ?_
    rw [← hQ]
    exact o_ri cx rx hw dX11_set_25 fr
  · --
    have i6 : Iv v3 1 1 := iv_ne1 c4 p3_1 (⟨by decide, by decide⟩ : Iv 0 0 0) (by decide)
    have i7 : Iv a1 0 1 := (fun h => iv_rel (p3_2 h) (⟨by decide, by decide⟩ : Iv 0 0 0) (⟨by decide, by decide⟩ : Iv 1 1 1)) c4
    refine lv_iload_n hx hb dX11_set_14 rfl (lv_at hl 2 rfl) ?_
    refine lv_iload_n hx hb dX11_set_15 rfl (lv_at hl 1 rfl) ?_
    refine lv_bipush (v := 99) hx hb dX11_set_16 (by decide) ?_
    refine o_ci hw (oRunS cx hA hw q_X11_in k_m_X11_95 (As := [.int a2, .int a1, .int 99]) (c_X11_in a2 a1 99) (by decide) rfl hl.1 rfl (Nat.le_of_ble_eq_true rfl) dX11_set_18 (by decide)) (fun v9 σ8 H locs hp hw => ?_)
    obtain ⟨p9_0, p9_1, p9_2⟩ := hp
    rw [p9_0] at hw
    refine lv_if_ne (tgt := 26) hx hb dX11_set_21 (by decide) (fun c10 => ?_) (fun c10 => ?_)
    · --
      have i11 : Iv v9 1 1 := iv_ne1 c10 p9_1 (⟨by decide, by decide⟩ : Iv 0 0 0) (by decide)
      have l12 : a1.toInt ≤ a2.toInt + 0 := le_of (p9_2 c10).1
      have i13 : Iv a2 0 99 := (fun h => iv_rel (p9_2 h) i7 (⟨by decide, by decide⟩ : Iv 99 99 99)) c10
      refine lv_iload_n hx hb dX11_set_26 rfl (lv_at hl 1 rfl) ?_
      have J_41 : ∀ (k41_0 : Int32), ∀ (σ_41 : oSt) (H : Heap) (locs : List Loc), oI A L τ cy D s.heap σ_41 H locs → oFr τ fs_X11_set ts_X11_set σ σ_41 → ∀ (ls : Array Slot), lv_has ls 4 [(0, .ref a0), (1, .int a1), (2, .int a2)] → W p l e ({ frames := 1, cells := 0, slots := 0, locals := 22 } : Room) s m args below meth c H locs 0 0 Q (F0 m 41 ls [.int k41_0]) := by
        intro k41_0   σ_41 H locs hw fr   ls hl
        refine lv_istore_n (lv' := [(3, .int k41_0), (0, .ref a0), (1, .int a1), (2, .int a2)]) hx hb dX11_set_41 rfl hl (by decide) rfl (fun ls hl => ?_)
        refine lv_iload_n hx hb dX11_set_42 rfl (lv_at hl 2 rfl) ?_
        refine lv_if_ne (tgt := 54) hx hb dX11_set_43 (by decide) (fun c14 => ?_) (fun c14 => ?_)
        · --
          have i15 : Iv a1 1 1 := iv_ne1 c14 i7 (⟨by decide, by decide⟩ : Iv 0 0 0) (by decide)
          have i16 : Iv a2 1 99 := iv_lel l12 i15 i13 (by decide)
          refine lv_aload_n hx hb dX11_set_54 rfl (lv_at hl 1 rfl) ?_
          refine lv_iload_n hx hb dX11_set_55 rfl (lv_at hl 3 rfl) ?_
          refine p_651 cx hw ha0 (iv_w i16 (by decide)) k_f_X11_29 dX11_set_56 (fun σ17 H locs eσ17 hw => ?_)
          have fr := oFr_i fr eσ17 (by decide)
          refine lv_iload_n hx hb dX11_set_59 rfl (lv_at hl 0 rfl) ?_
          rw [← hQ]
          exact o_ri cx rx hw dX11_set_60 fr
        · --
          have i18 : Iv a1 0 0 := iv_eq1 c14 i7 (⟨by decide, by decide⟩ : Iv 0 0 0) (by decide)
          refine lv_aload_n hx hb dX11_set_46 rfl (lv_at hl 1 rfl) ?_
          refine lv_iload_n hx hb dX11_set_47 rfl (lv_at hl 3 rfl) ?_
          refine p_650 cx hw ha0 k_f_X11_25 dX11_set_48 (fun σ19 H locs eσ19 hw => ?_)
          have fr := oFr_i fr eσ19 (by decide)
          refine lv_goto (tgt := 59) hx hb dX11_set_51 (by decide) ?_
          refine lv_iload_n hx hb dX11_set_59 rfl (lv_at hl 0 rfl) ?_
          rw [← hQ]
          exact o_ri cx rx hw dX11_set_60 fr
      refine lv_if_ne (tgt := 37) hx hb dX11_set_27 (by decide) (fun c20 => ?_) (fun c20 => ?_)
      · --
        have i21 : Iv a1 1 1 := iv_ne1 c20 i7 (⟨by decide, by decide⟩ : Iv 0 0 0) (by decide)
        have i22 : Iv a2 1 99 := iv_lel l12 i21 i13 (by decide)
        refine lv_aload_n hx hb dX11_set_37 rfl (lv_at hl 0 rfl) ?_
        refine g_651 cx hw ha0 k_f_X11_29 dX11_set_38 (fun v23 e23 i23 => ?_)
        exact J_41 v23 σ1 _ _ hw fr _ (lv_sub hl [0, 1, 2] rfl)
      · --
        have i24 : Iv a1 0 0 := iv_eq1 c20 i7 (⟨by decide, by decide⟩ : Iv 0 0 0) (by decide)
        refine lv_aload_n hx hb dX11_set_30 rfl (lv_at hl 0 rfl) ?_
        refine g_650 cx hw ha0 k_f_X11_25 dX11_set_31 (fun v25 e25 => ?_)
        refine lv_goto (tgt := 41) hx hb dX11_set_34 (by decide) ?_
        exact J_41 v25 σ1 _ _ hw fr _ (lv_sub hl [0, 1, 2] rfl)
    · --
      have i26 : Iv v9 0 0 := iv_eq1 c10 p9_1 (⟨by decide, by decide⟩ : Iv 0 0 0) (by decide)
      refine lv_iconst (v := (-1)) hx hb dX11_set_24 (by decide) ?_
      rw [← hQ]
      exact o_ri cx rx hw dX11_set_25 fr
abbrev fs_X11_sheet : List Nat := [658]
abbrev ts_X11_sheet : List Nat := [50]
set_option maxHeartbeats 4000000 in
set_option maxRecDepth 100000 in
theorem c_X11_sheet (a0 : Nat) (ha0 : oA L τ a0 10) (a1 : Int32) (a2 : Int32) (a3 : Int32) (a4 : Int32) : oMet l A L τ cy D K yX11_sheet cX11_sheet 9 (some .int) 1 40 [.ref a0, .int a1, .int a2, .int a3, .int a4] σ (va_Qi (fun r σ1 => oFr τ fs_X11_sheet ts_X11_sheet σ σ1) (oPo A L τ cy D) A) := by
  refine oMk (by decide) (Nat.le_of_ble_eq_true rfl) rfl ?_
  intro p e s m args below meth c ls cx rx hA hw hl
  generalize hQ : MQ below _ args s 0 0 A = Q
  have hx := cx.1.1
  have hb := cx.1.2.1
  have hml := cx.1.2.2.1
  have hown := cx.1.2.2.2.1
  have hts := cx.1.2.2.2.2
  have hl : lv_has ls 9 [(0, .ref a0), (1, .int a1), (2, .int a2), (3, .int a3), (4, .int a4)] := hl
  have fr : oFr τ fs_X11_sheet ts_X11_sheet σ σ := oFr_rf
  refine lv_aload_n hx hb dX11_sheet_0 rfl (lv_at hl 0 rfl) ?_
  refine lv_iconst (v := 0) hx hb dX11_sheet_1 (by decide) ?_
  refine p_658 cx hw ha0 k_f_X11_89 dX11_sheet_2 (fun σ1 H locs eσ1 hw => ?_)
  have fr := oFr_i fr eσ1 (by decide)
  refine lv_iload_n hx hb dX11_sheet_5 rfl (lv_at hl 1 rfl) ?_
  refine lv_iconst (v := 0) hx hb dX11_sheet_6 (by decide) ?_
  refine lv_iconst (v := 3) hx hb dX11_sheet_7 (by decide) ?_
  refine o_ci hw (oRunS cx hA hw q_X11_in k_m_X11_95 (As := [.int a1, .int 0, .int 3]) (c_X11_in a1 0 3) (by decide) rfl hl.1 rfl (Nat.le_of_ble_eq_true rfl) dX11_sheet_8 (by decide)) (fun v3 σ2 H locs hp hw => ?_)
  obtain ⟨p3_0, p3_1, p3_2⟩ := hp
  rw [p3_0] at hw
  refine lv_if_eq (tgt := 20) hx hb dX11_sheet_11 (by decide) (fun c4 => ?_) (fun c4 => ?_)
  · --
    have i5 : Iv v3 0 0 := iv_eq1 c4 p3_1 (⟨by decide, by decide⟩ : Iv 0 0 0) (by decide)
    refine lv_iconst (v := (-1)) hx hb dX11_sheet_20 (by decide) ?_
    rw [← hQ]
    exact o_ri cx rx hw dX11_sheet_21 fr
  · --
    have i6 : Iv v3 1 1 := iv_ne1 c4 p3_1 (⟨by decide, by decide⟩ : Iv 0 0 0) (by decide)
    have i7 : Iv a1 0 3 := (fun h => iv_rel (p3_2 h) (⟨by decide, by decide⟩ : Iv 0 0 0) (⟨by decide, by decide⟩ : Iv 3 3 3)) c4
    refine lv_iload_n hx hb dX11_sheet_14 rfl (lv_at hl 2 rfl) ?_
    refine lv_bipush (v := 6) hx hb dX11_sheet_15 (by decide) ?_
    refine lv_icmp_le (tgt := 22) hx hb dX11_sheet_17 (by decide) (fun c8 => ?_) (fun c8 => ?_)
    · --
      have i9 : Iv a2 (-2147483648) 6 := iv_le1 c8 (iv_top a2) (⟨by decide, by decide⟩ : Iv 6 6 6) (by decide)
      refine lv_iload_n hx hb dX11_sheet_22 rfl (lv_at hl 1 rfl) ?_
      refine lv_iconst (v := 3) hx hb dX11_sheet_23 (by decide) ?_
      have J_34 : ∀ (σ_34 : oSt) (H : Heap) (locs : List Loc), oI A L τ cy D s.heap σ_34 H locs → oFr τ fs_X11_sheet ts_X11_sheet σ σ_34 → ∀ (ls : Array Slot), lv_has ls 9 [(0, .ref a0), (1, .int a1), (2, .int a2), (3, .int a3), (4, .int a4)] → W p l e ({ frames := 1, cells := 0, slots := 0, locals := 40 } : Room) s m args below meth c H locs 0 0 Q (F0 m 34 ls []) := by
        intro    σ_34 H locs hw fr   ls hl
        refine lv_iconst (v := 0) hx hb dX11_sheet_34 (by decide) ?_
        refine lv_istore (lv' := [(5, .int 0), (0, .ref a0), (1, .int a1), (2, .int a2), (3, .int a3), (4, .int a4)]) hx hb dX11_sheet_35 hl (by decide) rfl (fun ls hl => ?_)
        refine lv_iload_n hx hb dX11_sheet_37 rfl (lv_at hl 4 rfl) ?_
        refine lv_istore (lv' := [(6, .int a3), (5, .int 0), (0, .ref a0), (1, .int a1), (2, .int a2), (3, .int a3), (4, .int a4)]) hx hb dX11_sheet_38 hl (by decide) rfl (fun ls hl => ?_)
        refine lv_iconst (v := 0) hx hb dX11_sheet_40 (by decide) ?_
        refine lv_istore (lv' := [(7, .int 0), (6, .int a3), (5, .int 0), (0, .ref a0), (1, .int a1), (2, .int a2), (3, .int a3), (4, .int a4)]) hx hb dX11_sheet_41 hl (by decide) rfl (fun ls hl => ?_)
        have J_43 : ∀ n : Nat, ∀ (j43_5 : Int32) (j43_6 : Int32) (j43_7 : Int32) (ij43_7 : Iv j43_7 0 6), (6 - j43_7.toInt).toNat < n → ∀ (σ_43 : oSt) (H : Heap) (locs : List Loc), oI A L τ cy D s.heap σ_43 H locs → oFr τ fs_X11_sheet ts_X11_sheet σ σ_43 → ∀ (ls : Array Slot), lv_has ls 9 [(0, .ref a0), (1, .int a1), (2, .int a2), (3, .int a3), (4, .int a4), (5, .int j43_5), (6, .int j43_6), (7, .int j43_7)] → W p l e ({ frames := 1, cells := 0, slots := 0, locals := 40 } : Room) s m args below meth c H locs 0 0 Q (F0 m 43 ls []) := by
          intro n
          induction n with
          | zero => intro j43_5 j43_6 j43_7 ij43_7 hn_43  σ_43 H locs hw fr   ls hl; exact absurd hn_43 (Nat.not_lt_zero _)
          | succ n ih_43 =>
            intro j43_5 j43_6 j43_7 ij43_7 hn_43  σ_43 H locs hw fr   ls hl
            refine lv_iload hx hb dX11_sheet_43 (lv_at hl 7 rfl) ?_
            refine lv_aload_n hx hb dX11_sheet_45 rfl (lv_at hl 0 rfl) ?_
            refine g_647 cx hw ha0 k_f_X11_105 dX11_sheet_46 (fun v10 e10 i10 => ?_)
            refine lv_icmp_ge (tgt := 135) hx hb dX11_sheet_49 (by decide) (fun c11 => ?_) (fun c11 => ?_)
            · --
              refine lv_iload_n hx hb dX11_sheet_135 rfl (lv_at hl 1 rfl) ?_
              refine lv_iconst (v := 3) hx hb dX11_sheet_136 (by decide) ?_
              refine lv_icmp_ne (tgt := 145) hx hb dX11_sheet_137 (by decide) (fun c12 => ?_) (fun c12 => ?_)
              · --
                have i13 : Iv a1 0 2 := iv_ne2 c12 i7 (⟨by decide, by decide⟩ : Iv 3 3 3) (by decide)
                refine lv_iload hx hb dX11_sheet_145 (lv_at hl 5 rfl) ?_
                rw [← hQ]
                exact o_ri cx rx hw dX11_sheet_147 fr
              · --
                have i14 : Iv a1 3 3 := iv_eq1 c12 i7 (⟨by decide, by decide⟩ : Iv 3 3 3) (by decide)
                refine lv_bipush (v := (-3)) hx hb dX11_sheet_140 (by decide) ?_
                refine lv_goto (tgt := 147) hx hb dX11_sheet_142 (by decide) ?_
                rw [← hQ]
                exact o_ri cx rx hw dX11_sheet_147 fr
            · --
              have i15 : Iv j43_7 0 5 := iv_lt1 (iv_nle c11) ij43_7 i10 (by decide)
              have i16 : Iv v10 1 6 := iv_lt2 (iv_nle c11) ij43_7 i10 (by decide)
              refine lv_iload_n hx hb dX11_sheet_52 rfl (lv_at hl 1 rfl) ?_
              have J_75 : ∀ (k75_0 : Int32), ∀ (σ_75 : oSt) (H : Heap) (locs : List Loc), oI A L τ cy D s.heap σ_75 H locs → oFr τ fs_X11_sheet ts_X11_sheet σ σ_75 → ∀ (ls : Array Slot), lv_has ls 9 [(0, .ref a0), (1, .int a1), (2, .int a2), (3, .int a3), (4, .int a4), (5, .int j43_5), (6, .int j43_6), (7, .int j43_7)] → W p l e ({ frames := 1, cells := 0, slots := 0, locals := 40 } : Room) s m args below meth c H locs 0 0 Q (F0 m 75 ls [.int k75_0]) := by
                intro k75_0   σ_75 H locs hw fr   ls hl
                refine lv_istore (lv' := [(8, .int k75_0), (0, .ref a0), (1, .int a1), (2, .int a2), (3, .int a3), (4, .int a4), (5, .int j43_5), (6, .int j43_6), (7, .int j43_7)]) hx hb dX11_sheet_75 hl (by decide) rfl (fun ls hl => ?_)
                refine lv_aload_n hx hb dX11_sheet_77 rfl (lv_at hl 1 rfl) ?_
                refine g_648 cx hw ha0 k_f_X11_22 dX11_sheet_78 (fun v17 e17 h17 => ?_)
                refine lv_iload hx hb dX11_sheet_81 (lv_at hl 8 rfl) ?_
                refine lv_iload_n hx hb dX11_sheet_83 rfl (lv_at hl 2 rfl) ?_
                refine lv_iconst (v := 3) hx hb dX11_sheet_84 (by decide) ?_
                have J_109 : ∀ (k109_2 : Int32) (ik109_2 : Iv k109_2 0 9), ∀ (σ_109 : oSt) (H : Heap) (locs : List Loc), oI A L τ cy D s.heap σ_109 H locs → oFr τ fs_X11_sheet ts_X11_sheet σ σ_109 → ∀ (ls : Array Slot), lv_has ls 9 [(0, .ref a0), (1, .int a1), (2, .int a2), (3, .int a3), (4, .int a4), (5, .int j43_5), (6, .int j43_6), (7, .int j43_7), (8, .int k75_0)] → W p l e ({ frames := 1, cells := 0, slots := 0, locals := 40 } : Room) s m args below meth c H locs 0 0 Q (F0 m 109 ls [.int k109_2, .int j43_7, .ref v17]) := by
                  intro k109_2 ik109_2   σ_109 H locs hw fr   ls hl
                  refine o_iast cx hw h17 (by decide) rfl (iv_in i15 (by decide)) trivial dX11_sheet_109 (fun σ18 H locs eσ18 hw => ?_)
                  have fr := oFr_p fr eσ18 h17 (by decide)
                  refine lv_iload hx hb dX11_sheet_110 (lv_at hl 5 rfl) ?_
                  refine lv_aload_n hx hb dX11_sheet_112 rfl (lv_at hl 0 rfl) ?_
                  refine g_648 cx hw ha0 k_f_X11_22 dX11_sheet_113 (fun v19 e19 h19 => ?_)
                  refine lv_iload hx hb dX11_sheet_116 (lv_at hl 7 rfl) ?_
                  refine o_iald cx hw h19 (by decide) rfl (iv_in i15 (by decide)) dX11_sheet_118 (fun v20 e20 b20 => ?_)
                  refine lv_iadd hx hb dX11_sheet_119 ?_
                  refine lv_topi (fun v21 e21 => ?_)
                  refine lv_istore (lv' := [(5, .int v21), (0, .ref a0), (1, .int a1), (2, .int a2), (3, .int a3), (4, .int a4), (6, .int j43_6), (7, .int j43_7), (8, .int k75_0)]) hx hb dX11_sheet_120 hl (by decide) rfl (fun ls hl => ?_)
                  refine lv_iload hx hb dX11_sheet_122 (lv_at hl 6 rfl) ?_
                  refine lv_iload hx hb dX11_sheet_124 (lv_at hl 5 rfl) ?_
                  refine lv_iadd hx hb dX11_sheet_126 ?_
                  refine lv_topi (fun v22 e22 => ?_)
                  refine lv_istore (lv' := [(6, .int v22), (5, .int v21), (0, .ref a0), (1, .int a1), (2, .int a2), (3, .int a3), (4, .int a4), (7, .int j43_7), (8, .int k75_0)]) hx hb dX11_sheet_127 hl (by decide) rfl (fun ls hl => ?_)
                  obtain ⟨v23, e23⟩ : ∃ y : Int32, y = j43_7 + 1 := ⟨_, rfl⟩
                  have i23 : Iv v23 1 6 := iv_add e23 i15 (⟨by decide, by decide⟩ : Iv 1 1 1) (by decide)
                  have x23 : v23.toInt = j43_7.toInt + 1 := ex_add e23 i15 (⟨by decide, by decide⟩ : Iv 1 1 1) (by decide)
                  refine lv_iinc (v := v23) (lv' := [(7, .int v23), (6, .int v22), (5, .int v21), (0, .ref a0), (1, .int a1), (2, .int a2), (3, .int a3), (4, .int a4), (8, .int k75_0)]) hx hb dX11_sheet_129 hl (k := 7) rfl (by rw [e23]; rfl) (by decide) rfl (fun ls hl => ?_)
                  refine lv_goto (tgt := 43) hx hb dX11_sheet_132 (by decide) ?_
                  exact ih_43 v21 v22 v23 (iv_w i23 (by decide)) (ms_up x23 (by decide) (iv_w (a' := 0) (b' := 6) i23 (by decide)).2 hn_43) σ18 _ _ hw fr _ (lv_sub hl [3, 4, 5, 6, 7, 2, 1, 0] rfl)
                have J_94 : ∀ (σ_94 : oSt) (H : Heap) (locs : List Loc), oI A L τ cy D s.heap σ_94 H locs → oFr τ fs_X11_sheet ts_X11_sheet σ σ_94 → ∀ (ls : Array Slot), lv_has ls 9 [(0, .ref a0), (1, .int a1), (2, .int a2), (3, .int a3), (4, .int a4), (5, .int j43_5), (6, .int j43_6), (7, .int j43_7), (8, .int k75_0)] → W p l e ({ frames := 1, cells := 0, slots := 0, locals := 40 } : Room) s m args below meth c H locs 0 0 Q (F0 m 94 ls [.int j43_7, .ref v17]) := by
                  intro    σ_94 H locs hw fr   ls hl
                  refine lv_iconst (v := 0) hx hb dX11_sheet_94 (by decide) ?_
                  refine lv_goto (tgt := 109) hx hb dX11_sheet_95 (by decide) ?_
                  exact J_109 0 (iv_w (⟨by decide, by decide⟩ : Iv 0 0 0) (by decide)) σ_94 _ _ hw fr _ (lv_sub hl [0, 1, 2, 3, 4, 5, 6, 7, 8] rfl)
                refine lv_icmp_eq (tgt := 94) hx hb dX11_sheet_85 (by decide) (fun c24 => ?_) (fun c24 => ?_)
                · --
                  have i25 : Iv a1 3 3 := iv_eq1 c24 i7 (⟨by decide, by decide⟩ : Iv 3 3 3) (by decide)
                  exact J_94 σ_75 _ _ hw fr _ (lv_sub hl [1, 2, 3, 4, 5, 6, 7, 8, 0] rfl)
                · --
                  have i26 : Iv a1 0 2 := iv_ne2 c24 i7 (⟨by decide, by decide⟩ : Iv 3 3 3) (by decide)
                  refine lv_iload hx hb dX11_sheet_88 (lv_at hl 8 rfl) ?_
                  refine lv_iload_n hx hb dX11_sheet_90 rfl (lv_at hl 3 rfl) ?_
                  refine lv_icmp_lt (tgt := 98) hx hb dX11_sheet_91 (by decide) (fun c27 => ?_) (fun c27 => ?_)
                  · --
                    have i28 : Iv a2 1 6 := iv_lt2 c27 i15 i9 (by decide)
                    refine lv_iconst (v := 0) hx hb dX11_sheet_98 (by decide) ?_
                    refine lv_bipush (v := 9) hx hb dX11_sheet_99 (by decide) ?_
                    refine lv_iload hx hb dX11_sheet_101 (lv_at hl 0 rfl) ?_
                    refine va_mmin hx hb (hml.trans hl.1.symm) hown (hts _ k_m_X11_243) (hts _ k_s_J9_min_7cf53) (hts _ k_i_J9) (hts _ k_code_J9_min_7cf53) (by decide) (Nat.le_of_ble_eq_true rfl) (by decide) (by decide) dX11_sheet_103 ?_
                    refine lv_topi (fun v29 e29 => ?_)
                    have i29 : Iv v29 (-2147483648) 9 := iv_min e29 (⟨by decide, by decide⟩ : Iv 9 9 9) (iv_top k75_0) (by decide)
                    refine va_mmax hx hb (hml.trans hl.1.symm) hown (hts _ k_m_X11_248) (hts _ k_s_J9_max_7cf53) (hts _ k_i_J9) (hts _ k_code_J9_max_7cf53) (by decide) (Nat.le_of_ble_eq_true rfl) (by decide) (by decide) dX11_sheet_106 ?_
                    refine lv_topi (fun v30 e30 => ?_)
                    have i30 : Iv v30 0 9 := iv_max e30 (⟨by decide, by decide⟩ : Iv 0 0 0) i29 (by decide)
                    exact J_109 v30 i30 σ_75 _ _ hw fr _ (lv_sub hl [1, 2, 3, 4, 5, 6, 7, 8, 0] rfl)
                  · --
                    have i31 : Iv a2 (-2147483648) 5 := iv_le1 (iv_nlt c27) i9 i15 (by decide)
                    exact J_94 σ_75 _ _ hw fr _ (lv_sub hl [1, 2, 3, 4, 5, 6, 7, 8, 0] rfl)
              refine lv_if_ne (tgt := 62) hx hb dX11_sheet_53 (by decide) (fun c32 => ?_) (fun c32 => ?_)
              · --
                have i33 : Iv a1 1 3 := iv_ne1 c32 i7 (⟨by decide, by decide⟩ : Iv 0 0 0) (by decide)
                refine lv_iload_n hx hb dX11_sheet_62 rfl (lv_at hl 1 rfl) ?_
                refine lv_iconst (v := 1) hx hb dX11_sheet_63 (by decide) ?_
                refine lv_icmp_ne (tgt := 73) hx hb dX11_sheet_64 (by decide) (fun c34 => ?_) (fun c34 => ?_)
                · --
                  have i35 : Iv a1 2 3 := iv_ne1 c34 i33 (⟨by decide, by decide⟩ : Iv 1 1 1) (by decide)
                  refine lv_iload hx hb dX11_sheet_73 (lv_at hl 6 rfl) ?_
                  exact J_75 j43_6 σ_43 _ _ hw fr _ (lv_sub hl [0, 1, 2, 3, 4, 5, 6, 7] rfl)
                · --
                  have i36 : Iv a1 1 1 := iv_eq1 c34 i33 (⟨by decide, by decide⟩ : Iv 1 1 1) (by decide)
                  refine lv_iload hx hb dX11_sheet_67 (lv_at hl 6 rfl) ?_
                  refine lv_i2s hx hb dX11_sheet_69 rfl ?_
                  refine lv_topi (fun v37 e37 => ?_)
                  refine lv_goto (tgt := 75) hx hb dX11_sheet_70 (by decide) ?_
                  exact J_75 v37 σ_43 _ _ hw fr _ (lv_sub hl [0, 1, 2, 3, 4, 5, 6, 7] rfl)
              · --
                have i38 : Iv a1 0 0 := iv_eq1 c32 i7 (⟨by decide, by decide⟩ : Iv 0 0 0) (by decide)
                refine lv_iload hx hb dX11_sheet_56 (lv_at hl 6 rfl) ?_
                refine lv_i2b hx hb dX11_sheet_58 rfl ?_
                refine lv_topi (fun v39 e39 => ?_)
                refine lv_goto (tgt := 75) hx hb dX11_sheet_59 (by decide) ?_
                exact J_75 v39 σ_43 _ _ hw fr _ (lv_sub hl [0, 1, 2, 3, 4, 5, 6, 7] rfl)
        exact J_43 _ 0 a3 0 (iv_w (⟨by decide, by decide⟩ : Iv 0 0 0) (by decide)) (Nat.lt_succ_self _) σ_34 _ _ hw fr _ (lv_sub hl [3, 4, 5, 6, 7, 2, 1, 0] rfl)
      refine lv_icmp_ge (tgt := 34) hx hb dX11_sheet_24 (by decide) (fun c40 => ?_) (fun c40 => ?_)
      · --
        have i41 : Iv a1 3 3 := iv_le2 c40 (⟨by decide, by decide⟩ : Iv 3 3 3) i7 (by decide)
        exact J_34 σ1 _ _ hw fr _ (lv_sub hl [0, 1, 2, 3, 4] rfl)
      · --
        have i42 : Iv a1 0 2 := iv_lt1 (iv_nle c40) i7 (⟨by decide, by decide⟩ : Iv 3 3 3) (by decide)
        refine lv_iload_n hx hb dX11_sheet_27 rfl (lv_at hl 2 rfl) ?_
        refine lv_if_ge (tgt := 34) hx hb dX11_sheet_28 (by decide) (fun c43 => ?_) (fun c43 => ?_)
        · --
          have i44 : Iv a2 0 6 := iv_le2 c43 (⟨by decide, by decide⟩ : Iv 0 0 0) i9 (by decide)
          exact J_34 σ1 _ _ hw fr _ (lv_sub hl [0, 1, 2, 3, 4] rfl)
        · --
          have i45 : Iv a2 (-2147483648) (-1) := iv_lt1 (iv_nle c43) i9 (⟨by decide, by decide⟩ : Iv 0 0 0) (by decide)
          refine lv_bipush (v := (-2)) hx hb dX11_sheet_31 (by decide) ?_
          rw [← hQ]
          exact o_ri cx rx hw dX11_sheet_33 fr
    · --
      have i46 : Iv a2 7 2147483647 := iv_lt2 (iv_nle c8) (⟨by decide, by decide⟩ : Iv 6 6 6) (iv_top a2) (by decide)
      refine lv_iconst (v := (-1)) hx hb dX11_sheet_20 (by decide) ?_
      rw [← hQ]
      exact o_ri cx rx hw dX11_sheet_21 fr
abbrev fs_X11_layN : List Nat := []
abbrev ts_X11_layN : List Nat := [48]
set_option maxHeartbeats 4000000 in
set_option maxRecDepth 100000 in
theorem c_X11_layN (a0 : Nat) (ha0 : oA L τ a0 48) (a1 : Nat) (ha1 : oA L τ a1 48) (a2 : Int32) (ia2 : Iv a2 0 0) : oMet l A L τ cy D K yX11_lay cX11_lay 4 none 0 0 [.ref a0, .ref a1, .int a2] σ (va_Qv (fun σ1 => oFr τ fs_X11_layN ts_X11_layN σ σ1) (oPo A L τ cy D) A) := by
  refine oMk (by decide) (Nat.le_of_ble_eq_true rfl) rfl ?_
  intro p e s m args below meth c ls cx rx hA hw hl
  generalize hQ : MQ below _ args s 0 0 A = Q
  have hx := cx.1.1
  have hb := cx.1.2.1
  have hml := cx.1.2.2.1
  have hown := cx.1.2.2.2.1
  have hts := cx.1.2.2.2.2
  have hl : lv_has ls 4 [(0, .ref a0), (1, .ref a1), (2, .int a2)] := hl
  have fr : oFr τ fs_X11_layN ts_X11_layN σ σ := oFr_rf
  refine lv_iconst (v := 0) hx hb dX11_lay_0 (by decide) ?_
  refine lv_istore_n (lv' := [(3, .int 0), (0, .ref a0), (1, .ref a1), (2, .int a2)]) hx hb dX11_lay_1 rfl hl (by decide) rfl (fun ls hl => ?_)
  have J_2 : ∀ n : Nat, ∀ (j2_3 : Int32) (ij2_3 : Iv j2_3 0 334), (334 - j2_3.toInt).toNat < n → ∀ (σ_2 : oSt) (H : Heap) (locs : List Loc), oI A L τ cy D s.heap σ_2 H locs → oFr τ fs_X11_layN ts_X11_layN σ σ_2 → ∀ (ls : Array Slot), lv_has ls 4 [(0, .ref a0), (1, .ref a1), (2, .int a2), (3, .int j2_3)] → W p l e ({ frames := 0, cells := 0, slots := 0, locals := 0 } : Room) s m args below meth c H locs 0 0 Q (F0 m 2 ls []) := by
    intro n
    induction n with
    | zero => intro j2_3 ij2_3 hn_2  σ_2 H locs hw fr   ls hl; exact absurd hn_2 (Nat.not_lt_zero _)
    | succ n ih_2 =>
      intro j2_3 ij2_3 hn_2  σ_2 H locs hw fr   ls hl
      refine lv_iload_n hx hb dX11_lay_2 rfl (lv_at hl 3 rfl) ?_
      refine lv_sipush (v := 334) hx hb dX11_lay_3 (by decide) ?_
      refine lv_icmp_ge (tgt := 23) hx hb dX11_lay_6 (by decide) (fun c1 => ?_) (fun c1 => ?_)
      · --
        have i2 : Iv j2_3 334 334 := iv_le2 c1 (⟨by decide, by decide⟩ : Iv 334 334 334) ij2_3 (by decide)
        rw [← hQ]
        exact o_rv cx rx hw dX11_lay_23 fr
      · --
        have i3 : Iv j2_3 0 333 := iv_lt1 (iv_nle c1) ij2_3 (⟨by decide, by decide⟩ : Iv 334 334 334) (by decide)
        refine lv_aload_n hx hb dX11_lay_9 rfl (lv_at hl 1 rfl) ?_
        refine lv_iload_n hx hb dX11_lay_10 rfl (lv_at hl 2 rfl) ?_
        refine lv_iload_n hx hb dX11_lay_11 rfl (lv_at hl 3 rfl) ?_
        refine lv_iadd hx hb dX11_lay_12 ?_
        refine lv_topi (fun v4 e4 => ?_)
        have i4 : Iv v4 0 333 := iv_add e4 ia2 i3 (by decide)
        refine lv_aload_n hx hb dX11_lay_13 rfl (lv_at hl 0 rfl) ?_
        refine lv_iload_n hx hb dX11_lay_14 rfl (lv_at hl 3 rfl) ?_
        refine o_iald cx hw ha0 (by decide) rfl (iv_in i3 (by decide)) dX11_lay_15 (fun v5 e5 b5 => ?_)
        refine o_iast cx hw ha1 (by decide) rfl (iv_in i4 (by decide)) (rb_nn i4 i3 (by decide) b5 (by have q := ex_add e4 ia2 i3 (by decide); have q2 := ia2.1; have q3 := ia2.2; omega)) dX11_lay_16 (fun σ6 H locs eσ6 hw => ?_)
        have fr := oFr_p fr eσ6 ha1 (by decide)
        obtain ⟨v7, e7⟩ : ∃ y : Int32, y = j2_3 + 1 := ⟨_, rfl⟩
        have i7 : Iv v7 1 334 := iv_add e7 i3 (⟨by decide, by decide⟩ : Iv 1 1 1) (by decide)
        have x7 : v7.toInt = j2_3.toInt + 1 := ex_add e7 i3 (⟨by decide, by decide⟩ : Iv 1 1 1) (by decide)
        refine lv_iinc (v := v7) (lv' := [(3, .int v7), (0, .ref a0), (1, .ref a1), (2, .int a2)]) hx hb dX11_lay_17 hl (k := 3) rfl (by rw [e7]; rfl) (by decide) rfl (fun ls hl => ?_)
        refine lv_goto (tgt := 2) hx hb dX11_lay_20 (by decide) ?_
        exact ih_2 v7 (iv_w i7 (by decide)) (ms_up x7 (by decide) (iv_w (a' := 0) (b' := 334) i7 (by decide)).2 hn_2) σ6 _ _ hw fr _ (lv_sub hl [1, 2, 3, 0] rfl)
  exact J_2 _ 0 (iv_w (⟨by decide, by decide⟩ : Iv 0 0 0) (by decide)) (Nat.lt_succ_self _) σ _ _ hw fr _ (lv_sub hl [1, 2, 3, 0] rfl)
abbrev fs_X11_layU : List Nat := []
abbrev ts_X11_layU : List Nat := [56]
set_option maxHeartbeats 4000000 in
set_option maxRecDepth 100000 in
theorem c_X11_layU (a0 : Nat) (ha0 : oA L τ a0 48) (a1 : Nat) (ha1 : oA L τ a1 56) (a2 : Int32) (ia2 : Iv a2 0 3006) (hk : a2.toInt % 334 = 0) : oMet l A L τ cy D K yX11_lay cX11_lay 4 none 0 0 [.ref a0, .ref a1, .int a2] σ (va_Qv (fun σ1 => oFr τ fs_X11_layU ts_X11_layU σ σ1) (oPo A L τ cy D) A) := by
  refine oMk (by decide) (Nat.le_of_ble_eq_true rfl) rfl ?_
  intro p e s m args below meth c ls cx rx hA hw hl
  generalize hQ : MQ below _ args s 0 0 A = Q
  have hx := cx.1.1
  have hb := cx.1.2.1
  have hml := cx.1.2.2.1
  have hown := cx.1.2.2.2.1
  have hts := cx.1.2.2.2.2
  have hl : lv_has ls 4 [(0, .ref a0), (1, .ref a1), (2, .int a2)] := hl
  have fr : oFr τ fs_X11_layU ts_X11_layU σ σ := oFr_rf
  refine lv_iconst (v := 0) hx hb dX11_lay_0 (by decide) ?_
  refine lv_istore_n (lv' := [(3, .int 0), (0, .ref a0), (1, .ref a1), (2, .int a2)]) hx hb dX11_lay_1 rfl hl (by decide) rfl (fun ls hl => ?_)
  have J_2 : ∀ n : Nat, ∀ (j2_3 : Int32) (ij2_3 : Iv j2_3 0 334), (334 - j2_3.toInt).toNat < n → ∀ (σ_2 : oSt) (H : Heap) (locs : List Loc), oI A L τ cy D s.heap σ_2 H locs → oFr τ fs_X11_layU ts_X11_layU σ σ_2 → ∀ (ls : Array Slot), lv_has ls 4 [(0, .ref a0), (1, .ref a1), (2, .int a2), (3, .int j2_3)] → W p l e ({ frames := 0, cells := 0, slots := 0, locals := 0 } : Room) s m args below meth c H locs 0 0 Q (F0 m 2 ls []) := by
    intro n
    induction n with
    | zero => intro j2_3 ij2_3 hn_2  σ_2 H locs hw fr   ls hl; exact absurd hn_2 (Nat.not_lt_zero _)
    | succ n ih_2 =>
      intro j2_3 ij2_3 hn_2  σ_2 H locs hw fr   ls hl
      refine lv_iload_n hx hb dX11_lay_2 rfl (lv_at hl 3 rfl) ?_
      refine lv_sipush (v := 334) hx hb dX11_lay_3 (by decide) ?_
      refine lv_icmp_ge (tgt := 23) hx hb dX11_lay_6 (by decide) (fun c1 => ?_) (fun c1 => ?_)
      · --
        have i2 : Iv j2_3 334 334 := iv_le2 c1 (⟨by decide, by decide⟩ : Iv 334 334 334) ij2_3 (by decide)
        rw [← hQ]
        exact o_rv cx rx hw dX11_lay_23 fr
      · --
        have i3 : Iv j2_3 0 333 := iv_lt1 (iv_nle c1) ij2_3 (⟨by decide, by decide⟩ : Iv 334 334 334) (by decide)
        refine lv_aload_n hx hb dX11_lay_9 rfl (lv_at hl 1 rfl) ?_
        refine lv_iload_n hx hb dX11_lay_10 rfl (lv_at hl 2 rfl) ?_
        refine lv_iload_n hx hb dX11_lay_11 rfl (lv_at hl 3 rfl) ?_
        refine lv_iadd hx hb dX11_lay_12 ?_
        refine lv_topi (fun v4 e4 => ?_)
        have i4 : Iv v4 0 3339 := iv_add e4 ia2 i3 (by decide)
        refine lv_aload_n hx hb dX11_lay_13 rfl (lv_at hl 0 rfl) ?_
        refine lv_iload_n hx hb dX11_lay_14 rfl (lv_at hl 3 rfl) ?_
        refine o_iald cx hw ha0 (by decide) rfl (iv_in i3 (by decide)) dX11_lay_15 (fun v5 e5 b5 => ?_)
        refine o_iast cx hw ha1 (by decide) rfl (iv_in i4 (by decide)) (rb_pc i4 i3 (by decide) b5 (by have q := ex_add e4 ia2 i3 (by decide); have q2 := (i3).1; have q3 := (i3).2; omega)) dX11_lay_16 (fun σ6 H locs eσ6 hw => ?_)
        have fr := oFr_p fr eσ6 ha1 (by decide)
        obtain ⟨v7, e7⟩ : ∃ y : Int32, y = j2_3 + 1 := ⟨_, rfl⟩
        have i7 : Iv v7 1 334 := iv_add e7 i3 (⟨by decide, by decide⟩ : Iv 1 1 1) (by decide)
        have x7 : v7.toInt = j2_3.toInt + 1 := ex_add e7 i3 (⟨by decide, by decide⟩ : Iv 1 1 1) (by decide)
        refine lv_iinc (v := v7) (lv' := [(3, .int v7), (0, .ref a0), (1, .ref a1), (2, .int a2)]) hx hb dX11_lay_17 hl (k := 3) rfl (by rw [e7]; rfl) (by decide) rfl (fun ls hl => ?_)
        refine lv_goto (tgt := 2) hx hb dX11_lay_20 (by decide) ?_
        exact ih_2 v7 (iv_w i7 (by decide)) (ms_up x7 (by decide) (iv_w (a' := 0) (b' := 334) i7 (by decide)).2 hn_2) σ6 _ _ hw fr _ (lv_sub hl [1, 2, 3, 0] rfl)
  exact J_2 _ 0 (iv_w (⟨by decide, by decide⟩ : Iv 0 0 0) (by decide)) (Nat.lt_succ_self _) σ _ _ hw fr _ (lv_sub hl [1, 2, 3, 0] rfl)
abbrev fs_X11_layK : List Nat := []
abbrev ts_X11_layK : List Nat := [59]
set_option maxHeartbeats 4000000 in
set_option maxRecDepth 100000 in
theorem c_X11_layK (a0 : Nat) (ha0 : oA L τ a0 48) (a1 : Nat) (ha1 : oA L τ a1 59) (a2 : Int32) (ia2 : Iv a2 0 334) (hk : a2.toInt % 334 = 0) : oMet l A L τ cy D K yX11_lay cX11_lay 4 none 0 0 [.ref a0, .ref a1, .int a2] σ (va_Qv (fun σ1 => oFr τ fs_X11_layK ts_X11_layK σ σ1) (oPo A L τ cy D) A) := by
  refine oMk (by decide) (Nat.le_of_ble_eq_true rfl) rfl ?_
  intro p e s m args below meth c ls cx rx hA hw hl
  generalize hQ : MQ below _ args s 0 0 A = Q
  have hx := cx.1.1
  have hb := cx.1.2.1
  have hml := cx.1.2.2.1
  have hown := cx.1.2.2.2.1
  have hts := cx.1.2.2.2.2
  have hl : lv_has ls 4 [(0, .ref a0), (1, .ref a1), (2, .int a2)] := hl
  have fr : oFr τ fs_X11_layK ts_X11_layK σ σ := oFr_rf
  refine lv_iconst (v := 0) hx hb dX11_lay_0 (by decide) ?_
  refine lv_istore_n (lv' := [(3, .int 0), (0, .ref a0), (1, .ref a1), (2, .int a2)]) hx hb dX11_lay_1 rfl hl (by decide) rfl (fun ls hl => ?_)
  have J_2 : ∀ n : Nat, ∀ (j2_3 : Int32) (ij2_3 : Iv j2_3 0 334), (334 - j2_3.toInt).toNat < n → ∀ (σ_2 : oSt) (H : Heap) (locs : List Loc), oI A L τ cy D s.heap σ_2 H locs → oFr τ fs_X11_layK ts_X11_layK σ σ_2 → ∀ (ls : Array Slot), lv_has ls 4 [(0, .ref a0), (1, .ref a1), (2, .int a2), (3, .int j2_3)] → W p l e ({ frames := 0, cells := 0, slots := 0, locals := 0 } : Room) s m args below meth c H locs 0 0 Q (F0 m 2 ls []) := by
    intro n
    induction n with
    | zero => intro j2_3 ij2_3 hn_2  σ_2 H locs hw fr   ls hl; exact absurd hn_2 (Nat.not_lt_zero _)
    | succ n ih_2 =>
      intro j2_3 ij2_3 hn_2  σ_2 H locs hw fr   ls hl
      refine lv_iload_n hx hb dX11_lay_2 rfl (lv_at hl 3 rfl) ?_
      refine lv_sipush (v := 334) hx hb dX11_lay_3 (by decide) ?_
      refine lv_icmp_ge (tgt := 23) hx hb dX11_lay_6 (by decide) (fun c1 => ?_) (fun c1 => ?_)
      · --
        have i2 : Iv j2_3 334 334 := iv_le2 c1 (⟨by decide, by decide⟩ : Iv 334 334 334) ij2_3 (by decide)
        rw [← hQ]
        exact o_rv cx rx hw dX11_lay_23 fr
      · --
        have i3 : Iv j2_3 0 333 := iv_lt1 (iv_nle c1) ij2_3 (⟨by decide, by decide⟩ : Iv 334 334 334) (by decide)
        refine lv_aload_n hx hb dX11_lay_9 rfl (lv_at hl 1 rfl) ?_
        refine lv_iload_n hx hb dX11_lay_10 rfl (lv_at hl 2 rfl) ?_
        refine lv_iload_n hx hb dX11_lay_11 rfl (lv_at hl 3 rfl) ?_
        refine lv_iadd hx hb dX11_lay_12 ?_
        refine lv_topi (fun v4 e4 => ?_)
        have i4 : Iv v4 0 667 := iv_add e4 ia2 i3 (by decide)
        refine lv_aload_n hx hb dX11_lay_13 rfl (lv_at hl 0 rfl) ?_
        refine lv_iload_n hx hb dX11_lay_14 rfl (lv_at hl 3 rfl) ?_
        refine o_iald cx hw ha0 (by decide) rfl (iv_in i3 (by decide)) dX11_lay_15 (fun v5 e5 b5 => ?_)
        refine o_iast cx hw ha1 (by decide) rfl (iv_in i4 (by decide)) (rb_pc i4 i3 (by decide) b5 (by have q := ex_add e4 ia2 i3 (by decide); have q2 := (i3).1; have q3 := (i3).2; omega)) dX11_lay_16 (fun σ6 H locs eσ6 hw => ?_)
        have fr := oFr_p fr eσ6 ha1 (by decide)
        obtain ⟨v7, e7⟩ : ∃ y : Int32, y = j2_3 + 1 := ⟨_, rfl⟩
        have i7 : Iv v7 1 334 := iv_add e7 i3 (⟨by decide, by decide⟩ : Iv 1 1 1) (by decide)
        have x7 : v7.toInt = j2_3.toInt + 1 := ex_add e7 i3 (⟨by decide, by decide⟩ : Iv 1 1 1) (by decide)
        refine lv_iinc (v := v7) (lv' := [(3, .int v7), (0, .ref a0), (1, .ref a1), (2, .int a2)]) hx hb dX11_lay_17 hl (k := 3) rfl (by rw [e7]; rfl) (by decide) rfl (fun ls hl => ?_)
        refine lv_goto (tgt := 2) hx hb dX11_lay_20 (by decide) ?_
        exact ih_2 v7 (iv_w i7 (by decide)) (ms_up x7 (by decide) (iv_w (a' := 0) (b' := 334) i7 (by decide)).2 hn_2) σ6 _ _ hw fr _ (lv_sub hl [1, 2, 3, 0] rfl)
  exact J_2 _ 0 (iv_w (⟨by decide, by decide⟩ : Iv 0 0 0) (by decide)) (Nat.lt_succ_self _) σ _ _ hw fr _ (lv_sub hl [1, 2, 3, 0] rfl)
abbrev fs_X11_remember : List Nat := [672]
abbrev ts_X11_remember : List Nat := [56]
set_option maxHeartbeats 4000000 in
set_option maxRecDepth 100000 in
theorem c_X11_remember (a0 : Nat) (ha0 : oA L τ a0 10) (a1 : Nat) (ha1 : oA L τ a1 48) : oMet l A L τ cy D K yX11_remember cX11_remember 3 none 1 23 [.ref a0, .ref a1] σ (va_Qv (fun σ1 => oFr τ fs_X11_remember ts_X11_remember σ σ1) (oPo A L τ cy D) A) := by
  refine oMk (by decide) (Nat.le_of_ble_eq_true rfl) rfl ?_
  intro p e s m args below meth c ls cx rx hA hw hl
  generalize hQ : MQ below _ args s 0 0 A = Q
  have hx := cx.1.1
  have hb := cx.1.2.1
  have hml := cx.1.2.2.1
  have hown := cx.1.2.2.2.1
  have hts := cx.1.2.2.2.2
  have hl : lv_has ls 3 [(0, .ref a0), (1, .ref a1)] := hl
  have fr : oFr τ fs_X11_remember ts_X11_remember σ σ := oFr_rf
  refine lv_aload_n hx hb dX11_remember_0 rfl (lv_at hl 0 rfl) ?_
  refine g_672 cx hw ha0 k_f_X11_168 dX11_remember_1 (fun v1 e1 i1 => ?_)
  refine lv_bipush (v := 10) hx hb dX11_remember_4 (by decide) ?_
  have J_50 : ∀ (σ_50 : oSt) (H : Heap) (locs : List Loc), oI A L τ cy D s.heap σ_50 H locs → oFr τ fs_X11_remember ts_X11_remember σ σ_50 → Iv (σ_50.1 672 a0) 0 9 → ∀ (ls : Array Slot), lv_has ls 3 [(0, .ref a0), (1, .ref a1)] → W p l e ({ frames := 1, cells := 0, slots := 0, locals := 23 } : Room) s m args below meth c H locs 0 0 Q (F0 m 50 ls []) := by
    intro    σ_50 H locs hw fr f50_672_a0  ls hl
    refine lv_aload_n hx hb dX11_remember_50 rfl (lv_at hl 1 rfl) ?_
    refine lv_aload_n hx hb dX11_remember_51 rfl (lv_at hl 0 rfl) ?_
    refine g_671 cx hw ha0 k_f_X11_55 dX11_remember_52 (fun v2 e2 h2 => ?_)
    refine lv_sipush (v := 334) hx hb dX11_remember_55 (by decide) ?_
    refine lv_aload_n hx hb dX11_remember_58 rfl (lv_at hl 0 rfl) ?_
    refine g_672 cx hw ha0 k_f_X11_168 dX11_remember_59 (fun v3 e3 i3 => ?_)
    rw [show v3 = (σ_50.1 672 a0) from e3.trans rfl]
    refine lv_imul hx hb dX11_remember_62 ?_
    refine lv_topi (fun v4 e4 => ?_)
    have i4 : Iv v4 0 3006 := iv_mul e4 (⟨by decide, by decide⟩ : Iv 334 334 334) f50_672_a0 (by decide)
    refine o_cv hw (oRunS cx hA hw q_X11_lay k_m_X11_251 (As := [.ref a1, .ref v2, .int v4]) (c_X11_layU a1 ha1 v2 h2 v4 (iv_w i4 (by decide)) (by have q2 := ex_mul e4 (⟨by decide, by decide⟩ : Iv 334 334 334) f50_672_a0 (by decide); have q3 : (334 : Int32).toInt = 334 := (by decide); rw [q3] at q2; omega)) (by decide) rfl hl.1 rfl (Nat.le_of_ble_eq_true rfl) dX11_remember_63 (by decide)) (fun σ5 H locs hp hw => ?_)
    have p6_0 := hp
    have fr := oFr_tr fr p6_0 (by decide)
    refine lv_aload_n hx hb dX11_remember_66 rfl (lv_at hl 0 rfl) ?_
    refine lv_dup hx hb dX11_remember_67 rfl ?_
    refine g_672 cx hw ha0 k_f_X11_168 dX11_remember_68 (fun v7 e7 i7 => ?_)
    rw [show v7 = (σ_50.1 672 a0) from e7.trans ((kp_c p6_0 (by decide)).trans rfl)]
    refine lv_iconst (v := 1) hx hb dX11_remember_71 (by decide) ?_
    refine lv_iadd hx hb dX11_remember_72 ?_
    refine lv_topi (fun v8 e8 => ?_)
    have i8 : Iv v8 1 10 := iv_add e8 f50_672_a0 (⟨by decide, by decide⟩ : Iv 1 1 1) (by decide)
    have x8 : v8.toInt = (σ_50.1 672 a0).toInt + 1 := ex_add e8 f50_672_a0 (⟨by decide, by decide⟩ : Iv 1 1 1) (by decide)
    refine p_672 cx hw ha0 (iv_w i8 (by decide)) k_f_X11_168 dX11_remember_73 (fun σ9 H locs eσ9 hw => ?_)
    have fr := oFr_i fr eσ9 (by decide)
    rw [← hQ]
    exact o_rv cx rx hw dX11_remember_76 fr
  refine lv_icmp_ne (tgt := 50) hx hb dX11_remember_6 (by decide) (fun c10 => ?_) (fun c10 => ?_)
  · --
    have i11 : Iv v1 0 9 := iv_ne2 c10 i1 (⟨by decide, by decide⟩ : Iv 10 10 10) (by decide)
    exact J_50 σ _ _ hw fr (kn_iv (e1.symm) (iv_w i11 (by decide))) _ (lv_sub hl [0, 1] rfl)
  · --
    have i12 : Iv v1 10 10 := iv_eq1 c10 i1 (⟨by decide, by decide⟩ : Iv 10 10 10) (by decide)
    refine lv_iconst (v := 0) hx hb dX11_remember_9 (by decide) ?_
    refine lv_istore_n (lv' := [(2, .int 0), (0, .ref a0), (1, .ref a1)]) hx hb dX11_remember_10 rfl hl (by decide) rfl (fun ls hl => ?_)
    have J_11 : ∀ n : Nat, ∀ (j11_2 : Int32) (ij11_2 : Iv j11_2 0 3006), (3006 - j11_2.toInt).toNat < n → ∀ (σ_11 : oSt) (H : Heap) (locs : List Loc), oI A L τ cy D s.heap σ_11 H locs → oFr τ fs_X11_remember ts_X11_remember σ σ_11 → Iv (σ_11.1 672 a0) 10 10 → ∀ (ls : Array Slot), lv_has ls 3 [(0, .ref a0), (1, .ref a1), (2, .int j11_2)] → W p l e ({ frames := 1, cells := 0, slots := 0, locals := 23 } : Room) s m args below meth c H locs 0 0 Q (F0 m 11 ls []) := by
      intro n
      induction n with
      | zero => intro j11_2 ij11_2 hn_11  σ_11 H locs hw fr f11_672_a0  ls hl; exact absurd hn_11 (Nat.not_lt_zero _)
      | succ n ih_11 =>
        intro j11_2 ij11_2 hn_11  σ_11 H locs hw fr f11_672_a0  ls hl
        refine lv_iload_n hx hb dX11_remember_11 rfl (lv_at hl 2 rfl) ?_
        refine lv_sipush (v := 3006) hx hb dX11_remember_12 (by decide) ?_
        refine lv_icmp_ge (tgt := 40) hx hb dX11_remember_15 (by decide) (fun c13 => ?_) (fun c13 => ?_)
        · --
          have i14 : Iv j11_2 3006 3006 := iv_le2 c13 (⟨by decide, by decide⟩ : Iv 3006 3006 3006) ij11_2 (by decide)
          refine lv_aload_n hx hb dX11_remember_40 rfl (lv_at hl 0 rfl) ?_
          refine lv_dup hx hb dX11_remember_41 rfl ?_
          refine g_672 cx hw ha0 k_f_X11_168 dX11_remember_42 (fun v15 e15 i15 => ?_)
          rw [show v15 = (σ_11.1 672 a0) from e15.trans rfl]
          refine lv_iconst (v := 1) hx hb dX11_remember_45 (by decide) ?_
          refine lv_isub hx hb dX11_remember_46 ?_
          refine lv_topi (fun v16 e16 => ?_)
          have i16 : Iv v16 9 9 := iv_sub e16 f11_672_a0 (⟨by decide, by decide⟩ : Iv 1 1 1) (by decide)
          have x16 : v16.toInt = (σ_11.1 672 a0).toInt + (-1) := ex_sub e16 f11_672_a0 (⟨by decide, by decide⟩ : Iv 1 1 1) (by decide)
          refine p_672 cx hw ha0 (iv_w i16 (by decide)) k_f_X11_168 dX11_remember_47 (fun σ17 H locs eσ17 hw => ?_)
          have fr := oFr_i fr eσ17 (by decide)
          exact J_50 σ17 _ _ hw fr (kn_iv ((kp_s eσ17)) (iv_w i16 (by decide))) _ (lv_sub hl [0, 1] rfl)
        · --
          have i18 : Iv j11_2 0 3005 := iv_lt1 (iv_nle c13) ij11_2 (⟨by decide, by decide⟩ : Iv 3006 3006 3006) (by decide)
          refine lv_aload_n hx hb dX11_remember_18 rfl (lv_at hl 0 rfl) ?_
          refine g_671 cx hw ha0 k_f_X11_55 dX11_remember_19 (fun v19 e19 h19 => ?_)
          refine lv_iload_n hx hb dX11_remember_22 rfl (lv_at hl 2 rfl) ?_
          refine lv_aload_n hx hb dX11_remember_23 rfl (lv_at hl 0 rfl) ?_
          refine g_671 cx hw ha0 k_f_X11_55 dX11_remember_24 (fun v20 e20 h20 => ?_)
          rw [show v20 = v19 from Option.some.inj (e20.symm.trans (e19))]
          refine lv_iload_n hx hb dX11_remember_27 rfl (lv_at hl 2 rfl) ?_
          refine lv_sipush (v := 334) hx hb dX11_remember_28 (by decide) ?_
          refine lv_iadd hx hb dX11_remember_31 ?_
          refine lv_topi (fun v21 e21 => ?_)
          have i21 : Iv v21 334 3339 := iv_add e21 i18 (⟨by decide, by decide⟩ : Iv 334 334 334) (by decide)
          have x21 : v21.toInt = j11_2.toInt + 334 := ex_add e21 i18 (⟨by decide, by decide⟩ : Iv 334 334 334) (by decide)
          refine o_iald cx hw h19 (by decide) rfl (iv_in i21 (by decide)) dX11_remember_32 (fun v22 e22 b22 => ?_)
          refine o_iast cx hw h19 (by decide) rfl (iv_in i18 (by decide)) (rb_pp i18 i21 (by decide) b22 (by rw [x21]; omega)) dX11_remember_33 (fun σ23 H locs eσ23 hw => ?_)
          have fr := oFr_p fr eσ23 h19 (by decide)
          obtain ⟨v24, e24⟩ : ∃ y : Int32, y = j11_2 + 1 := ⟨_, rfl⟩
          have i24 : Iv v24 1 3006 := iv_add e24 i18 (⟨by decide, by decide⟩ : Iv 1 1 1) (by decide)
          have x24 : v24.toInt = j11_2.toInt + 1 := ex_add e24 i18 (⟨by decide, by decide⟩ : Iv 1 1 1) (by decide)
          refine lv_iinc (v := v24) (lv' := [(2, .int v24), (0, .ref a0), (1, .ref a1)]) hx hb dX11_remember_34 hl (k := 2) rfl (by rw [e24]; rfl) (by decide) rfl (fun ls hl => ?_)
          refine lv_goto (tgt := 11) hx hb dX11_remember_37 (by decide) ?_
          exact ih_11 v24 (iv_w i24 (by decide)) (ms_up x24 (by decide) (iv_w (a' := 0) (b' := 3006) i24 (by decide)).2 hn_11) σ23 _ _ hw fr (kn_iv (((kp_p eσ23).trans rfl)) (iv_w f11_672_a0 (by decide))) _ (lv_sub hl [1, 2, 0] rfl)
    exact J_11 _ 0 (iv_w (⟨by decide, by decide⟩ : Iv 0 0 0) (by decide)) (Nat.lt_succ_self _) σ _ _ hw fr (kn_iv (e1.symm) (iv_w i12 (by decide))) _ (lv_sub hl [1, 2, 0] rfl)
set_option maxHeartbeats 4000000 in
set_option maxRecDepth 100000 in
theorem c_X11_refusesLay (a0 : Nat) (ha0 : oA L τ a0 10) (a1 : Int32) (a2 : Int32) : oMet l A L τ cy D K yX11_refusesLay cX11_refusesLay 3 (some .int) 2 43 [.ref a0, .int a1, .int a2] σ (va_Qi (fun r σ1 => σ1 = σ ∧ Iv r (-2) 0 ∧ (0 ≤ r → Iv a1 0 63)) (oPo A L τ cy D) A) := by
  refine oMk (by decide) (Nat.le_of_ble_eq_true rfl) rfl ?_
  intro p e s m args below meth c ls cx rx hA hw hl
  generalize hQ : MQ below _ args s 0 0 A = Q
  have hx := cx.1.1
  have hb := cx.1.2.1
  have hml := cx.1.2.2.1
  have hown := cx.1.2.2.2.1
  have hts := cx.1.2.2.2.2
  have hl : lv_has ls 3 [(0, .ref a0), (1, .int a1), (2, .int a2)] := hl
  refine lv_aload_n hx hb dX11_refusesLay_0 rfl (lv_at hl 0 rfl) ?_
  refine lv_iload_n hx hb dX11_refusesLay_1 rfl (lv_at hl 1 rfl) ?_
  refine o_ci hw (oRunV cx hA hw q_X11_isCell k_m_X11_157 rfl ha0 (by decide) (As := [.int a1]) (c_X11_isCell a0 ha0 a1) (by decide) rfl hl.1 rfl (Nat.le_of_ble_eq_true rfl) dX11_refusesLay_2 (by decide)) (fun v2 σ1 H locs hp hw => ?_)
  obtain ⟨p2_0, p2_1, p2_2⟩ := hp
  rw [p2_0] at hw
  refine lv_if_eq (tgt := 18) hx hb dX11_refusesLay_5 (by decide) (fun c3 => ?_) (fun c3 => ?_)
  · --
    have i4 : Iv v2 0 0 := iv_eq1 c3 p2_1 (⟨by decide, by decide⟩ : Iv 0 0 0) (by decide)
    refine lv_iconst (v := (-1)) hx hb dX11_refusesLay_18 (by decide) ?_
    rw [← hQ]
    exact o_ri cx rx hw dX11_refusesLay_19 ⟨rfl, (iv_w (⟨by decide, by decide⟩ : Iv (-1) (-1) (-1)) (by decide)), (fun h => iv_no (iv_le1 (b' := -1) h (⟨by decide, by decide⟩ : Iv 0 0 0) (⟨by decide, by decide⟩ : Iv (-1) (-1) (-1)) (by decide)) (by decide))⟩
  · --
    have i5 : Iv v2 1 1 := iv_ne1 c3 p2_1 (⟨by decide, by decide⟩ : Iv 0 0 0) (by decide)
    have i6 : Iv a1 0 63 := p2_2 c3
    refine lv_iload_n hx hb dX11_refusesLay_8 rfl (lv_at hl 2 rfl) ?_
    refine lv_iconst (v := 0) hx hb dX11_refusesLay_9 (by decide) ?_
    refine lv_bipush (v := 9) hx hb dX11_refusesLay_10 (by decide) ?_
    refine o_ci hw (oRunS cx hA hw q_X11_in k_m_X11_95 (As := [.int a2, .int 0, .int 9]) (c_X11_in a2 0 9) (by decide) rfl hl.1 rfl (Nat.le_of_ble_eq_true rfl) dX11_refusesLay_12 (by decide)) (fun v8 σ7 H locs hp hw => ?_)
    obtain ⟨p8_0, p8_1, p8_2⟩ := hp
    rw [p8_0] at hw
    refine lv_if_ne (tgt := 20) hx hb dX11_refusesLay_15 (by decide) (fun c9 => ?_) (fun c9 => ?_)
    · --
      have i10 : Iv v8 1 1 := iv_ne1 c9 p8_1 (⟨by decide, by decide⟩ : Iv 0 0 0) (by decide)
      have i11 : Iv a2 0 9 := (fun h => iv_rel (p8_2 h) (⟨by decide, by decide⟩ : Iv 0 0 0) (⟨by decide, by decide⟩ : Iv 9 9 9)) c9
      refine lv_aload_n hx hb dX11_refusesLay_20 rfl (lv_at hl 0 rfl) ?_
      refine g_643 cx hw ha0 k_f_X11_13 dX11_refusesLay_21 (fun v12 e12 h12 => ?_)
      refine lv_iload_n hx hb dX11_refusesLay_24 rfl (lv_at hl 1 rfl) ?_
      refine o_iald cx hw h12 (by decide) rfl (iv_in i6 (by decide)) dX11_refusesLay_25 (fun v13 e13 b13 => ?_)
      refine lv_if_ne (tgt := 33) hx hb dX11_refusesLay_26 (by decide) (fun c14 => ?_) (fun c14 => ?_)
      · --
        refine lv_bipush (v := (-2)) hx hb dX11_refusesLay_33 (by decide) ?_
        rw [← hQ]
        exact o_ri cx rx hw dX11_refusesLay_35 ⟨rfl, (iv_w (⟨by decide, by decide⟩ : Iv (-2) (-2) (-2)) (by decide)), (fun h => iv_no (iv_le1 (b' := -1) h (⟨by decide, by decide⟩ : Iv 0 0 0) (⟨by decide, by decide⟩ : Iv (-2) (-2) (-2)) (by decide)) (by decide))⟩
      · --
        have i15 : Iv v13 0 0 := iv_eq1 c14 (iv_top v13) (⟨by decide, by decide⟩ : Iv 0 0 0) (by decide)
        refine lv_iconst (v := 0) hx hb dX11_refusesLay_29 (by decide) ?_
        refine lv_goto (tgt := 35) hx hb dX11_refusesLay_30 (by decide) ?_
        rw [← hQ]
        exact o_ri cx rx hw dX11_refusesLay_35 ⟨rfl, (iv_w (⟨by decide, by decide⟩ : Iv 0 0 0) (by decide)), (fun _ => iv_w i6 (by decide))⟩
    · --
      have i16 : Iv v8 0 0 := iv_eq1 c9 p8_1 (⟨by decide, by decide⟩ : Iv 0 0 0) (by decide)
      refine lv_iconst (v := (-1)) hx hb dX11_refusesLay_18 (by decide) ?_
      rw [← hQ]
      exact o_ri cx rx hw dX11_refusesLay_19 ⟨rfl, (iv_w (⟨by decide, by decide⟩ : Iv (-1) (-1) (-1)) (by decide)), (fun h => iv_no (iv_le1 (b' := -1) h (⟨by decide, by decide⟩ : Iv 0 0 0) (⟨by decide, by decide⟩ : Iv (-1) (-1) (-1)) (by decide)) (by decide))⟩
abbrev fs_X11_layOn : List Nat := [672]
abbrev ts_X11_layOn : List Nat := [48, 56]
set_option maxHeartbeats 4000000 in
set_option maxRecDepth 100000 in
theorem c_X11_layOn (a0 : Nat) (ha0 : oA L τ a0 10) (a1 : Int32) (ia1 : Iv a1 64 128) (a2 : Int32) (a3 : Int32) : oMet l A L τ cy D K yX11_layOn cX11_layOn 6 (some .int) 3 65 [.ref a0, .int a1, .int a2, .int a3] σ (va_Qi (fun r σ1 => oFr τ fs_X11_layOn ts_X11_layOn σ σ1) (oPo A L τ cy D) A) := by
  refine oMk (by decide) (Nat.le_of_ble_eq_true rfl) rfl ?_
  intro p e s m args below meth c ls cx rx hA hw hl
  generalize hQ : MQ below _ args s 0 0 A = Q
  have hx := cx.1.1
  have hb := cx.1.2.1
  have hml := cx.1.2.2.1
  have hown := cx.1.2.2.2.1
  have hts := cx.1.2.2.2.2
  have hl : lv_has ls 6 [(0, .ref a0), (1, .int a1), (2, .int a2), (3, .int a3)] := hl
  have fr : oFr τ fs_X11_layOn ts_X11_layOn σ σ := oFr_rf
  refine lv_aload_n hx hb dX11_layOn_0 rfl (lv_at hl 0 rfl) ?_
  refine lv_iload_n hx hb dX11_layOn_1 rfl (lv_at hl 2 rfl) ?_
  refine lv_iload_n hx hb dX11_layOn_2 rfl (lv_at hl 3 rfl) ?_
  refine o_ci hw (oRunV cx hA hw q_X11_refusesLay k_m_X11_255 rfl ha0 (by decide) (As := [.int a2, .int a3]) (c_X11_refusesLay a0 ha0 a2 a3) (by decide) rfl hl.1 rfl (Nat.le_of_ble_eq_true rfl) dX11_layOn_3 (by decide)) (fun v2 σ1 H locs hp hw => ?_)
  obtain ⟨p2_0, p2_1, p2_2⟩ := hp
  rw [p2_0] at hw
  refine lv_istore (lv' := [(4, .int v2), (0, .ref a0), (1, .int a1), (2, .int a2), (3, .int a3)]) hx hb dX11_layOn_6 hl (by decide) rfl (fun ls hl => ?_)
  refine lv_iload hx hb dX11_layOn_8 (lv_at hl 0 rfl) ?_
  refine lv_if_ge (tgt := 16) hx hb dX11_layOn_10 (by decide) (fun c3 => ?_) (fun c3 => ?_)
  · --
    have i4 : Iv a2 0 63 := p2_2 c3
    have i5 : Iv v2 0 0 := iv_le2 c3 (⟨by decide, by decide⟩ : Iv 0 0 0) p2_1 (by decide)
    refine lv_aload_n hx hb dX11_layOn_16 rfl (lv_at hl 1 rfl) ?_
    refine lv_aload_n hx hb dX11_layOn_17 rfl (lv_at hl 1 rfl) ?_
    refine g_640 cx hw ha0 k_f_X11_9 dX11_layOn_18 (fun v6 e6 h6 => ?_)
    refine o_cv hw (oRunV cx hA hw q_X11_remember k_m_X11_258 rfl ha0 (by decide) (As := [.ref v6]) (c_X11_remember a0 ha0 v6 h6) (by decide) rfl hl.1 rfl (Nat.le_of_ble_eq_true rfl) dX11_layOn_21 (by decide)) (fun σ7 H locs hp hw => ?_)
    have p8_0 := hp
    have fr := oFr_tr fr p8_0 (by decide)
    refine lv_aload_n hx hb dX11_layOn_24 rfl (lv_at hl 1 rfl) ?_
    refine g_640 cx hw ha0 k_f_X11_9 dX11_layOn_25 (fun v9 e9 h9 => ?_)
    rw [show v9 = v6 from Option.some.inj (e9.symm.trans (((kr_c p8_0 (by decide)).trans e6)))]
    refine lv_iload_n hx hb dX11_layOn_28 rfl (lv_at hl 2 rfl) ?_
    refine lv_iload_n hx hb dX11_layOn_29 rfl (lv_at hl 3 rfl) ?_
    refine lv_iadd hx hb dX11_layOn_30 ?_
    refine lv_topi (fun v10 e10 => ?_)
    have i10 : Iv v10 64 191 := iv_add e10 ia1 i4 (by decide)
    refine o_iald cx hw h6 (by decide) rfl (iv_in i10 (by decide)) dX11_layOn_31 (fun v11 e11 b11 => ?_)
    refine lv_istore (lv' := [(5, .int v11), (4, .int v2), (0, .ref a0), (1, .int a1), (2, .int a2), (3, .int a3)]) hx hb dX11_layOn_32 hl (by decide) rfl (fun ls hl => ?_)
    refine lv_aload_n hx hb dX11_layOn_34 rfl (lv_at hl 2 rfl) ?_
    refine g_640 cx hw ha0 k_f_X11_9 dX11_layOn_35 (fun v12 e12 h12 => ?_)
    rw [show v12 = v6 from Option.some.inj (e12.symm.trans (((kr_c p8_0 (by decide)).trans e6)))]
    refine lv_iload_n hx hb dX11_layOn_38 rfl (lv_at hl 3 rfl) ?_
    refine lv_iload_n hx hb dX11_layOn_39 rfl (lv_at hl 4 rfl) ?_
    refine lv_iadd hx hb dX11_layOn_40 ?_
    refine lv_topi (fun v13 e13 => ?_)
    have i13 : Iv v13 64 191 := iv_add e13 ia1 i4 (by decide)
    refine lv_iload_n hx hb dX11_layOn_41 rfl (lv_at hl 5 rfl) ?_
    refine o_iast cx hw h6 (by decide) rfl (iv_in i13 (by decide)) (rb_lo i13 (by decide)) dX11_layOn_42 (fun σ14 H locs eσ14 hw => ?_)
    have fr := oFr_p fr eσ14 h6 (by decide)
    refine lv_iload hx hb dX11_layOn_43 (lv_at hl 0 rfl) ?_
    rw [← hQ]
    exact o_ri cx rx hw dX11_layOn_45 fr
  · --
    have i15 : Iv v2 (-2) (-1) := iv_lt1 (iv_nle c3) p2_1 (⟨by decide, by decide⟩ : Iv 0 0 0) (by decide)
    refine lv_iload hx hb dX11_layOn_13 (lv_at hl 0 rfl) ?_
    rw [← hQ]
    exact o_ri cx rx hw dX11_layOn_15 fr
abbrev fs_X11_salt : List Nat := [658, 672]
abbrev ts_X11_salt : List Nat := [48, 56]
set_option maxHeartbeats 4000000 in
set_option maxRecDepth 100000 in
theorem c_X11_salt (a0 : Nat) (ha0 : oA L τ a0 10) (a1 : Int32) (a2 : Int32) : oMet l A L τ cy D K yX11_salt cX11_salt 3 (some .int) 4 90 [.ref a0, .int a1, .int a2] σ (va_Qi (fun r σ1 => oFr τ fs_X11_salt ts_X11_salt σ σ1) (oPo A L τ cy D) A) := by
  refine oMk (by decide) (Nat.le_of_ble_eq_true rfl) rfl ?_
  intro p e s m args below meth c ls cx rx hA hw hl
  generalize hQ : MQ below _ args s 0 0 A = Q
  have hx := cx.1.1
  have hb := cx.1.2.1
  have hml := cx.1.2.2.1
  have hown := cx.1.2.2.2.1
  have hts := cx.1.2.2.2.2
  have hl : lv_has ls 3 [(0, .ref a0), (1, .int a1), (2, .int a2)] := hl
  have fr : oFr τ fs_X11_salt ts_X11_salt σ σ := oFr_rf
  refine lv_aload_n hx hb dX11_salt_0 rfl (lv_at hl 0 rfl) ?_
  refine lv_iconst (v := 0) hx hb dX11_salt_1 (by decide) ?_
  refine p_658 cx hw ha0 k_f_X11_89 dX11_salt_2 (fun σ1 H locs eσ1 hw => ?_)
  have fr := oFr_i fr eσ1 (by decide)
  refine lv_aload_n hx hb dX11_salt_5 rfl (lv_at hl 0 rfl) ?_
  refine lv_bipush (v := 64) hx hb dX11_salt_6 (by decide) ?_
  refine lv_iload_n hx hb dX11_salt_8 rfl (lv_at hl 1 rfl) ?_
  refine lv_iload_n hx hb dX11_salt_9 rfl (lv_at hl 2 rfl) ?_
  refine o_ci hw (oRunV cx hA hw q_X11_layOn k_m_X11_262 rfl ha0 (by decide) (As := [.int 64, .int a1, .int a2]) (c_X11_layOn a0 ha0 64 (iv_w (⟨by decide, by decide⟩ : Iv 64 64 64) (by decide)) a1 a2) (by decide) rfl hl.1 rfl (Nat.le_of_ble_eq_true rfl) dX11_salt_10 (by decide)) (fun v3 σ2 H locs hp hw => ?_)
  have p3_0 := hp
  have fr := oFr_tr fr p3_0 (by decide)
  rw [← hQ]
  exact o_ri cx rx hw dX11_salt_13 fr
abbrev fs_X11_thistles : List Nat := [658, 672]
abbrev ts_X11_thistles : List Nat := [48, 56]
set_option maxHeartbeats 4000000 in
set_option maxRecDepth 100000 in
theorem c_X11_thistles (a0 : Nat) (ha0 : oA L τ a0 10) (a1 : Int32) (a2 : Int32) : oMet l A L τ cy D K yX11_thistles cX11_thistles 3 (some .int) 4 90 [.ref a0, .int a1, .int a2] σ (va_Qi (fun r σ1 => oFr τ fs_X11_thistles ts_X11_thistles σ σ1) (oPo A L τ cy D) A) := by
  refine oMk (by decide) (Nat.le_of_ble_eq_true rfl) rfl ?_
  intro p e s m args below meth c ls cx rx hA hw hl
  generalize hQ : MQ below _ args s 0 0 A = Q
  have hx := cx.1.1
  have hb := cx.1.2.1
  have hml := cx.1.2.2.1
  have hown := cx.1.2.2.2.1
  have hts := cx.1.2.2.2.2
  have hl : lv_has ls 3 [(0, .ref a0), (1, .int a1), (2, .int a2)] := hl
  have fr : oFr τ fs_X11_thistles ts_X11_thistles σ σ := oFr_rf
  refine lv_aload_n hx hb dX11_thistles_0 rfl (lv_at hl 0 rfl) ?_
  refine lv_iconst (v := 0) hx hb dX11_thistles_1 (by decide) ?_
  refine p_658 cx hw ha0 k_f_X11_89 dX11_thistles_2 (fun σ1 H locs eσ1 hw => ?_)
  have fr := oFr_i fr eσ1 (by decide)
  refine lv_aload_n hx hb dX11_thistles_5 rfl (lv_at hl 0 rfl) ?_
  refine lv_sipush (v := 128) hx hb dX11_thistles_6 (by decide) ?_
  refine lv_iload_n hx hb dX11_thistles_9 rfl (lv_at hl 1 rfl) ?_
  refine lv_iload_n hx hb dX11_thistles_10 rfl (lv_at hl 2 rfl) ?_
  refine o_ci hw (oRunV cx hA hw q_X11_layOn k_m_X11_262 rfl ha0 (by decide) (As := [.int 128, .int a1, .int a2]) (c_X11_layOn a0 ha0 128 (iv_w (⟨by decide, by decide⟩ : Iv 128 128 128) (by decide)) a1 a2) (by decide) rfl hl.1 rfl (Nat.le_of_ble_eq_true rfl) dX11_thistles_11 (by decide)) (fun v3 σ2 H locs hp hw => ?_)
  have p3_0 := hp
  have fr := oFr_tr fr p3_0 (by decide)
  rw [← hQ]
  exact o_ri cx rx hw dX11_thistles_14 fr
set_option maxHeartbeats 4000000 in
set_option maxRecDepth 100000 in
theorem c_X11_refusesGate (a0 : Nat) (ha0 : oA L τ a0 10) (a1 : Int32) (a2 : Int32) : oMet l A L τ cy D K yX11_refusesGate cX11_refusesGate 3 (some .int) 1 24 [.ref a0, .int a1, .int a2] σ (va_Qi (fun r σ1 => σ1 = σ ∧ Iv r (-2) 0 ∧ (0 ≤ r → Iv a1 0 5)) (oPo A L τ cy D) A) := by
  refine oMk (by decide) (Nat.le_of_ble_eq_true rfl) rfl ?_
  intro p e s m args below meth c ls cx rx hA hw hl
  generalize hQ : MQ below _ args s 0 0 A = Q
  have hx := cx.1.1
  have hb := cx.1.2.1
  have hml := cx.1.2.2.1
  have hown := cx.1.2.2.2.1
  have hts := cx.1.2.2.2.2
  have hl : lv_has ls 3 [(0, .ref a0), (1, .int a1), (2, .int a2)] := hl
  refine lv_iload_n hx hb dX11_refusesGate_0 rfl (lv_at hl 1 rfl) ?_
  refine lv_iconst (v := 0) hx hb dX11_refusesGate_1 (by decide) ?_
  refine lv_aload_n hx hb dX11_refusesGate_2 rfl (lv_at hl 0 rfl) ?_
  refine g_645 cx hw ha0 k_f_X11_154 dX11_refusesGate_3 (fun v1 e1 i1 => ?_)
  refine lv_iconst (v := 1) hx hb dX11_refusesGate_6 (by decide) ?_
  refine lv_isub hx hb dX11_refusesGate_7 ?_
  refine lv_topi (fun v2 e2 => ?_)
  have i2 : Iv v2 (-1) 5 := iv_sub e2 i1 (⟨by decide, by decide⟩ : Iv 1 1 1) (by decide)
  have x2 : v2.toInt = v1.toInt + (-1) := ex_sub e2 i1 (⟨by decide, by decide⟩ : Iv 1 1 1) (by decide)
  refine o_ci hw (oRunS cx hA hw q_X11_in k_m_X11_95 (As := [.int a1, .int 0, .int v2]) (c_X11_in a1 0 v2) (by decide) rfl hl.1 rfl (Nat.le_of_ble_eq_true rfl) dX11_refusesGate_8 (by decide)) (fun v4 σ3 H locs hp hw => ?_)
  obtain ⟨p4_0, p4_1, p4_2⟩ := hp
  rw [p4_0] at hw
  refine lv_if_eq (tgt := 23) hx hb dX11_refusesGate_11 (by decide) (fun c5 => ?_) (fun c5 => ?_)
  · --
    have i6 : Iv v4 0 0 := iv_eq1 c5 p4_1 (⟨by decide, by decide⟩ : Iv 0 0 0) (by decide)
    refine lv_iconst (v := (-1)) hx hb dX11_refusesGate_23 (by decide) ?_
    rw [← hQ]
    exact o_ri cx rx hw dX11_refusesGate_24 ⟨rfl, (iv_w (⟨by decide, by decide⟩ : Iv (-1) (-1) (-1)) (by decide)), (fun h => iv_no (iv_le1 (b' := -1) h (⟨by decide, by decide⟩ : Iv 0 0 0) (⟨by decide, by decide⟩ : Iv (-1) (-1) (-1)) (by decide)) (by decide))⟩
  · --
    have i7 : Iv v4 1 1 := iv_ne1 c5 p4_1 (⟨by decide, by decide⟩ : Iv 0 0 0) (by decide)
    have l8 : a1.toInt ≤ v2.toInt + 0 := le_of (p4_2 c5).2
    have i9 : Iv a1 0 5 := (fun h => iv_rel (p4_2 h) (⟨by decide, by decide⟩ : Iv 0 0 0) i2) c5
    refine lv_iload_n hx hb dX11_refusesGate_14 rfl (lv_at hl 2 rfl) ?_
    refine lv_iconst (v := 0) hx hb dX11_refusesGate_15 (by decide) ?_
    refine lv_iconst (v := 1) hx hb dX11_refusesGate_16 (by decide) ?_
    refine o_ci hw (oRunS cx hA hw q_X11_in k_m_X11_95 (As := [.int a2, .int 0, .int 1]) (c_X11_in a2 0 1) (by decide) rfl hl.1 rfl (Nat.le_of_ble_eq_true rfl) dX11_refusesGate_17 (by decide)) (fun v11 σ10 H locs hp hw => ?_)
    obtain ⟨p11_0, p11_1, p11_2⟩ := hp
    rw [p11_0] at hw
    refine lv_if_ne (tgt := 25) hx hb dX11_refusesGate_20 (by decide) (fun c12 => ?_) (fun c12 => ?_)
    · --
      have i13 : Iv v11 1 1 := iv_ne1 c12 p11_1 (⟨by decide, by decide⟩ : Iv 0 0 0) (by decide)
      have i14 : Iv a2 0 1 := (fun h => iv_rel (p11_2 h) (⟨by decide, by decide⟩ : Iv 0 0 0) (⟨by decide, by decide⟩ : Iv 1 1 1)) c12
      refine lv_aload_n hx hb dX11_refusesGate_25 rfl (lv_at hl 0 rfl) ?_
      refine lv_aload_n hx hb dX11_refusesGate_26 rfl (lv_at hl 0 rfl) ?_
      refine g_640 cx hw ha0 k_f_X11_9 dX11_refusesGate_27 (fun v15 e15 h15 => ?_)
      refine lv_aload_n hx hb dX11_refusesGate_30 rfl (lv_at hl 0 rfl) ?_
      refine g_646 cx hw ha0 k_f_X11_19 dX11_refusesGate_31 (fun v16 e16 h16 => ?_)
      refine lv_iload_n hx hb dX11_refusesGate_34 rfl (lv_at hl 1 rfl) ?_
      refine o_iald cx hw h16 (by decide) rfl (iv_in i9 (by decide)) dX11_refusesGate_35 (fun v17 e17 b17 => ?_)
      refine o_ci hw (oRunV cx hA hw q_X11_herdsAt k_m_X11_233 rfl ha0 (by decide) (As := [.ref v15, .int v17]) (c_X11_herdsAt a0 ha0 v15 h15 v17) (by decide) rfl hl.1 rfl (Nat.le_of_ble_eq_true rfl) dX11_refusesGate_36 (by decide)) (fun v19 σ18 H locs hp hw => ?_)
      obtain ⟨p19_0, p19_1⟩ := hp
      rw [p19_0] at hw
      refine lv_if_ne (tgt := 46) hx hb dX11_refusesGate_39 (by decide) (fun c20 => ?_) (fun c20 => ?_)
      · --
        have i21 : Iv v19 1 63 := iv_ne1 c20 p19_1 (⟨by decide, by decide⟩ : Iv 0 0 0) (by decide)
        refine lv_bipush (v := (-2)) hx hb dX11_refusesGate_46 (by decide) ?_
        rw [← hQ]
        exact o_ri cx rx hw dX11_refusesGate_48 ⟨rfl, (iv_w (⟨by decide, by decide⟩ : Iv (-2) (-2) (-2)) (by decide)), (fun h => iv_no (iv_le1 (b' := -1) h (⟨by decide, by decide⟩ : Iv 0 0 0) (⟨by decide, by decide⟩ : Iv (-2) (-2) (-2)) (by decide)) (by decide))⟩
      · --
        have i22 : Iv v19 0 0 := iv_eq1 c20 p19_1 (⟨by decide, by decide⟩ : Iv 0 0 0) (by decide)
        refine lv_iconst (v := 0) hx hb dX11_refusesGate_42 (by decide) ?_
        refine lv_goto (tgt := 48) hx hb dX11_refusesGate_43 (by decide) ?_
        rw [← hQ]
        exact o_ri cx rx hw dX11_refusesGate_48 ⟨rfl, (iv_w (⟨by decide, by decide⟩ : Iv 0 0 0) (by decide)), (fun _ => iv_w i9 (by decide))⟩
    · --
      have i23 : Iv v11 0 0 := iv_eq1 c12 p11_1 (⟨by decide, by decide⟩ : Iv 0 0 0) (by decide)
      refine lv_iconst (v := (-1)) hx hb dX11_refusesGate_23 (by decide) ?_
      rw [← hQ]
      exact o_ri cx rx hw dX11_refusesGate_24 ⟨rfl, (iv_w (⟨by decide, by decide⟩ : Iv (-1) (-1) (-1)) (by decide)), (fun h => iv_no (iv_le1 (b' := -1) h (⟨by decide, by decide⟩ : Iv 0 0 0) (⟨by decide, by decide⟩ : Iv (-1) (-1) (-1)) (by decide)) (by decide))⟩
abbrev fs_X11_goGate : List Nat := []
abbrev ts_X11_goGate : List Nat := [48]
set_option maxHeartbeats 4000000 in
set_option maxRecDepth 100000 in
theorem c_X11_goGate (a0 : Nat) (ha0 : oA L τ a0 10) (a1 : Int32) (ia1 : Iv a1 0 5) (a2 : Int32) : oMet l A L τ cy D K yX11_goGate cX11_goGate 4 (some .int) 0 0 [.ref a0, .int a1, .int a2] σ (va_Qi (fun r σ1 => oFr τ fs_X11_goGate ts_X11_goGate σ σ1 ∧ Iv r 0 1) (oPo A L τ cy D) A) := by
  refine oMk (by decide) (Nat.le_of_ble_eq_true rfl) rfl ?_
  intro p e s m args below meth c ls cx rx hA hw hl
  generalize hQ : MQ below _ args s 0 0 A = Q
  have hx := cx.1.1
  have hb := cx.1.2.1
  have hml := cx.1.2.2.1
  have hown := cx.1.2.2.2.1
  have hts := cx.1.2.2.2.2
  have hl : lv_has ls 4 [(0, .ref a0), (1, .int a1), (2, .int a2)] := hl
  have fr : oFr τ fs_X11_goGate ts_X11_goGate σ σ := oFr_rf
  refine lv_aload_n hx hb dX11_goGate_0 rfl (lv_at hl 0 rfl) ?_
  refine g_640 cx hw ha0 k_f_X11_9 dX11_goGate_1 (fun v1 e1 h1 => ?_)
  refine lv_sipush (v := 332) hx hb dX11_goGate_4 (by decide) ?_
  refine o_iald cx hw h1 (by decide) rfl (iv_in (⟨by decide, by decide⟩ : Iv 332 332 332) (by decide)) dX11_goGate_7 (fun v2 e2 b2 => ?_)
  refine lv_iload_n hx hb dX11_goGate_8 rfl (lv_at hl 1 rfl) ?_
  refine lv_ishr hx hb dX11_goGate_9 ?_
  refine lv_topi (fun v3 e3 => ?_)
  refine lv_iconst (v := 1) hx hb dX11_goGate_10 (by decide) ?_
  refine lv_iand hx hb dX11_goGate_11 ?_
  refine lv_topi (fun v4 e4 => ?_)
  have i4 : Iv v4 0 1 := iv_and e4 (⟨by decide, by decide⟩ : Iv 1 1 1) (by decide)
  refine lv_istore_n (lv' := [(3, .int v4), (0, .ref a0), (1, .int a1), (2, .int a2)]) hx hb dX11_goGate_12 rfl hl (by decide) rfl (fun ls hl => ?_)
  refine lv_aload_n hx hb dX11_goGate_13 rfl (lv_at hl 1 rfl) ?_
  refine g_640 cx hw ha0 k_f_X11_9 dX11_goGate_14 (fun v5 e5 h5 => ?_)
  rw [show v5 = v1 from Option.some.inj (e5.symm.trans (e1))]
  refine lv_sipush (v := 332) hx hb dX11_goGate_17 (by decide) ?_
  refine lv_aload_n hx hb dX11_goGate_20 rfl (lv_at hl 1 rfl) ?_
  refine g_640 cx hw ha0 k_f_X11_9 dX11_goGate_21 (fun v6 e6 h6 => ?_)
  rw [show v6 = v1 from Option.some.inj (e6.symm.trans (e1))]
  refine lv_sipush (v := 332) hx hb dX11_goGate_24 (by decide) ?_
  refine o_iald cx hw h1 (by decide) rfl (iv_in (⟨by decide, by decide⟩ : Iv 332 332 332) (by decide)) dX11_goGate_27 (fun v7 e7 b7 => ?_)
  refine lv_iconst (v := 1) hx hb dX11_goGate_28 (by decide) ?_
  refine lv_iload_n hx hb dX11_goGate_29 rfl (lv_at hl 2 rfl) ?_
  refine lv_ishl hx hb dX11_goGate_30 ?_
  refine lv_topi (fun v8 e8 => ?_)
  have i8 : Iv v8 1 32 := iv_shl1 e8 ia1 (by decide)
  refine lv_iconst (v := (-1)) hx hb dX11_goGate_31 (by decide) ?_
  refine lv_ixor hx hb dX11_goGate_32 ?_
  refine lv_topi (fun v9 e9 => ?_)
  refine lv_iand hx hb dX11_goGate_33 ?_
  refine lv_topi (fun v10 e10 => ?_)
  refine lv_iload_n hx hb dX11_goGate_34 rfl (lv_at hl 3 rfl) ?_
  refine lv_iload_n hx hb dX11_goGate_35 rfl (lv_at hl 2 rfl) ?_
  refine lv_ishl hx hb dX11_goGate_36 ?_
  refine lv_topi (fun v11 e11 => ?_)
  refine lv_ior hx hb dX11_goGate_37 ?_
  refine lv_topi (fun v12 e12 => ?_)
  refine o_iast cx hw h1 (by decide) rfl (iv_in (⟨by decide, by decide⟩ : Iv 332 332 332) (by decide)) (rb_hi (⟨by decide, by decide⟩ : Iv 332 332 332) (by decide)) dX11_goGate_38 (fun σ13 H locs eσ13 hw => ?_)
  have fr := oFr_p fr eσ13 h1 (by decide)
  refine lv_iload_n hx hb dX11_goGate_39 rfl (lv_at hl 0 rfl) ?_
  rw [← hQ]
  exact o_ri cx rx hw dX11_goGate_40 ⟨fr, (iv_w i4 (by decide))⟩
abbrev fs_X11_gate : List Nat := [658, 672]
abbrev ts_X11_gate : List Nat := [48, 56]
set_option maxHeartbeats 4000000 in
set_option maxRecDepth 100000 in
theorem c_X11_gate (a0 : Nat) (ha0 : oA L τ a0 10) (a1 : Int32) (a2 : Int32) : oMet l A L τ cy D K yX11_gate cX11_gate 4 (some .int) 2 46 [.ref a0, .int a1, .int a2] σ (va_Qi (fun r σ1 => oFr τ fs_X11_gate ts_X11_gate σ σ1 ∧ Iv r (-2) 1) (oPo A L τ cy D) A) := by
  refine oMk (by decide) (Nat.le_of_ble_eq_true rfl) rfl ?_
  intro p e s m args below meth c ls cx rx hA hw hl
  generalize hQ : MQ below _ args s 0 0 A = Q
  have hx := cx.1.1
  have hb := cx.1.2.1
  have hml := cx.1.2.2.1
  have hown := cx.1.2.2.2.1
  have hts := cx.1.2.2.2.2
  have hl : lv_has ls 4 [(0, .ref a0), (1, .int a1), (2, .int a2)] := hl
  have fr : oFr τ fs_X11_gate ts_X11_gate σ σ := oFr_rf
  refine lv_aload_n hx hb dX11_gate_0 rfl (lv_at hl 0 rfl) ?_
  refine lv_iconst (v := 0) hx hb dX11_gate_1 (by decide) ?_
  refine p_658 cx hw ha0 k_f_X11_89 dX11_gate_2 (fun σ1 H locs eσ1 hw => ?_)
  have fr := oFr_i fr eσ1 (by decide)
  refine lv_aload_n hx hb dX11_gate_5 rfl (lv_at hl 0 rfl) ?_
  refine lv_iload_n hx hb dX11_gate_6 rfl (lv_at hl 1 rfl) ?_
  refine lv_iload_n hx hb dX11_gate_7 rfl (lv_at hl 2 rfl) ?_
  refine o_ci hw (oRunV cx hA hw q_X11_refusesGate k_m_X11_266 rfl ha0 (by decide) (As := [.int a1, .int a2]) (c_X11_refusesGate a0 ha0 a1 a2) (by decide) rfl hl.1 rfl (Nat.le_of_ble_eq_true rfl) dX11_gate_8 (by decide)) (fun v3 σ2 H locs hp hw => ?_)
  obtain ⟨p3_0, p3_1, p3_2⟩ := hp
  rw [p3_0] at hw
  refine lv_istore_n (lv' := [(3, .int v3), (0, .ref a0), (1, .int a1), (2, .int a2)]) hx hb dX11_gate_11 rfl hl (by decide) rfl (fun ls hl => ?_)
  refine lv_iload_n hx hb dX11_gate_12 rfl (lv_at hl 0 rfl) ?_
  refine lv_if_ge (tgt := 18) hx hb dX11_gate_13 (by decide) (fun c4 => ?_) (fun c4 => ?_)
  · --
    have i5 : Iv a1 0 5 := p3_2 c4
    have i6 : Iv v3 0 0 := iv_le2 c4 (⟨by decide, by decide⟩ : Iv 0 0 0) p3_1 (by decide)
    refine lv_aload_n hx hb dX11_gate_18 rfl (lv_at hl 1 rfl) ?_
    refine lv_aload_n hx hb dX11_gate_19 rfl (lv_at hl 1 rfl) ?_
    refine g_640 cx hw ha0 k_f_X11_9 dX11_gate_20 (fun v7 e7 h7 => ?_)
    refine o_cv hw (oRunV cx hA hw q_X11_remember k_m_X11_258 rfl ha0 (by decide) (As := [.ref v7]) (c_X11_remember a0 ha0 v7 h7) (by decide) rfl hl.1 rfl (Nat.le_of_ble_eq_true rfl) dX11_gate_23 (by decide)) (fun σ8 H locs hp hw => ?_)
    have p9_0 := hp
    have fr := oFr_tr fr p9_0 (by decide)
    refine lv_aload_n hx hb dX11_gate_26 rfl (lv_at hl 1 rfl) ?_
    refine lv_iload_n hx hb dX11_gate_27 rfl (lv_at hl 2 rfl) ?_
    refine lv_iload_n hx hb dX11_gate_28 rfl (lv_at hl 3 rfl) ?_
    refine o_ci hw (oRunV cx hA hw q_X11_goGate k_m_X11_269 rfl ha0 (by decide) (As := [.int a1, .int a2]) (c_X11_goGate a0 ha0 a1 (iv_w i5 (by decide)) a2) (by decide) rfl hl.1 rfl (Nat.le_of_ble_eq_true rfl) dX11_gate_29 (by decide)) (fun v11 σ10 H locs hp hw => ?_)
    obtain ⟨p11_0, p11_1⟩ := hp
    have fr := oFr_tr fr p11_0 (by decide)
    rw [← hQ]
    exact o_ri cx rx hw dX11_gate_32 ⟨fr, (iv_w p11_1 (by decide))⟩
  · --
    have i12 : Iv v3 (-2) (-1) := iv_lt1 (iv_nle c4) p3_1 (⟨by decide, by decide⟩ : Iv 0 0 0) (by decide)
    refine lv_iload_n hx hb dX11_gate_16 rfl (lv_at hl 0 rfl) ?_
    rw [← hQ]
    exact o_ri cx rx hw dX11_gate_17 ⟨fr, (iv_w i12 (by decide))⟩
set_option maxHeartbeats 4000000 in
set_option maxRecDepth 100000 in
theorem c_X11_refusesDrive (a0 : Nat) (ha0 : oA L τ a0 10) (a1 : Int32) (a2 : Int32) : oMet l A L τ cy D K yX11_refusesDrive cX11_refusesDrive 4 (some .int) 2 46 [.ref a0, .int a1, .int a2] σ (va_Qi (fun r σ1 => σ1 = σ ∧ Iv r (-2) 0 ∧ (0 ≤ r → Iv a1 0 5) ∧ (0 ≤ r → Iv a2 0 63)) (oPo A L τ cy D) A) := by
  refine oMk (by decide) (Nat.le_of_ble_eq_true rfl) rfl ?_
  intro p e s m args below meth c ls cx rx hA hw hl
  generalize hQ : MQ below _ args s 0 0 A = Q
  have hx := cx.1.1
  have hb := cx.1.2.1
  have hml := cx.1.2.2.1
  have hown := cx.1.2.2.2.1
  have hts := cx.1.2.2.2.2
  have hl : lv_has ls 4 [(0, .ref a0), (1, .int a1), (2, .int a2)] := hl
  refine lv_aload_n hx hb dX11_refusesDrive_0 rfl (lv_at hl 0 rfl) ?_
  refine lv_iload_n hx hb dX11_refusesDrive_1 rfl (lv_at hl 1 rfl) ?_
  refine o_ci hw (oRunV cx hA hw q_X11_isHerd k_m_X11_237 rfl ha0 (by decide) (As := [.int a1]) (c_X11_isHerd a0 ha0 a1) (by decide) rfl hl.1 rfl (Nat.le_of_ble_eq_true rfl) dX11_refusesDrive_2 (by decide)) (fun v2 σ1 H locs hp hw => ?_)
  obtain ⟨p2_0, p2_1, p2_2⟩ := hp
  rw [p2_0] at hw
  refine lv_if_eq (tgt := 16) hx hb dX11_refusesDrive_5 (by decide) (fun c3 => ?_) (fun c3 => ?_)
  · --
    have i4 : Iv v2 0 0 := iv_eq1 c3 p2_1 (⟨by decide, by decide⟩ : Iv 0 0 0) (by decide)
    refine lv_iconst (v := (-1)) hx hb dX11_refusesDrive_16 (by decide) ?_
    rw [← hQ]
    exact o_ri cx rx hw dX11_refusesDrive_17 ⟨rfl, (iv_w (⟨by decide, by decide⟩ : Iv (-1) (-1) (-1)) (by decide)), (fun h => iv_no (iv_le1 (b' := -1) h (⟨by decide, by decide⟩ : Iv 0 0 0) (⟨by decide, by decide⟩ : Iv (-1) (-1) (-1)) (by decide)) (by decide)), (fun h => iv_no (iv_le1 (b' := -1) h (⟨by decide, by decide⟩ : Iv 0 0 0) (⟨by decide, by decide⟩ : Iv (-1) (-1) (-1)) (by decide)) (by decide))⟩
  · --
    have i5 : Iv v2 1 1 := iv_ne1 c3 p2_1 (⟨by decide, by decide⟩ : Iv 0 0 0) (by decide)
    have i6 : Iv a1 0 5 := p2_2 c3
    refine lv_aload_n hx hb dX11_refusesDrive_8 rfl (lv_at hl 0 rfl) ?_
    refine lv_iload_n hx hb dX11_refusesDrive_9 rfl (lv_at hl 2 rfl) ?_
    refine o_ci hw (oRunV cx hA hw q_X11_isCell k_m_X11_157 rfl ha0 (by decide) (As := [.int a2]) (c_X11_isCell a0 ha0 a2) (by decide) rfl hl.1 rfl (Nat.le_of_ble_eq_true rfl) dX11_refusesDrive_10 (by decide)) (fun v8 σ7 H locs hp hw => ?_)
    obtain ⟨p8_0, p8_1, p8_2⟩ := hp
    rw [p8_0] at hw
    refine lv_if_ne (tgt := 18) hx hb dX11_refusesDrive_13 (by decide) (fun c9 => ?_) (fun c9 => ?_)
    · --
      have i10 : Iv v8 1 1 := iv_ne1 c9 p8_1 (⟨by decide, by decide⟩ : Iv 0 0 0) (by decide)
      have i11 : Iv a2 0 63 := p8_2 c9
      refine lv_iconst (v := 0) hx hb dX11_refusesDrive_18 (by decide) ?_
      refine lv_istore_n (lv' := [(3, .int 0), (0, .ref a0), (1, .int a1), (2, .int a2)]) hx hb dX11_refusesDrive_19 rfl hl (by decide) rfl (fun ls hl => ?_)
      have J_20 : ∀ n : Nat, ∀ (j20_3 : Int32) (ij20_3 : Iv j20_3 0 4), (4 - j20_3.toInt).toNat < n → ∀ (H : Heap) (locs : List Loc), oI A L τ cy D s.heap σ H locs → ∀ (ls : Array Slot), lv_has ls 4 [(0, .ref a0), (1, .int a1), (2, .int a2), (3, .int j20_3)] → W p l e ({ frames := 2, cells := 0, slots := 0, locals := 46 } : Room) s m args below meth c H locs 0 0 Q (F0 m 20 ls []) := by
        intro n
        induction n with
        | zero => intro j20_3 ij20_3 hn_20  H locs hw  ls hl; exact absurd hn_20 (Nat.not_lt_zero _)
        | succ n ih_20 =>
          intro j20_3 ij20_3 hn_20  H locs hw  ls hl
          refine lv_iload_n hx hb dX11_refusesDrive_20 rfl (lv_at hl 3 rfl) ?_
          refine lv_iconst (v := 4) hx hb dX11_refusesDrive_21 (by decide) ?_
          refine lv_icmp_ge (tgt := 69) hx hb dX11_refusesDrive_22 (by decide) (fun c12 => ?_) (fun c12 => ?_)
          · --
            have i13 : Iv j20_3 4 4 := iv_le2 c12 (⟨by decide, by decide⟩ : Iv 4 4 4) ij20_3 (by decide)
            refine lv_bipush (v := (-2)) hx hb dX11_refusesDrive_69 (by decide) ?_
            rw [← hQ]
            exact o_ri cx rx hw dX11_refusesDrive_71 ⟨rfl, (iv_w (⟨by decide, by decide⟩ : Iv (-2) (-2) (-2)) (by decide)), (fun h => iv_no (iv_le1 (b' := -1) h (⟨by decide, by decide⟩ : Iv 0 0 0) (⟨by decide, by decide⟩ : Iv (-2) (-2) (-2)) (by decide)) (by decide)), (fun h => iv_no (iv_le1 (b' := -1) h (⟨by decide, by decide⟩ : Iv 0 0 0) (⟨by decide, by decide⟩ : Iv (-2) (-2) (-2)) (by decide)) (by decide))⟩
          · --
            have i14 : Iv j20_3 0 3 := iv_lt1 (iv_nle c12) ij20_3 (⟨by decide, by decide⟩ : Iv 4 4 4) (by decide)
            refine lv_aload_n hx hb dX11_refusesDrive_25 rfl (lv_at hl 0 rfl) ?_
            refine lv_aload_n hx hb dX11_refusesDrive_26 rfl (lv_at hl 0 rfl) ?_
            refine g_640 cx hw ha0 k_f_X11_9 dX11_refusesDrive_27 (fun v15 e15 h15 => ?_)
            refine lv_sipush (v := 320) hx hb dX11_refusesDrive_30 (by decide) ?_
            refine lv_iload_n hx hb dX11_refusesDrive_33 rfl (lv_at hl 1 rfl) ?_
            refine lv_iadd hx hb dX11_refusesDrive_34 ?_
            refine lv_topi (fun v16 e16 => ?_)
            have i16 : Iv v16 320 325 := iv_add e16 (⟨by decide, by decide⟩ : Iv 320 320 320) i6 (by decide)
            have x16 : v16.toInt = a1.toInt + 320 := (ex_add e16 (⟨by decide, by decide⟩ : Iv 320 320 320) i6 (by decide)).trans (Int.add_comm _ _)
            refine o_iald cx hw h15 (by decide) rfl (iv_in i16 (by decide)) dX11_refusesDrive_35 (fun v17 e17 b17 => ?_)
            have i17 : Iv v17 0 63 := rb_now b17 i16 (by decide)
            refine lv_iload_n hx hb dX11_refusesDrive_36 rfl (lv_at hl 3 rfl) ?_
            refine o_ci hw (oRunV cx hA hw q_X11_beside k_m_X11_223 rfl ha0 (by decide) (As := [.int v17, .int j20_3]) (c_X11_beside a0 ha0 v17 (iv_w i17 (by decide)) j20_3) (by decide) rfl hl.1 rfl (Nat.le_of_ble_eq_true rfl) dX11_refusesDrive_37 (by decide)) (fun v19 σ18 H locs hp hw => ?_)
            obtain ⟨p19_0, p19_1⟩ := hp
            rw [p19_0] at hw
            refine lv_iload_n hx hb dX11_refusesDrive_40 rfl (lv_at hl 2 rfl) ?_
            refine lv_icmp_ne (tgt := 63) hx hb dX11_refusesDrive_41 (by decide) (fun c20 => ?_) (fun c20 => ?_)
            · --
              obtain ⟨v21, e21⟩ : ∃ y : Int32, y = j20_3 + 1 := ⟨_, rfl⟩
              have i21 : Iv v21 1 4 := iv_add e21 i14 (⟨by decide, by decide⟩ : Iv 1 1 1) (by decide)
              have x21 : v21.toInt = j20_3.toInt + 1 := ex_add e21 i14 (⟨by decide, by decide⟩ : Iv 1 1 1) (by decide)
              refine lv_iinc (v := v21) (lv' := [(3, .int v21), (0, .ref a0), (1, .int a1), (2, .int a2)]) hx hb dX11_refusesDrive_63 hl (k := 3) rfl (by rw [e21]; rfl) (by decide) rfl (fun ls hl => ?_)
              refine lv_goto (tgt := 20) hx hb dX11_refusesDrive_66 (by decide) ?_
              exact ih_20 v21 (iv_w i21 (by decide)) (ms_up x21 (by decide) (iv_w (a' := 0) (b' := 4) i21 (by decide)).2 hn_20) _ _ hw _ (lv_sub hl [1, 2, 3, 0] rfl)
            · --
              have i22 : Iv v19 0 63 := iv_eq1 c20 p19_1 i11 (by decide)
              refine lv_aload_n hx hb dX11_refusesDrive_44 rfl (lv_at hl 0 rfl) ?_
              refine lv_aload_n hx hb dX11_refusesDrive_45 rfl (lv_at hl 0 rfl) ?_
              refine g_640 cx hw ha0 k_f_X11_9 dX11_refusesDrive_46 (fun v23 e23 h23 => ?_)
              rw [show v23 = v15 from Option.some.inj (e23.symm.trans (e15))]
              refine lv_iload_n hx hb dX11_refusesDrive_49 rfl (lv_at hl 2 rfl) ?_
              refine o_ci hw (oRunV cx hA hw q_X11_canBe k_m_X11_227 rfl ha0 (by decide) (As := [.ref v15, .int a2]) (c_X11_canBe a0 ha0 v15 h15 a2 (iv_w i11 (by decide))) (by decide) rfl hl.1 rfl (Nat.le_of_ble_eq_true rfl) dX11_refusesDrive_50 (by decide)) (fun v25 σ24 H locs hp hw => ?_)
              obtain ⟨p25_0, p25_1⟩ := hp
              rw [p25_0] at hw
              refine lv_if_eq (tgt := 60) hx hb dX11_refusesDrive_53 (by decide) (fun c26 => ?_) (fun c26 => ?_)
              · --
                have i27 : Iv v25 0 0 := iv_eq1 c26 p25_1 (⟨by decide, by decide⟩ : Iv 0 0 0) (by decide)
                refine lv_bipush (v := (-2)) hx hb dX11_refusesDrive_60 (by decide) ?_
                rw [← hQ]
                exact o_ri cx rx hw dX11_refusesDrive_62 ⟨rfl, (iv_w (⟨by decide, by decide⟩ : Iv (-2) (-2) (-2)) (by decide)), (fun h => iv_no (iv_le1 (b' := -1) h (⟨by decide, by decide⟩ : Iv 0 0 0) (⟨by decide, by decide⟩ : Iv (-2) (-2) (-2)) (by decide)) (by decide)), (fun h => iv_no (iv_le1 (b' := -1) h (⟨by decide, by decide⟩ : Iv 0 0 0) (⟨by decide, by decide⟩ : Iv (-2) (-2) (-2)) (by decide)) (by decide))⟩
              · --
                have i28 : Iv v25 1 1 := iv_ne1 c26 p25_1 (⟨by decide, by decide⟩ : Iv 0 0 0) (by decide)
                refine lv_iconst (v := 0) hx hb dX11_refusesDrive_56 (by decide) ?_
                refine lv_goto (tgt := 62) hx hb dX11_refusesDrive_57 (by decide) ?_
                rw [← hQ]
                exact o_ri cx rx hw dX11_refusesDrive_62 ⟨rfl, (iv_w (⟨by decide, by decide⟩ : Iv 0 0 0) (by decide)), (fun _ => iv_w i6 (by decide)), (fun _ => iv_w i11 (by decide))⟩
      exact J_20 _ 0 (iv_w (⟨by decide, by decide⟩ : Iv 0 0 0) (by decide)) (Nat.lt_succ_self _) _ _ hw _ (lv_sub hl [1, 2, 3, 0] rfl)
    · --
      have i29 : Iv v8 0 0 := iv_eq1 c9 p8_1 (⟨by decide, by decide⟩ : Iv 0 0 0) (by decide)
      refine lv_iconst (v := (-1)) hx hb dX11_refusesDrive_16 (by decide) ?_
      rw [← hQ]
      exact o_ri cx rx hw dX11_refusesDrive_17 ⟨rfl, (iv_w (⟨by decide, by decide⟩ : Iv (-1) (-1) (-1)) (by decide)), (fun h => iv_no (iv_le1 (b' := -1) h (⟨by decide, by decide⟩ : Iv 0 0 0) (⟨by decide, by decide⟩ : Iv (-1) (-1) (-1)) (by decide)) (by decide)), (fun h => iv_no (iv_le1 (b' := -1) h (⟨by decide, by decide⟩ : Iv 0 0 0) (⟨by decide, by decide⟩ : Iv (-1) (-1) (-1)) (by decide)) (by decide))⟩
abbrev fs_X11_goDrive : List Nat := []
abbrev ts_X11_goDrive : List Nat := [48]
set_option maxHeartbeats 4000000 in
set_option maxRecDepth 100000 in
theorem c_X11_goDrive (a0 : Nat) (ha0 : oA L τ a0 10) (a1 : Int32) (ia1 : Iv a1 0 5) (a2 : Int32) (ia2 : Iv a2 0 63) : oMet l A L τ cy D K yX11_goDrive cX11_goDrive 4 (some .int) 1 21 [.ref a0, .int a1, .int a2] σ (va_Qi (fun r σ1 => oFr τ fs_X11_goDrive ts_X11_goDrive σ σ1 ∧ Iv r 0 63) (oPo A L τ cy D) A) := by
  refine oMk (by decide) (Nat.le_of_ble_eq_true rfl) rfl ?_
  intro p e s m args below meth c ls cx rx hA hw hl
  generalize hQ : MQ below _ args s 0 0 A = Q
  have hx := cx.1.1
  have hb := cx.1.2.1
  have hml := cx.1.2.2.1
  have hown := cx.1.2.2.2.1
  have hts := cx.1.2.2.2.2
  have hl : lv_has ls 4 [(0, .ref a0), (1, .int a1), (2, .int a2)] := hl
  have fr : oFr τ fs_X11_goDrive ts_X11_goDrive σ σ := oFr_rf
  refine lv_aload_n hx hb dX11_goDrive_0 rfl (lv_at hl 0 rfl) ?_
  refine g_640 cx hw ha0 k_f_X11_9 dX11_goDrive_1 (fun v1 e1 h1 => ?_)
  refine lv_sipush (v := 320) hx hb dX11_goDrive_4 (by decide) ?_
  refine lv_iload_n hx hb dX11_goDrive_7 rfl (lv_at hl 1 rfl) ?_
  refine lv_iadd hx hb dX11_goDrive_8 ?_
  refine lv_topi (fun v2 e2 => ?_)
  have i2 : Iv v2 320 325 := iv_add e2 (⟨by decide, by decide⟩ : Iv 320 320 320) ia1 (by decide)
  have x2 : v2.toInt = a1.toInt + 320 := (ex_add e2 (⟨by decide, by decide⟩ : Iv 320 320 320) ia1 (by decide)).trans (Int.add_comm _ _)
  refine o_iald cx hw h1 (by decide) rfl (iv_in i2 (by decide)) dX11_goDrive_9 (fun v3 e3 b3 => ?_)
  have i3 : Iv v3 0 63 := rb_now b3 i2 (by decide)
  refine lv_istore_n (lv' := [(3, .int v3), (0, .ref a0), (1, .int a1), (2, .int a2)]) hx hb dX11_goDrive_10 rfl hl (by decide) rfl (fun ls hl => ?_)
  refine lv_aload_n hx hb dX11_goDrive_11 rfl (lv_at hl 1 rfl) ?_
  refine g_640 cx hw ha0 k_f_X11_9 dX11_goDrive_12 (fun v4 e4 h4 => ?_)
  rw [show v4 = v1 from Option.some.inj (e4.symm.trans (e1))]
  refine lv_sipush (v := 320) hx hb dX11_goDrive_15 (by decide) ?_
  refine lv_iload_n hx hb dX11_goDrive_18 rfl (lv_at hl 2 rfl) ?_
  refine lv_iadd hx hb dX11_goDrive_19 ?_
  refine lv_topi (fun v5 e5 => ?_)
  have i5 : Iv v5 320 325 := iv_add e5 (⟨by decide, by decide⟩ : Iv 320 320 320) ia1 (by decide)
  have x5 : v5.toInt = a1.toInt + 320 := (ex_add e5 (⟨by decide, by decide⟩ : Iv 320 320 320) ia1 (by decide)).trans (Int.add_comm _ _)
  refine lv_iload_n hx hb dX11_goDrive_20 rfl (lv_at hl 3 rfl) ?_
  refine o_iast cx hw h1 (by decide) rfl (iv_in i5 (by decide)) (fun _ _ => iv_w ia2 (by decide)) dX11_goDrive_21 (fun σ6 H locs eσ6 hw => ?_)
  have fr := oFr_p fr eσ6 h1 (by decide)
  refine lv_aload_n hx hb dX11_goDrive_22 rfl (lv_at hl 1 rfl) ?_
  refine g_640 cx hw ha0 k_f_X11_9 dX11_goDrive_23 (fun v7 e7 h7 => ?_)
  rw [show v7 = v1 from Option.some.inj (e7.symm.trans (((kr_p eσ6).trans e1)))]
  refine lv_sipush (v := 326) hx hb dX11_goDrive_26 (by decide) ?_
  refine lv_iload_n hx hb dX11_goDrive_29 rfl (lv_at hl 2 rfl) ?_
  refine lv_iadd hx hb dX11_goDrive_30 ?_
  refine lv_topi (fun v8 e8 => ?_)
  have i8 : Iv v8 326 331 := iv_add e8 (⟨by decide, by decide⟩ : Iv 326 326 326) ia1 (by decide)
  have x8 : v8.toInt = a1.toInt + 326 := (ex_add e8 (⟨by decide, by decide⟩ : Iv 326 326 326) ia1 (by decide)).trans (Int.add_comm _ _)
  refine lv_iconst (v := 0) hx hb dX11_goDrive_31 (by decide) ?_
  refine o_iast cx hw h1 (by decide) rfl (iv_in i8 (by decide)) (fun _ _ => iv_w (⟨by decide, by decide⟩ : Iv 0 0 0) (by decide)) dX11_goDrive_32 (fun σ9 H locs eσ9 hw => ?_)
  have fr := oFr_p fr eσ9 h1 (by decide)
  refine lv_aload_n hx hb dX11_goDrive_33 rfl (lv_at hl 1 rfl) ?_
  refine g_640 cx hw ha0 k_f_X11_9 dX11_goDrive_34 (fun v10 e10 h10 => ?_)
  rw [show v10 = v1 from Option.some.inj (e10.symm.trans (((kr_p eσ9).trans ((kr_p eσ6).trans e1))))]
  refine lv_iload_n hx hb dX11_goDrive_37 rfl (lv_at hl 2 rfl) ?_
  refine o_cv hw (oRunS cx hA hw q_X11_tread k_m_X11_178 (As := [.ref v1, .int a1]) (c_X11_tread v1 h1 a1 (iv_w ia1 (by decide))) (by decide) rfl hl.1 rfl (Nat.le_of_ble_eq_true rfl) dX11_goDrive_38 (by decide)) (fun σ11 H locs hp hw => ?_)
  have p12_0 := hp
  have fr := oFr_tr fr p12_0 (by decide)
  refine lv_iload_n hx hb dX11_goDrive_41 rfl (lv_at hl 0 rfl) ?_
  rw [← hQ]
  exact o_ri cx rx hw dX11_goDrive_42 ⟨fr, (iv_w i3 (by decide))⟩
abbrev fs_X11_drive : List Nat := [658, 672]
abbrev ts_X11_drive : List Nat := [48, 56]
set_option maxHeartbeats 4000000 in
set_option maxRecDepth 100000 in
theorem c_X11_drive (a0 : Nat) (ha0 : oA L τ a0 10) (a1 : Int32) (a2 : Int32) : oMet l A L τ cy D K yX11_drive cX11_drive 4 (some .int) 3 69 [.ref a0, .int a1, .int a2] σ (va_Qi (fun r σ1 => oFr τ fs_X11_drive ts_X11_drive σ σ1 ∧ Iv r (-2) 63) (oPo A L τ cy D) A) := by
  refine oMk (by decide) (Nat.le_of_ble_eq_true rfl) rfl ?_
  intro p e s m args below meth c ls cx rx hA hw hl
  generalize hQ : MQ below _ args s 0 0 A = Q
  have hx := cx.1.1
  have hb := cx.1.2.1
  have hml := cx.1.2.2.1
  have hown := cx.1.2.2.2.1
  have hts := cx.1.2.2.2.2
  have hl : lv_has ls 4 [(0, .ref a0), (1, .int a1), (2, .int a2)] := hl
  have fr : oFr τ fs_X11_drive ts_X11_drive σ σ := oFr_rf
  refine lv_aload_n hx hb dX11_drive_0 rfl (lv_at hl 0 rfl) ?_
  refine lv_iconst (v := 0) hx hb dX11_drive_1 (by decide) ?_
  refine p_658 cx hw ha0 k_f_X11_89 dX11_drive_2 (fun σ1 H locs eσ1 hw => ?_)
  have fr := oFr_i fr eσ1 (by decide)
  refine lv_aload_n hx hb dX11_drive_5 rfl (lv_at hl 0 rfl) ?_
  refine lv_iload_n hx hb dX11_drive_6 rfl (lv_at hl 1 rfl) ?_
  refine lv_iload_n hx hb dX11_drive_7 rfl (lv_at hl 2 rfl) ?_
  refine o_ci hw (oRunV cx hA hw q_X11_refusesDrive k_m_X11_272 rfl ha0 (by decide) (As := [.int a1, .int a2]) (c_X11_refusesDrive a0 ha0 a1 a2) (by decide) rfl hl.1 rfl (Nat.le_of_ble_eq_true rfl) dX11_drive_8 (by decide)) (fun v3 σ2 H locs hp hw => ?_)
  obtain ⟨p3_0, p3_1, p3_2, p3_3⟩ := hp
  rw [p3_0] at hw
  refine lv_istore_n (lv' := [(3, .int v3), (0, .ref a0), (1, .int a1), (2, .int a2)]) hx hb dX11_drive_11 rfl hl (by decide) rfl (fun ls hl => ?_)
  refine lv_iload_n hx hb dX11_drive_12 rfl (lv_at hl 0 rfl) ?_
  refine lv_if_ge (tgt := 18) hx hb dX11_drive_13 (by decide) (fun c4 => ?_) (fun c4 => ?_)
  · --
    have i5 : Iv a1 0 5 := p3_2 c4
    have i6 : Iv a2 0 63 := p3_3 c4
    have i7 : Iv v3 0 0 := iv_le2 c4 (⟨by decide, by decide⟩ : Iv 0 0 0) p3_1 (by decide)
    refine lv_aload_n hx hb dX11_drive_18 rfl (lv_at hl 1 rfl) ?_
    refine lv_aload_n hx hb dX11_drive_19 rfl (lv_at hl 1 rfl) ?_
    refine g_640 cx hw ha0 k_f_X11_9 dX11_drive_20 (fun v8 e8 h8 => ?_)
    refine o_cv hw (oRunV cx hA hw q_X11_remember k_m_X11_258 rfl ha0 (by decide) (As := [.ref v8]) (c_X11_remember a0 ha0 v8 h8) (by decide) rfl hl.1 rfl (Nat.le_of_ble_eq_true rfl) dX11_drive_23 (by decide)) (fun σ9 H locs hp hw => ?_)
    have p10_0 := hp
    have fr := oFr_tr fr p10_0 (by decide)
    refine lv_aload_n hx hb dX11_drive_26 rfl (lv_at hl 1 rfl) ?_
    refine lv_iload_n hx hb dX11_drive_27 rfl (lv_at hl 2 rfl) ?_
    refine lv_iload_n hx hb dX11_drive_28 rfl (lv_at hl 3 rfl) ?_
    refine o_ci hw (oRunV cx hA hw q_X11_goDrive k_m_X11_275 rfl ha0 (by decide) (As := [.int a1, .int a2]) (c_X11_goDrive a0 ha0 a1 (iv_w i5 (by decide)) a2 (iv_w i6 (by decide))) (by decide) rfl hl.1 rfl (Nat.le_of_ble_eq_true rfl) dX11_drive_29 (by decide)) (fun v12 σ11 H locs hp hw => ?_)
    obtain ⟨p12_0, p12_1⟩ := hp
    have fr := oFr_tr fr p12_0 (by decide)
    rw [← hQ]
    exact o_ri cx rx hw dX11_drive_32 ⟨fr, (iv_w p12_1 (by decide))⟩
  · --
    have i13 : Iv v3 (-2) (-1) := iv_lt1 (iv_nle c4) p3_1 (⟨by decide, by decide⟩ : Iv 0 0 0) (by decide)
    refine lv_iload_n hx hb dX11_drive_16 rfl (lv_at hl 0 rfl) ?_
    rw [← hQ]
    exact o_ri cx rx hw dX11_drive_17 ⟨fr, (iv_w i13 (by decide))⟩
abbrev fs_X11_tellHerds : List Nat := [657]
abbrev ts_X11_tellHerds : List Nat := [52]
set_option maxHeartbeats 4000000 in
set_option maxRecDepth 100000 in
theorem c_X11_tellHerds (a0 : Nat) (ha0 : oA L τ a0 10) (a1 : Nat) (ha1 : oA L τ a1 48) : oMet l A L τ cy D K yX11_tellHerds cX11_tellHerds 3 none 1 22 [.ref a0, .ref a1] σ (va_Qv (fun σ1 => oFr τ fs_X11_tellHerds ts_X11_tellHerds σ σ1) (oPo A L τ cy D) A) := by
  refine oMk (by decide) (Nat.le_of_ble_eq_true rfl) rfl ?_
  intro p e s m args below meth c ls cx rx hA hw hl
  generalize hQ : MQ below _ args s 0 0 A = Q
  have hx := cx.1.1
  have hb := cx.1.2.1
  have hml := cx.1.2.2.1
  have hown := cx.1.2.2.2.1
  have hts := cx.1.2.2.2.2
  have hl : lv_has ls 3 [(0, .ref a0), (1, .ref a1)] := hl
  have fr : oFr τ fs_X11_tellHerds ts_X11_tellHerds σ σ := oFr_rf
  refine lv_aload_n hx hb dX11_tellHerds_0 rfl (lv_at hl 0 rfl) ?_
  refine lv_iconst (v := 0) hx hb dX11_tellHerds_1 (by decide) ?_
  refine p_657 cx hw ha0 (iv_w (⟨by decide, by decide⟩ : Iv 0 0 0) (by decide)) k_f_X11_92 dX11_tellHerds_2 (fun σ1 H locs eσ1 hw => ?_)
  have fr := oFr_i fr eσ1 (by decide)
  refine lv_iconst (v := 0) hx hb dX11_tellHerds_5 (by decide) ?_
  refine lv_istore_n (lv' := [(2, .int 0), (0, .ref a0), (1, .ref a1)]) hx hb dX11_tellHerds_6 rfl hl (by decide) rfl (fun ls hl => ?_)
  have J_7 : ∀ n : Nat, ∀ (j7_2 : Int32) (ij7_2 : Iv j7_2 0 6), (6 - j7_2.toInt).toNat < n → ∀ (σ_7 : oSt) (H : Heap) (locs : List Loc), oI A L τ cy D s.heap σ_7 H locs → oFr τ fs_X11_tellHerds ts_X11_tellHerds σ σ_7 → Iv (σ_7.1 657 a0) 0 6 → (σ_7.1 657 a0).toInt ≤ j7_2.toInt + 0 → ∀ (ls : Array Slot), lv_has ls 3 [(0, .ref a0), (1, .ref a1), (2, .int j7_2)] → W p l e ({ frames := 1, cells := 0, slots := 0, locals := 22 } : Room) s m args below meth c H locs 0 0 Q (F0 m 7 ls []) := by
    intro n
    induction n with
    | zero => intro j7_2 ij7_2 hn_7  σ_7 H locs hw fr f7_657_a0  le7_0 ls hl; exact absurd hn_7 (Nat.not_lt_zero _)
    | succ n ih_7 =>
      intro j7_2 ij7_2 hn_7  σ_7 H locs hw fr f7_657_a0  le7_0 ls hl
      refine lv_iload_n hx hb dX11_tellHerds_7 rfl (lv_at hl 2 rfl) ?_
      refine lv_aload_n hx hb dX11_tellHerds_8 rfl (lv_at hl 0 rfl) ?_
      refine g_647 cx hw ha0 k_f_X11_105 dX11_tellHerds_9 (fun v2 e2 i2 => ?_)
      refine lv_icmp_ge (tgt := 33) hx hb dX11_tellHerds_12 (by decide) (fun c3 => ?_) (fun c3 => ?_)
      · --
        rw [← hQ]
        exact o_rv cx rx hw dX11_tellHerds_33 fr
      · --
        have i4 : Iv j7_2 0 5 := iv_lt1 (iv_nle c3) ij7_2 i2 (by decide)
        have i5 : Iv (σ_7.1 657 a0) 0 5 := iv_leh le7_0 f7_657_a0 i4 (by decide)
        have i6 : Iv v2 1 6 := iv_lt2 (iv_nle c3) ij7_2 i2 (by decide)
        refine lv_aload_n hx hb dX11_tellHerds_15 rfl (lv_at hl 0 rfl) ?_
        refine lv_aload_n hx hb dX11_tellHerds_16 rfl (lv_at hl 1 rfl) ?_
        refine lv_sipush (v := 320) hx hb dX11_tellHerds_17 (by decide) ?_
        refine lv_iload_n hx hb dX11_tellHerds_20 rfl (lv_at hl 2 rfl) ?_
        refine lv_iadd hx hb dX11_tellHerds_21 ?_
        refine lv_topi (fun v7 e7 => ?_)
        have i7 : Iv v7 320 325 := iv_add e7 (⟨by decide, by decide⟩ : Iv 320 320 320) i4 (by decide)
        have x7 : v7.toInt = j7_2.toInt + 320 := (ex_add e7 (⟨by decide, by decide⟩ : Iv 320 320 320) i4 (by decide)).trans (Int.add_comm _ _)
        refine o_iald cx hw ha1 (by decide) rfl (iv_in i7 (by decide)) dX11_tellHerds_22 (fun v8 e8 b8 => ?_)
        have i8 : Iv v8 0 63 := rb_now b8 i7 (by decide)
        refine lv_i2l hx hb dX11_tellHerds_23 rfl ?_
        refine lv_topl (fun v9 e9 => ?_)
        refine o_cv hw (oRunV cx hA hw q_X11_tell k_m_X11_278 rfl ha0 (by decide) (As := [.long v9]) (c_X11_tell a0 ha0 v9 (kn_iv (rfl) (iv_w i5 (by decide)))) (by decide) rfl hl.1 rfl (Nat.le_of_ble_eq_true rfl) dX11_tellHerds_24 (by decide)) (fun σ10 H locs hp hw => ?_)
        obtain ⟨p11_0, p11_1⟩ := hp
        have fr := oFr_tr fr p11_0 (by decide)
        have x13 : (σ10.1 657 a0).toInt = (σ_7.1 657 a0).toInt + 1 := fin_tr p11_1 (rfl)
        have i12 : Iv (σ10.1 657 a0) 1 6 := iv_fin x13 i5 (by decide)
        obtain ⟨v14, e14⟩ : ∃ y : Int32, y = j7_2 + 1 := ⟨_, rfl⟩
        have i14 : Iv v14 1 6 := iv_add e14 i4 (⟨by decide, by decide⟩ : Iv 1 1 1) (by decide)
        have x14 : v14.toInt = j7_2.toInt + 1 := ex_add e14 i4 (⟨by decide, by decide⟩ : Iv 1 1 1) (by decide)
        refine lv_iinc (v := v14) (lv' := [(2, .int v14), (0, .ref a0), (1, .ref a1)]) hx hb dX11_tellHerds_27 hl (k := 2) rfl (by rw [e14]; rfl) (by decide) rfl (fun ls hl => ?_)
        refine lv_goto (tgt := 7) hx hb dX11_tellHerds_30 (by decide) ?_
        exact ih_7 v14 (iv_w i14 (by decide)) (ms_up x14 (by decide) (iv_w (a' := 0) (b' := 6) i14 (by decide)).2 hn_7) σ10 _ _ hw fr (kn_iv (rfl) (iv_w i12 (by decide))) (le_lin x13 x14 le7_0 (by decide)) _ (lv_sub hl [1, 2, 0] rfl)
  exact J_7 _ 0 (iv_w (⟨by decide, by decide⟩ : Iv 0 0 0) (by decide)) (Nat.lt_succ_self _) σ1 _ _ hw fr (kn_iv ((kp_s eσ1)) (iv_w (⟨by decide, by decide⟩ : Iv 0 0 0) (by decide))) (le_cl ((kp_s eσ1)) (le_iv (⟨by decide, by decide⟩ : Iv 0 0 0) (⟨by decide, by decide⟩ : Iv 0 0 0) (by decide))) _ (lv_sub hl [1, 2, 0] rfl)
end OM
