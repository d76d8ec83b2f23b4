section OM
variable {l : Launch} {A : Nat → Prop} {L : List Nat} {τ : Nat → Nat} {cy : Nat → ClassId} {D : va_G} {K : (Nat → Nat) × (Nat → Nat)} {σ : oSt}
abbrev fs_X11_least : List Nat := [650, 657, 658]
abbrev ts_X11_least : List Nat := [52]
set_option maxHeartbeats 4000000 in
set_option maxRecDepth 100000 in
theorem c_X11_least (a0 : Nat) (ha0 : oA L τ a0 10) : oMet l A L τ cy D K yX11_least cX11_least 6 (some .int) 4 91 [.ref a0] σ (va_Qi (fun r σ1 => oFr τ fs_X11_least ts_X11_least σ σ1 ∧ Iv r (-2) 99 ∧ (σ1.1 650 a0 = σ.1 650 a0)) (oPo A L τ cy D) A) := by
  refine oMk (by decide) (Nat.le_of_ble_eq_true rfl) rfl ?_
  intro p e s m args below meth c ls cx rx hA hw hl
  generalize hQ : MQ below _ args s 0 0 A = Q
  have hx := cx.1.1
  have hb := cx.1.2.1
  have hml := cx.1.2.2.1
  have hown := cx.1.2.2.2.1
  have hts := cx.1.2.2.2.2
  have hl : lv_has ls 6 [(0, .ref a0)] := hl
  have fr : oFr τ fs_X11_least ts_X11_least σ σ := oFr_rf
  refine lv_aload_n hx hb dX11_least_0 rfl (lv_at hl 0 rfl) ?_
  refine lv_iconst (v := 0) hx hb dX11_least_1 (by decide) ?_
  refine p_658 cx hw ha0 k_f_X11_89 dX11_least_2 (fun σ1 H locs eσ1 hw => ?_)
  have fr := oFr_i fr eσ1 (by decide)
  refine lv_aload_n hx hb dX11_least_5 rfl (lv_at hl 0 rfl) ?_
  refine g_650 cx hw ha0 k_f_X11_25 dX11_least_6 (fun v2 e2 => ?_)
  rw [show v2 = (σ.1 650 a0) from e2.trans ((kp_i eσ1 (by decide)).trans rfl)]
  refine lv_istore_n (lv' := [(1, .int (σ.1 650 a0)), (0, .ref a0)]) hx hb dX11_least_9 rfl hl (by decide) rfl (fun ls hl => ?_)
  refine lv_bipush (v := (-2)) hx hb dX11_least_10 (by decide) ?_
  refine lv_istore_n (lv' := [(2, .int (-2)), (1, .int (σ.1 650 a0)), (0, .ref a0)]) hx hb dX11_least_12 rfl hl (by decide) rfl (fun ls hl => ?_)
  refine lv_iconst (v := 0) hx hb dX11_least_13 (by decide) ?_
  refine lv_istore_n (lv' := [(3, .int 0), (2, .int (-2)), (1, .int (σ.1 650 a0)), (0, .ref a0)]) hx hb dX11_least_14 rfl hl (by decide) rfl (fun ls hl => ?_)
  have frE_15 := fr
  have J_15 : ∀ n15 : Nat, ∀ (j15_2 : Int32) (ij15_2 : Iv j15_2 (-2) 99) (j15_3 : Int32) (ij15_3 : Iv j15_3 0 100), ∀ (σ_15 : oSt) (H : Heap) (locs : List Loc), oI A L τ cy D s.heap σ_15 H locs → oFr τ fs_X11_least ts_X11_least σ σ_15 → Iv (σ_15.1 650 a0) (-2147483648) 2147483647 → (100 - j15_3.toInt).toNat < n15 → ∀ (ls : Array Slot), lv_has ls 6 [(0, .ref a0), (1, .int (σ.1 650 a0)), (2, .int j15_2), (3, .int j15_3)] → W p l e ({ frames := 4, cells := 0, slots := 0, locals := 91 } : Room) s m args below meth c H locs 0 0 Q (F0 m 15 ls []) := by
    intro n15
    induction n15 with
    | zero => intro j15_2 ij15_2 j15_3 ij15_3 σ_15 H locs hw fr f15_650_a0  hn_15   ls hl; exact absurd hn_15 (Nat.not_lt_zero _)
    | succ n15 ih_15 =>
      intro j15_2 ij15_2 j15_3 ij15_3 σ_15 H locs hw fr f15_650_a0  hn_15   ls hl
      have fr_15 := fr
      refine lv_iload_n hx hb dX11_least_15 rfl (lv_at hl 3 rfl) ?_
      refine lv_bipush (v := 99) hx hb dX11_least_16 (by decide) ?_
      have J_73 : ∀ (H : Heap) (locs : List Loc), oI A L τ cy D s.heap σ_15 H locs → ∀ (ls : Array Slot), lv_has ls 6 [(0, .ref a0), (1, .int (σ.1 650 a0)), (2, .int j15_2), (3, .int j15_3)] → W p l e ({ frames := 4, cells := 0, slots := 0, locals := 91 } : Room) s m args below meth c H locs 0 0 Q (F0 m 73 ls []) := by
        intro  H locs hw     ls hl
        refine lv_aload_n hx hb dX11_least_73 rfl (lv_at hl 0 rfl) ?_
        refine lv_iload_n hx hb dX11_least_74 rfl (lv_at hl 1 rfl) ?_
        refine p_650 cx hw ha0 k_f_X11_25 dX11_least_75 (fun σ3 H locs eσ3 hw => ?_)
        have fr := oFr_i fr eσ3 (by decide)
        refine lv_iload_n hx hb dX11_least_78 rfl (lv_at hl 2 rfl) ?_
        rw [← hQ]
        exact o_ri cx rx hw dX11_least_79 ⟨fr, (iv_w ij15_2 (by decide)), (by exact (kp_s eσ3))⟩
      refine lv_icmp_gt (tgt := 73) hx hb dX11_least_18 (by decide) (fun c4 => ?_) (fun c4 => ?_)
      · --
        have i5 : Iv j15_3 100 100 := iv_lt2 c4 (⟨by decide, by decide⟩ : Iv 99 99 99) ij15_3 (by decide)
        exact J_73 _ _ hw _ (lv_sub hl [0, 1, 2, 3] rfl)
      · --
        have i6 : Iv j15_3 0 99 := iv_le1 (iv_nlt c4) ij15_3 (⟨by decide, by decide⟩ : Iv 99 99 99) (by decide)
        refine lv_iload_n hx hb dX11_least_21 rfl (lv_at hl 2 rfl) ?_
        refine lv_if_ge (tgt := 73) hx hb dX11_least_22 (by decide) (fun c7 => ?_) (fun c7 => ?_)
        · --
          have i8 : Iv j15_2 0 99 := iv_le2 c7 (⟨by decide, by decide⟩ : Iv 0 0 0) ij15_2 (by decide)
          exact J_73 _ _ hw _ (lv_sub hl [0, 1, 2, 3] rfl)
        · --
          have i9 : Iv j15_2 (-2) (-1) := iv_lt1 (iv_nle c7) ij15_2 (⟨by decide, by decide⟩ : Iv 0 0 0) (by decide)
          refine lv_aload_n hx hb dX11_least_25 rfl (lv_at hl 0 rfl) ?_
          refine lv_iload_n hx hb dX11_least_26 rfl (lv_at hl 3 rfl) ?_
          refine p_650 cx hw ha0 k_f_X11_25 dX11_least_27 (fun σ10 H locs eσ10 hw => ?_)
          have fr := oFr_i fr eσ10 (by decide)
          refine lv_aload_n hx hb dX11_least_30 rfl (lv_at hl 0 rfl) ?_
          refine lv_aload_n hx hb dX11_least_31 rfl (lv_at hl 0 rfl) ?_
          refine g_640 cx hw ha0 k_f_X11_9 dX11_least_32 (fun v11 e11 h11 => ?_)
          refine o_cl hw (oRunV cx hA hw q_X11_pieceOfAll k_m_X11_334 rfl ha0 (by decide) (As := [.ref v11]) (c_X11_pieceOfAll a0 ha0 v11 h11) (by decide) rfl hl.1 rfl (Nat.le_of_ble_eq_true rfl) dX11_least_35 (by decide)) (fun v13 σ12 H locs hp hw => ?_)
          have p13_0 := hp
          rw [p13_0] at hw
          refine lv_lstore (lv' := [(4, .long v13), (0, .ref a0), (1, .int (σ.1 650 a0)), (2, .int j15_2), (3, .int j15_3)]) hx hb dX11_least_38 hl (by decide) rfl (fun ls hl => ?_)
          refine lv_lload hx hb dX11_least_40 (lv_at hl 0 rfl) ?_
          refine lv_lconst (v := 0) hx hb dX11_least_42 (by decide) ?_
          refine W.lcmp hx hb dX11_least_43 ?_
          refine lv_topi (fun v14 e14 => ?_)
          have i14 : Iv v14 (-1) 1 := iv_lcmp e14
          have frE_67 := fr
          have J_67 : ∀ (j67_2 : Int32) (ij67_2 : Iv j67_2 (-2) 99), ∀ (σ_67 : oSt) (H : Heap) (locs : List Loc), oI A L τ cy D s.heap σ_67 H locs → oFr τ fs_X11_least ts_X11_least σ σ_67 → Iv (σ_67.1 650 a0) 0 99 → ∀ (ls : Array Slot), lv_has ls 6 [(0, .ref a0), (1, .int (σ.1 650 a0)), (2, .int j67_2), (3, .int j15_3), (4, .long v13)] → W p l e ({ frames := 4, cells := 0, slots := 0, locals := 91 } : Room) s m args below meth c H locs 0 0 Q (F0 m 67 ls []) := by
            intro j67_2 ij67_2 σ_67 H locs hw fr f67_650_a0     ls hl
            have fr_67 := fr
            obtain ⟨v15, e15⟩ : ∃ y : Int32, y = j15_3 + 1 := ⟨_, rfl⟩
            have i15 : Iv v15 1 100 := iv_add e15 i6 (⟨by decide, by decide⟩ : Iv 1 1 1) (by decide)
            have x15 : v15.toInt = j15_3.toInt + 1 := ex_add e15 i6 (⟨by decide, by decide⟩ : Iv 1 1 1) (by decide)
            refine lv_iinc (v := v15) (lv' := [(3, .int v15), (0, .ref a0), (1, .int (σ.1 650 a0)), (2, .int j67_2), (4, .long v13)]) hx hb dX11_least_67 hl (k := 3) rfl (by rw [e15]; rfl) (by decide) rfl (fun ls hl => ?_)
            refine lv_goto (tgt := 15) hx hb dX11_least_70 (by decide) ?_
            exact ih_15 j67_2 ij67_2 v15 (iv_w i15 (by decide)) σ_67 _ _ hw fr (kn_iv (rfl) (iv_w f67_650_a0 (by decide))) (ms_up x15 (by decide) (iv_w (a' := 0) (b' := 100) i15 (by decide)).2 hn_15) _ (lv_sub hl [1, 2, 3, 0] rfl)
          refine lv_if_ne (tgt := 50) hx hb dX11_least_44 (by decide) (fun c16 => ?_) (fun c16 => ?_)
          · --
            refine lv_iload_n hx hb dX11_least_50 rfl (lv_at hl 4 rfl) ?_
            refine lv_istore_n (lv' := [(2, .int j15_3), (4, .long v13), (0, .ref a0), (1, .int (σ.1 650 a0)), (3, .int j15_3)]) hx hb dX11_least_51 rfl hl (by decide) rfl (fun ls hl => ?_)
            refine lv_aload_n hx hb dX11_least_52 rfl (lv_at hl 2 rfl) ?_
            refine lv_iconst (v := 0) hx hb dX11_least_53 (by decide) ?_
            refine p_657 cx hw ha0 (iv_w (⟨by decide, by decide⟩ : Iv 0 0 0) (by decide)) k_f_X11_92 dX11_least_54 (fun σ17 H locs eσ17 hw => ?_)
            have fr := oFr_i fr eσ17 (by decide)
            refine lv_aload_n hx hb dX11_least_57 rfl (lv_at hl 2 rfl) ?_
            refine lv_lload hx hb dX11_least_58 (lv_at hl 1 rfl) ?_
            refine o_ci hw (oRunS cx hA hw q_J13_bitCount_95d88 k_m_X11_321 (As := [.long v13]) (c_J13_bitCount_95d88 v13) (by decide) rfl hl.1 rfl (Nat.le_of_ble_eq_true rfl) dX11_least_60 (by decide)) (fun v19 σ18 H locs hp hw => ?_)
            obtain ⟨p19_0, p19_1⟩ := hp
            rw [p19_0] at hw
            refine lv_i2l hx hb dX11_least_63 rfl ?_
            refine lv_topl (fun v20 e20 => ?_)
            refine o_cv hw (oRunV cx hA hw q_X11_tell k_m_X11_278 rfl ha0 (by decide) (As := [.long v20]) (c_X11_tell a0 ha0 v20 (kn_iv ((kp_s eσ17)) (iv_w (⟨by decide, by decide⟩ : Iv 0 0 0) (by decide)))) (by decide) rfl hl.1 rfl (Nat.le_of_ble_eq_true rfl) dX11_least_64 (by decide)) (fun σ21 H locs hp hw => ?_)
            obtain ⟨p22_0, p22_1⟩ := hp
            have fr := oFr_tr fr p22_0 (by decide)
            have x24 : (σ21.1 657 a0).toInt = (0 : Int32).toInt + 1 := fin_tr p22_1 ((kp_s eσ17))
            have i23 : Iv (σ21.1 657 a0) 1 1 := iv_fin x24 (⟨by decide, by decide⟩ : Iv 0 0 0) (by decide)
            exact J_67 j15_3 (iv_w i6 (by decide)) σ21 _ _ hw fr (kn_iv (((kp_c p22_0 (by decide)).trans ((kp_i eσ17 (by decide)).trans (kp_s eσ10)))) (iv_w i6 (by decide))) _ (lv_sub hl [2, 3, 0, 4, 1] rfl)
          · --
            have i25 : Iv v14 0 0 := iv_eq1 c16 i14 (⟨by decide, by decide⟩ : Iv 0 0 0) (by decide)
            refine lv_goto (tgt := 67) hx hb dX11_least_47 (by decide) ?_
            exact J_67 j15_2 (iv_w i9 (by decide)) σ10 _ _ hw fr (kn_iv ((kp_s eσ10)) (iv_w i6 (by decide))) _ (lv_sub hl [1, 2, 3, 4, 0] rfl)
  exact J_15 _ (-2) (iv_w (⟨by decide, by decide⟩ : Iv (-2) (-2) (-2)) (by decide)) 0 (iv_w (⟨by decide, by decide⟩ : Iv 0 0 0) (by decide)) σ1 _ _ hw fr (kn_iv (((kp_i eσ1 (by decide)).trans rfl)) (iv_w (iv_top (σ.1 650 a0)) (by decide))) (Nat.lt_succ_self _) _ (lv_sub hl [3, 2, 1, 0] rfl)
abbrev fs_X11_furthest : List Nat := [657, 658]
abbrev ts_X11_furthest : List Nat := [52, 66]
set_option maxHeartbeats 4000000 in
set_option maxRecDepth 100000 in
theorem c_X11_furthest (a0 : Nat) (ha0 : oA L τ a0 10) (a1 : Int32) : oMet l A L τ cy D K yX11_furthest cX11_furthest 6 (some .int) 3 67 [.ref a0, .int a1] σ (va_Qi (fun r σ1 => oFr τ fs_X11_furthest ts_X11_furthest σ σ1 ∧ Iv r (-2) 63) (oPo A L τ cy D) A) := by
  refine oMk (by decide) (Nat.le_of_ble_eq_true rfl) rfl ?_
  intro p e s m args below meth c ls cx rx hA hw hl
  generalize hQ : MQ below _ args s 0 0 A = Q
  have hx := cx.1.1
  have hb := cx.1.2.1
  have hml := cx.1.2.2.1
  have hown := cx.1.2.2.2.1
  have hts := cx.1.2.2.2.2
  have hl : lv_has ls 6 [(0, .ref a0), (1, .int a1)] := hl
  have fr : oFr τ fs_X11_furthest ts_X11_furthest σ σ := oFr_rf
  refine lv_aload_n hx hb dX11_furthest_0 rfl (lv_at hl 0 rfl) ?_
  refine lv_iconst (v := 0) hx hb dX11_furthest_1 (by decide) ?_
  refine p_658 cx hw ha0 k_f_X11_89 dX11_furthest_2 (fun σ1 H locs eσ1 hw => ?_)
  have fr := oFr_i fr eσ1 (by decide)
  refine lv_aload_n hx hb dX11_furthest_5 rfl (lv_at hl 0 rfl) ?_
  refine lv_iload_n hx hb dX11_furthest_6 rfl (lv_at hl 1 rfl) ?_
  have i2 : Iv (σ1.1 641 a0) 0 8 := o_fb (j := 641) hw ha0 rfl
  have i3 : Iv (σ1.1 642 a0) 0 8 := o_fb (j := 642) hw ha0 rfl
  refine o_ci hw (oRunV cx hA hw q_X11_isCell k_m_X11_157 rfl ha0 (by decide) (As := [.int a1]) (c_X11_isCell a0 ha0 a1) (by decide) rfl hl.1 rfl (Nat.le_of_ble_eq_true rfl) dX11_furthest_7 (by decide)) (fun v5 σ4 H locs hp hw => ?_)
  obtain ⟨p5_0, p5_1, p5_2, p5_3⟩ := hp
  rw [p5_0] at hw
  refine lv_if_ne (tgt := 15) hx hb dX11_furthest_10 (by decide) (fun c6 => ?_) (fun c6 => ?_)
  · --
    have i7 : Iv v5 1 1 := iv_ne1 c6 p5_1 (⟨by decide, by decide⟩ : Iv 0 0 0) (by decide)
    have i8 : Iv a1 0 63 := p5_2 c6
    refine lv_aload_n hx hb dX11_furthest_15 rfl (lv_at hl 0 rfl) ?_
    refine lv_aload_n hx hb dX11_furthest_16 rfl (lv_at hl 0 rfl) ?_
    refine g_640 cx hw ha0 k_f_X11_9 dX11_furthest_17 (fun v9 e9 h9 => ?_)
    refine o_cl hw (oRunV cx hA hw q_X11_roadOf k_m_X11_313 rfl ha0 (by decide) (As := [.ref v9]) (c_X11_roadOf a0 ha0 v9 h9) (by decide) rfl hl.1 rfl (Nat.le_of_ble_eq_true rfl) dX11_furthest_20 (by decide)) (fun v11 σ10 H locs hp hw => ?_)
    have p11_0 := hp
    rw [p11_0] at hw
    refine lv_lstore_n (lv' := [(2, .long v11), (0, .ref a0), (1, .int a1)]) hx hb dX11_furthest_23 rfl hl (by decide) rfl (fun ls hl => ?_)
    refine lv_lload_n hx hb dX11_furthest_24 rfl (lv_at hl 0 rfl) ?_
    refine lv_iload_n hx hb dX11_furthest_25 rfl (lv_at hl 2 rfl) ?_
    refine o_ci hw (oRunS cx hA hw q_X11_has k_m_X11_215 (As := [.long v11, .int a1]) (c_X11_has v11 a1) (by decide) rfl hl.1 rfl (Nat.le_of_ble_eq_true rfl) dX11_furthest_26 (by decide)) (fun v13 σ12 H locs hp hw => ?_)
    obtain ⟨p13_0, p13_1, p13_2⟩ := hp
    rw [p13_0] at hw
    refine lv_if_ne (tgt := 35) hx hb dX11_furthest_29 (by decide) (fun c14 => ?_) (fun c14 => ?_)
    · --
      have i15 : Iv v13 1 1 := iv_ne1 c14 p13_1 (⟨by decide, by decide⟩ : Iv 0 0 0) (by decide)
      refine lv_aload_n hx hb dX11_furthest_35 rfl (lv_at hl 1 rfl) ?_
      refine lv_iload_n hx hb dX11_furthest_36 rfl (lv_at hl 2 rfl) ?_
      refine lv_lload_n hx hb dX11_furthest_37 rfl (lv_at hl 0 rfl) ?_
      refine o_cv hw (oRunV cx hA hw q_X11_findFar k_m_X11_330 rfl ha0 (by decide) (As := [.int a1, .long v11]) (c_X11_findFar a0 ha0 a1 v11) (by decide) rfl hl.1 rfl (Nat.le_of_ble_eq_true rfl) dX11_furthest_38 (by decide)) (fun σ16 H locs hp hw => ?_)
      obtain ⟨p17_0, p17_1⟩ := hp
      have fr := oFr_tr fr p17_0 (by decide)
      refine lv_iload_n hx hb dX11_furthest_41 rfl (lv_at hl 2 rfl) ?_
      refine lv_istore (lv' := [(4, .int a1), (2, .long v11), (0, .ref a0), (1, .int a1)]) hx hb dX11_furthest_42 hl (by decide) rfl (fun ls hl => ?_)
      refine lv_iconst (v := 0) hx hb dX11_furthest_44 (by decide) ?_
      refine lv_istore (lv' := [(5, .int 0), (4, .int a1), (2, .long v11), (0, .ref a0), (1, .int a1)]) hx hb dX11_furthest_45 hl (by decide) rfl (fun ls hl => ?_)
      have J_47 : ∀ n47 : Nat, ∀ (j47_4 : Int32) (ij47_4 : Iv j47_4 0 63) (j47_5 : Int32) (ij47_5 : Iv j47_5 0 64), ∀ (H : Heap) (locs : List Loc), oI A L τ cy D s.heap σ16 H locs → (64 - j47_5.toInt).toNat < n47 → ∀ (ls : Array Slot), lv_has ls 6 [(0, .ref a0), (1, .int a1), (2, .long v11), (4, .int j47_4), (5, .int j47_5)] → W p l e ({ frames := 3, cells := 0, slots := 0, locals := 67 } : Room) s m args below meth c H locs 0 0 Q (F0 m 47 ls []) := by
        intro n47
        induction n47 with
        | zero => intro j47_4 ij47_4 j47_5 ij47_5 H locs hw  hn_47   ls hl; exact absurd hn_47 (Nat.not_lt_zero _)
        | succ n47 ih_47 =>
          intro j47_4 ij47_4 j47_5 ij47_5 H locs hw  hn_47   ls hl
          refine lv_iload hx hb dX11_furthest_47 (lv_at hl 4 rfl) ?_
          refine lv_bipush (v := 64) hx hb dX11_furthest_49 (by decide) ?_
          refine lv_icmp_ge (tgt := 118) hx hb dX11_furthest_51 (by decide) (fun c18 => ?_) (fun c18 => ?_)
          · --
            have i19 : Iv j47_5 64 64 := iv_le2 c18 (⟨by decide, by decide⟩ : Iv 64 64 64) ij47_5 (by decide)
            refine lv_aload_n hx hb dX11_furthest_118 rfl (lv_at hl 0 rfl) ?_
            refine lv_iconst (v := 0) hx hb dX11_furthest_119 (by decide) ?_
            refine p_657 cx hw ha0 (iv_w (⟨by decide, by decide⟩ : Iv 0 0 0) (by decide)) k_f_X11_92 dX11_furthest_120 (fun σ20 H locs eσ20 hw => ?_)
            have fr := oFr_i fr eσ20 (by decide)
            refine lv_aload_n hx hb dX11_furthest_123 rfl (lv_at hl 0 rfl) ?_
            refine lv_aload_n hx hb dX11_furthest_124 rfl (lv_at hl 0 rfl) ?_
            refine g_676 cx hw ha0 k_f_X11_64 dX11_furthest_125 (fun v21 e21 h21 => ?_)
            refine lv_iload hx hb dX11_furthest_128 (lv_at hl 3 rfl) ?_
            refine o_iald cx hw h21 (by decide) rfl (iv_in ij47_4 (by decide)) dX11_furthest_130 (fun v22 e22 b22 => ?_)
            refine lv_i2l hx hb dX11_furthest_131 rfl ?_
            refine lv_topl (fun v23 e23 => ?_)
            refine o_cv hw (oRunV cx hA hw q_X11_tell k_m_X11_278 rfl ha0 (by decide) (As := [.long v23]) (c_X11_tell a0 ha0 v23 (kn_iv ((kp_s eσ20)) (iv_w (⟨by decide, by decide⟩ : Iv 0 0 0) (by decide)))) (by decide) rfl hl.1 rfl (Nat.le_of_ble_eq_true rfl) dX11_furthest_132 (by decide)) (fun σ24 H locs hp hw => ?_)
            obtain ⟨p25_0, p25_1⟩ := hp
            have fr := oFr_tr fr p25_0 (by decide)
            have x27 : (σ24.1 657 a0).toInt = (0 : Int32).toInt + 1 := fin_tr p25_1 ((kp_s eσ20))
            have i26 : Iv (σ24.1 657 a0) 1 1 := iv_fin x27 (⟨by decide, by decide⟩ : Iv 0 0 0) (by decide)
            refine lv_iload hx hb dX11_furthest_135 (lv_at hl 3 rfl) ?_
            rw [← hQ]
            exact o_ri cx rx hw dX11_furthest_137 ⟨fr, (iv_w ij47_4 (by decide))⟩
          · --
            have i28 : Iv j47_5 0 63 := iv_lt1 (iv_nle c18) ij47_5 (⟨by decide, by decide⟩ : Iv 64 64 64) (by decide)
            refine lv_aload_n hx hb dX11_furthest_54 rfl (lv_at hl 0 rfl) ?_
            refine g_676 cx hw ha0 k_f_X11_64 dX11_furthest_55 (fun v29 e29 h29 => ?_)
            refine lv_iload hx hb dX11_furthest_58 (lv_at hl 4 rfl) ?_
            refine o_iald cx hw h29 (by decide) rfl (iv_in i28 (by decide)) dX11_furthest_60 (fun v30 e30 b30 => ?_)
            refine lv_ldcw (v := 100000000) hx hb hown (hts _ k_k_X11_329) dX11_furthest_61 ?_
            have J_112 : ∀ (j112_4 : Int32) (ij112_4 : Iv j112_4 0 63), ∀ (H : Heap) (locs : List Loc), oI A L τ cy D s.heap σ16 H locs → ∀ (ls : Array Slot), lv_has ls 6 [(0, .ref a0), (1, .int a1), (2, .long v11), (4, .int j112_4), (5, .int j47_5)] → W p l e ({ frames := 3, cells := 0, slots := 0, locals := 67 } : Room) s m args below meth c H locs 0 0 Q (F0 m 112 ls []) := by
              intro j112_4 ij112_4 H locs hw     ls hl
              obtain ⟨v31, e31⟩ : ∃ y : Int32, y = j47_5 + 1 := ⟨_, rfl⟩
              have i31 : Iv v31 1 64 := iv_add e31 i28 (⟨by decide, by decide⟩ : Iv 1 1 1) (by decide)
              have x31 : v31.toInt = j47_5.toInt + 1 := ex_add e31 i28 (⟨by decide, by decide⟩ : Iv 1 1 1) (by decide)
              refine lv_iinc (v := v31) (lv' := [(5, .int v31), (0, .ref a0), (1, .int a1), (2, .long v11), (4, .int j112_4)]) hx hb dX11_furthest_112 hl (k := 4) rfl (by rw [e31]; rfl) (by decide) rfl (fun ls hl => ?_)
              refine lv_goto (tgt := 47) hx hb dX11_furthest_115 (by decide) ?_
              exact ih_47 j112_4 ij112_4 v31 (iv_w i31 (by decide)) _ _ hw (ms_up x31 (by decide) (iv_w (a' := 0) (b' := 64) i31 (by decide)).2 hn_47) _ (lv_sub hl [1, 2, 3, 4, 0] rfl)
            refine lv_icmp_eq (tgt := 112) hx hb dX11_furthest_64 (by decide) (fun c32 => ?_) (fun c32 => ?_)
            · --
              have i33 : Iv v30 100000000 100000000 := iv_eq1 c32 (iv_top v30) (⟨by decide, by decide⟩ : Iv 100000000 100000000 100000000) (by decide)
              exact J_112 j47_4 ij47_4 _ _ hw _ (lv_sub hl [0, 1, 2, 3, 4] rfl)
            · --
              refine lv_aload_n hx hb dX11_furthest_67 rfl (lv_at hl 0 rfl) ?_
              refine g_676 cx hw ha0 k_f_X11_64 dX11_furthest_68 (fun v34 e34 h34 => ?_)
              rw [show v34 = v29 from Option.some.inj (e34.symm.trans (e29))]
              refine lv_iload hx hb dX11_furthest_71 (lv_at hl 4 rfl) ?_
              refine o_iald cx hw h29 (by decide) rfl (iv_in i28 (by decide)) dX11_furthest_73 (fun v35 e35 b35 => ?_)
              refine lv_aload_n hx hb dX11_furthest_74 rfl (lv_at hl 0 rfl) ?_
              refine g_676 cx hw ha0 k_f_X11_64 dX11_furthest_75 (fun v36 e36 h36 => ?_)
              rw [show v36 = v29 from Option.some.inj (e36.symm.trans (e29))]
              refine lv_iload hx hb dX11_furthest_78 (lv_at hl 3 rfl) ?_
              refine o_iald cx hw h29 (by decide) rfl (iv_in ij47_4 (by decide)) dX11_furthest_80 (fun v37 e37 b37 => ?_)
              have J_108 : ∀ (H : Heap) (locs : List Loc), oI A L τ cy D s.heap σ16 H locs → ∀ (ls : Array Slot), lv_has ls 6 [(0, .ref a0), (1, .int a1), (2, .long v11), (4, .int j47_4), (5, .int j47_5)] → W p l e ({ frames := 3, cells := 0, slots := 0, locals := 67 } : Room) s m args below meth c H locs 0 0 Q (F0 m 108 ls []) := by
                intro  H locs hw     ls hl
                refine lv_iload hx hb dX11_furthest_108 (lv_at hl 4 rfl) ?_
                refine lv_istore (lv' := [(4, .int j47_5), (0, .ref a0), (1, .int a1), (2, .long v11), (5, .int j47_5)]) hx hb dX11_furthest_110 hl (by decide) rfl (fun ls hl => ?_)
                exact J_112 j47_5 i28 _ _ hw _ (lv_sub hl [1, 2, 3, 0, 4] rfl)
              refine lv_icmp_gt (tgt := 108) hx hb dX11_furthest_81 (by decide) (fun c38 => ?_) (fun c38 => ?_)
              · --
                have i39 : Iv v37 (-2147483648) 2147483646 := iv_lt1 c38 (iv_top v37) (iv_top v35) (by decide)
                have i40 : Iv v35 (-2147483647) 2147483647 := iv_lt2 c38 (iv_top v37) (iv_top v35) (by decide)
                exact J_108 _ _ hw _ (lv_sub hl [0, 1, 2, 3, 4] rfl)
              · --
                refine lv_aload_n hx hb dX11_furthest_84 rfl (lv_at hl 0 rfl) ?_
                refine g_676 cx hw ha0 k_f_X11_64 dX11_furthest_85 (fun v41 e41 h41 => ?_)
                rw [show v41 = v29 from Option.some.inj (e41.symm.trans (e29))]
                refine lv_iload hx hb dX11_furthest_88 (lv_at hl 4 rfl) ?_
                refine o_iald cx hw h29 (by decide) rfl (iv_in i28 (by decide)) dX11_furthest_90 (fun v42 e42 b42 => ?_)
                refine lv_aload_n hx hb dX11_furthest_91 rfl (lv_at hl 0 rfl) ?_
                refine g_676 cx hw ha0 k_f_X11_64 dX11_furthest_92 (fun v43 e43 h43 => ?_)
                rw [show v43 = v29 from Option.some.inj (e43.symm.trans (e29))]
                refine lv_iload hx hb dX11_furthest_95 (lv_at hl 3 rfl) ?_
                refine o_iald cx hw h29 (by decide) rfl (iv_in ij47_4 (by decide)) dX11_furthest_97 (fun v44 e44 b44 => ?_)
                refine lv_icmp_ne (tgt := 112) hx hb dX11_furthest_98 (by decide) (fun c45 => ?_) (fun c45 => ?_)
                · --
                  exact J_112 j47_4 ij47_4 _ _ hw _ (lv_sub hl [0, 1, 2, 3, 4] rfl)
                · --
                  refine lv_iload hx hb dX11_furthest_101 (lv_at hl 4 rfl) ?_
                  refine lv_iload hx hb dX11_furthest_103 (lv_at hl 3 rfl) ?_
                  refine lv_icmp_ge (tgt := 112) hx hb dX11_furthest_105 (by decide) (fun c46 => ?_) (fun c46 => ?_)
                  · --
                    exact J_112 j47_4 ij47_4 _ _ hw _ (lv_sub hl [0, 1, 2, 3, 4] rfl)
                  · --
                    have i47 : Iv j47_5 0 62 := iv_lt1 (iv_nle c46) i28 ij47_4 (by decide)
                    have i48 : Iv j47_4 1 63 := iv_lt2 (iv_nle c46) i28 ij47_4 (by decide)
                    exact J_108 _ _ hw _ (lv_sub hl [0, 1, 2, 3, 4] rfl)
      exact J_47 _ a1 i8 0 (iv_w (⟨by decide, by decide⟩ : Iv 0 0 0) (by decide)) _ _ hw (Nat.lt_succ_self _) _ (lv_sub hl [3, 4, 2, 1, 0] rfl)
    · --
      have i49 : Iv v13 0 0 := iv_eq1 c14 p13_1 (⟨by decide, by decide⟩ : Iv 0 0 0) (by decide)
      refine lv_bipush (v := (-2)) hx hb dX11_furthest_32 (by decide) ?_
      rw [← hQ]
      exact o_ri cx rx hw dX11_furthest_34 ⟨fr, (iv_w (⟨by decide, by decide⟩ : Iv (-2) (-2) (-2)) (by decide))⟩
  · --
    have i50 : Iv v5 0 0 := iv_eq1 c6 p5_1 (⟨by decide, by decide⟩ : Iv 0 0 0) (by decide)
    refine lv_iconst (v := (-1)) hx hb dX11_furthest_13 (by decide) ?_
    rw [← hQ]
    exact o_ri cx rx hw dX11_furthest_14 ⟨fr, (iv_w (⟨by decide, by decide⟩ : Iv (-1) (-1) (-1)) (by decide))⟩
abbrev fs_X11_where : List Nat := [657, 658, 659, 660, 661, 662, 663, 669]
abbrev ts_X11_where : List Nat := [48, 52, 55]
set_option maxHeartbeats 4000000 in
set_option maxRecDepth 100000 in
theorem c_X11_where (a0 : Nat) (ha0 : oA L τ a0 10) (a1 : Int32) (a2 : Int32) : oMet l A L τ cy D K yX11_where cX11_where 3 (some .int) 342 8595 [.ref a0, .int a1, .int a2] σ (va_Qi (fun r σ1 => oFr τ fs_X11_where ts_X11_where σ σ1 ∧ Iv r (-1) 63) (oPo A L τ cy D) A) := by
  refine oMk (by decide) (Nat.le_of_ble_eq_true rfl) rfl ?_
  intro p e s m args below meth c ls cx rx hA hw hl
  generalize hQ : MQ below _ args s 0 0 A = Q
  have hx := cx.1.1
  have hb := cx.1.2.1
  have hml := cx.1.2.2.1
  have hown := cx.1.2.2.2.1
  have hts := cx.1.2.2.2.2
  have hl : lv_has ls 3 [(0, .ref a0), (1, .int a1), (2, .int a2)] := hl
  have fr : oFr τ fs_X11_where ts_X11_where σ σ := oFr_rf
  refine lv_aload_n hx hb dX11_where_0 rfl (lv_at hl 0 rfl) ?_
  refine lv_iconst (v := 0) hx hb dX11_where_1 (by decide) ?_
  refine p_658 cx hw ha0 k_f_X11_89 dX11_where_2 (fun σ1 H locs eσ1 hw => ?_)
  have fr := oFr_i fr eσ1 (by decide)
  refine lv_aload_n hx hb dX11_where_5 rfl (lv_at hl 0 rfl) ?_
  refine lv_iload_n hx hb dX11_where_6 rfl (lv_at hl 1 rfl) ?_
  refine o_ci hw (oRunV cx hA hw q_X11_isHerd k_m_X11_237 rfl ha0 (by decide) (As := [.int a1]) (c_X11_isHerd a0 ha0 a1) (by decide) rfl hl.1 rfl (Nat.le_of_ble_eq_true rfl) dX11_where_7 (by decide)) (fun v3 σ2 H locs hp hw => ?_)
  obtain ⟨p3_0, p3_1, p3_2⟩ := hp
  rw [p3_0] at hw
  refine lv_if_eq (tgt := 20) hx hb dX11_where_10 (by decide) (fun c4 => ?_) (fun c4 => ?_)
  · --
    have i5 : Iv v3 0 0 := iv_eq1 c4 p3_1 (⟨by decide, by decide⟩ : Iv 0 0 0) (by decide)
    refine lv_iconst (v := (-1)) hx hb dX11_where_20 (by decide) ?_
    rw [← hQ]
    exact o_ri cx rx hw dX11_where_21 ⟨fr, (iv_w (⟨by decide, by decide⟩ : Iv (-1) (-1) (-1)) (by decide))⟩
  · --
    have i6 : Iv v3 1 1 := iv_ne1 c4 p3_1 (⟨by decide, by decide⟩ : Iv 0 0 0) (by decide)
    have i7 : Iv a1 0 5 := p3_2 c4
    refine lv_iload_n hx hb dX11_where_13 rfl (lv_at hl 2 rfl) ?_
    refine o_ci hw (oRunS cx hA hw q_X11_isLook k_m_X11_337 (As := [.int a2]) (c_X11_isLook a2) (by decide) rfl hl.1 rfl (Nat.le_of_ble_eq_true rfl) dX11_where_14 (by decide)) (fun v9 σ8 H locs hp hw => ?_)
    obtain ⟨p9_0, p9_1⟩ := hp
    rw [p9_0] at hw
    refine lv_if_ne (tgt := 22) hx hb dX11_where_17 (by decide) (fun c10 => ?_) (fun c10 => ?_)
    · --
      have i11 : Iv v9 1 1 := iv_ne1 c10 p9_1 (⟨by decide, by decide⟩ : Iv 0 0 0) (by decide)
      refine lv_aload_n hx hb dX11_where_22 rfl (lv_at hl 0 rfl) ?_
      refine lv_iload_n hx hb dX11_where_23 rfl (lv_at hl 2 rfl) ?_
      refine o_cv hw (oRunV cx hA hw q_X11_goThen k_m_X11_340 rfl ha0 (by decide) (As := [.int a2]) (c_X11_goThen a0 ha0 a2) (by decide) rfl hl.1 rfl (Nat.le_of_ble_eq_true rfl) dX11_where_24 (by decide)) (fun σ12 H locs hp hw => ?_)
      have p13_0 := hp
      have fr := oFr_tr fr p13_0 (by decide)
      refine lv_aload_n hx hb dX11_where_27 rfl (lv_at hl 0 rfl) ?_
      refine lv_iconst (v := 0) hx hb dX11_where_28 (by decide) ?_
      refine p_657 cx hw ha0 (iv_w (⟨by decide, by decide⟩ : Iv 0 0 0) (by decide)) k_f_X11_92 dX11_where_29 (fun σ14 H locs eσ14 hw => ?_)
      have fr := oFr_i fr eσ14 (by decide)
      refine lv_aload_n hx hb dX11_where_32 rfl (lv_at hl 0 rfl) ?_
      refine lv_aload_n hx hb dX11_where_33 rfl (lv_at hl 0 rfl) ?_
      refine g_677 cx hw ha0 k_f_X11_67 dX11_where_34 (fun v15 e15 h15 => ?_)
      refine lv_sipush (v := 326) hx hb dX11_where_37 (by decide) ?_
      refine lv_iload_n hx hb dX11_where_40 rfl (lv_at hl 1 rfl) ?_
      refine lv_iadd hx hb dX11_where_41 ?_
      refine lv_topi (fun v16 e16 => ?_)
      have i16 : Iv v16 326 331 := iv_add e16 (⟨by decide, by decide⟩ : Iv 326 326 326) i7 (by decide)
      have x16 : v16.toInt = a1.toInt + 326 := (ex_add e16 (⟨by decide, by decide⟩ : Iv 326 326 326) i7 (by decide)).trans (Int.add_comm _ _)
      refine o_iald cx hw h15 (by decide) rfl (iv_in i16 (by decide)) dX11_where_42 (fun v17 e17 b17 => ?_)
      refine lv_i2l hx hb dX11_where_43 rfl ?_
      refine lv_topl (fun v18 e18 => ?_)
      refine o_cv hw (oRunV cx hA hw q_X11_tell k_m_X11_278 rfl ha0 (by decide) (As := [.long v18]) (c_X11_tell a0 ha0 v18 (kn_iv ((kp_s eσ14)) (iv_w (⟨by decide, by decide⟩ : Iv 0 0 0) (by decide)))) (by decide) rfl hl.1 rfl (Nat.le_of_ble_eq_true rfl) dX11_where_44 (by decide)) (fun σ19 H locs hp hw => ?_)
      obtain ⟨p20_0, p20_1⟩ := hp
      have fr := oFr_tr fr p20_0 (by decide)
      have x22 : (σ19.1 657 a0).toInt = (0 : Int32).toInt + 1 := fin_tr p20_1 ((kp_s eσ14))
      have i21 : Iv (σ19.1 657 a0) 1 1 := iv_fin x22 (⟨by decide, by decide⟩ : Iv 0 0 0) (by decide)
      refine lv_aload_n hx hb dX11_where_47 rfl (lv_at hl 0 rfl) ?_
      refine lv_aload_n hx hb dX11_where_48 rfl (lv_at hl 0 rfl) ?_
      refine lv_aload_n hx hb dX11_where_49 rfl (lv_at hl 0 rfl) ?_
      refine g_677 cx hw ha0 k_f_X11_67 dX11_where_50 (fun v23 e23 h23 => ?_)
      rw [show v23 = v15 from Option.some.inj (e23.symm.trans (((kr_c p20_0 (by decide)).trans e15)))]
      refine o_cl hw (oRunV cx hA hw q_X11_roadOf k_m_X11_313 rfl ha0 (by decide) (As := [.ref v15]) (c_X11_roadOf a0 ha0 v15 h15) (by decide) rfl hl.1 rfl (Nat.le_of_ble_eq_true rfl) dX11_where_53 (by decide)) (fun v25 σ24 H locs hp hw => ?_)
      have p25_0 := hp
      rw [p25_0] at hw
      refine o_ci hw (oRunS cx hA hw q_J13_bitCount_95d88 k_m_X11_321 (As := [.long v25]) (c_J13_bitCount_95d88 v25) (by decide) rfl hl.1 rfl (Nat.le_of_ble_eq_true rfl) dX11_where_56 (by decide)) (fun v27 σ26 H locs hp hw => ?_)
      obtain ⟨p27_0, p27_1⟩ := hp
      rw [p27_0] at hw
      refine lv_i2l hx hb dX11_where_59 rfl ?_
      refine lv_topl (fun v28 e28 => ?_)
      refine o_cv hw (oRunV cx hA hw q_X11_tell k_m_X11_278 rfl ha0 (by decide) (As := [.long v28]) (c_X11_tell a0 ha0 v28 (kn_iv (rfl) (iv_w i21 (by decide)))) (by decide) rfl hl.1 rfl (Nat.le_of_ble_eq_true rfl) dX11_where_60 (by decide)) (fun σ29 H locs hp hw => ?_)
      obtain ⟨p30_0, p30_1⟩ := hp
      have fr := oFr_tr fr p30_0 (by decide)
      have x32 : (σ29.1 657 a0).toInt = (σ19.1 657 a0).toInt + 1 := fin_tr p30_1 (rfl)
      have i31 : Iv (σ29.1 657 a0) 2 2 := iv_fin x32 i21 (by decide)
      refine lv_aload_n hx hb dX11_where_63 rfl (lv_at hl 0 rfl) ?_
      refine g_677 cx hw ha0 k_f_X11_67 dX11_where_64 (fun v33 e33 h33 => ?_)
      rw [show v33 = v15 from Option.some.inj (e33.symm.trans (((kr_c p30_0 (by decide)).trans ((kr_c p20_0 (by decide)).trans e15))))]
      refine lv_sipush (v := 320) hx hb dX11_where_67 (by decide) ?_
      refine lv_iload_n hx hb dX11_where_70 rfl (lv_at hl 1 rfl) ?_
      refine lv_iadd hx hb dX11_where_71 ?_
      refine lv_topi (fun v34 e34 => ?_)
      have i34 : Iv v34 320 325 := iv_add e34 (⟨by decide, by decide⟩ : Iv 320 320 320) i7 (by decide)
      have x34 : v34.toInt = a1.toInt + 320 := (ex_add e34 (⟨by decide, by decide⟩ : Iv 320 320 320) i7 (by decide)).trans (Int.add_comm _ _)
      refine o_iald cx hw h15 (by decide) rfl (iv_in i34 (by decide)) dX11_where_72 (fun v35 e35 b35 => ?_)
      have i35 : Iv v35 0 63 := rb_now b35 i34 (by decide)
      rw [← hQ]
      exact o_ri cx rx hw dX11_where_73 ⟨fr, (iv_w i35 (by decide))⟩
    · --
      have i36 : Iv v9 0 0 := iv_eq1 c10 p9_1 (⟨by decide, by decide⟩ : Iv 0 0 0) (by decide)
      refine lv_iconst (v := (-1)) hx hb dX11_where_20 (by decide) ?_
      rw [← hQ]
      exact o_ri cx rx hw dX11_where_21 ⟨fr, (iv_w (⟨by decide, by decide⟩ : Iv (-1) (-1) (-1)) (by decide))⟩
abbrev fs_X11_roadin : List Nat := [657, 658, 659, 660, 661, 662, 663, 669]
abbrev ts_X11_roadin : List Nat := [48, 52, 55]
set_option maxHeartbeats 4000000 in
set_option maxRecDepth 100000 in
theorem c_X11_roadin (a0 : Nat) (ha0 : oA L τ a0 10) (a1 : Int32) : oMet l A L τ cy D K yX11_roadin cX11_roadin 4 (some .int) 342 8595 [.ref a0, .int a1] σ (va_Qi (fun r σ1 => oFr τ fs_X11_roadin ts_X11_roadin σ σ1 ∧ Iv r (-1) 127) (oPo A L τ cy D) A) := by
  refine oMk (by decide) (Nat.le_of_ble_eq_true rfl) rfl ?_
  intro p e s m args below meth c ls cx rx hA hw hl
  generalize hQ : MQ below _ args s 0 0 A = Q
  have hx := cx.1.1
  have hb := cx.1.2.1
  have hml := cx.1.2.2.1
  have hown := cx.1.2.2.2.1
  have hts := cx.1.2.2.2.2
  have hl : lv_has ls 4 [(0, .ref a0), (1, .int a1)] := hl
  have fr : oFr τ fs_X11_roadin ts_X11_roadin σ σ := oFr_rf
  refine lv_aload_n hx hb dX11_roadin_0 rfl (lv_at hl 0 rfl) ?_
  refine lv_iconst (v := 0) hx hb dX11_roadin_1 (by decide) ?_
  refine p_658 cx hw ha0 k_f_X11_89 dX11_roadin_2 (fun σ1 H locs eσ1 hw => ?_)
  have fr := oFr_i fr eσ1 (by decide)
  refine lv_iload_n hx hb dX11_roadin_5 rfl (lv_at hl 1 rfl) ?_
  refine o_ci hw (oRunS cx hA hw q_X11_isLook k_m_X11_337 (As := [.int a1]) (c_X11_isLook a1) (by decide) rfl hl.1 rfl (Nat.le_of_ble_eq_true rfl) dX11_roadin_6 (by decide)) (fun v3 σ2 H locs hp hw => ?_)
  obtain ⟨p3_0, p3_1⟩ := hp
  rw [p3_0] at hw
  refine lv_if_ne (tgt := 14) hx hb dX11_roadin_9 (by decide) (fun c4 => ?_) (fun c4 => ?_)
  · --
    have i5 : Iv v3 1 1 := iv_ne1 c4 p3_1 (⟨by decide, by decide⟩ : Iv 0 0 0) (by decide)
    refine lv_aload_n hx hb dX11_roadin_14 rfl (lv_at hl 0 rfl) ?_
    refine lv_iload_n hx hb dX11_roadin_15 rfl (lv_at hl 1 rfl) ?_
    refine o_cv hw (oRunV cx hA hw q_X11_goThen k_m_X11_340 rfl ha0 (by decide) (As := [.int a1]) (c_X11_goThen a0 ha0 a1) (by decide) rfl hl.1 rfl (Nat.le_of_ble_eq_true rfl) dX11_roadin_16 (by decide)) (fun σ6 H locs hp hw => ?_)
    have p7_0 := hp
    have fr := oFr_tr fr p7_0 (by decide)
    refine lv_aload_n hx hb dX11_roadin_19 rfl (lv_at hl 0 rfl) ?_
    refine lv_aload_n hx hb dX11_roadin_20 rfl (lv_at hl 0 rfl) ?_
    refine g_677 cx hw ha0 k_f_X11_67 dX11_roadin_21 (fun v8 e8 h8 => ?_)
    refine o_cl hw (oRunV cx hA hw q_X11_roadOf k_m_X11_313 rfl ha0 (by decide) (As := [.ref v8]) (c_X11_roadOf a0 ha0 v8 h8) (by decide) rfl hl.1 rfl (Nat.le_of_ble_eq_true rfl) dX11_roadin_24 (by decide)) (fun v10 σ9 H locs hp hw => ?_)
    have p10_0 := hp
    rw [p10_0] at hw
    refine lv_lstore_n (lv' := [(2, .long v10), (0, .ref a0), (1, .int a1)]) hx hb dX11_roadin_27 rfl hl (by decide) rfl (fun ls hl => ?_)
    refine lv_aload_n hx hb dX11_roadin_28 rfl (lv_at hl 1 rfl) ?_
    refine lv_iconst (v := 0) hx hb dX11_roadin_29 (by decide) ?_
    refine p_657 cx hw ha0 (iv_w (⟨by decide, by decide⟩ : Iv 0 0 0) (by decide)) k_f_X11_92 dX11_roadin_30 (fun σ11 H locs eσ11 hw => ?_)
    have fr := oFr_i fr eσ11 (by decide)
    refine lv_aload_n hx hb dX11_roadin_33 rfl (lv_at hl 1 rfl) ?_
    refine lv_lload_n hx hb dX11_roadin_34 rfl (lv_at hl 0 rfl) ?_
    refine o_cv hw (oRunV cx hA hw q_X11_tell k_m_X11_278 rfl ha0 (by decide) (As := [.long v10]) (c_X11_tell a0 ha0 v10 (kn_iv ((kp_s eσ11)) (iv_w (⟨by decide, by decide⟩ : Iv 0 0 0) (by decide)))) (by decide) rfl hl.1 rfl (Nat.le_of_ble_eq_true rfl) dX11_roadin_35 (by decide)) (fun σ12 H locs hp hw => ?_)
    obtain ⟨p13_0, p13_1⟩ := hp
    have fr := oFr_tr fr p13_0 (by decide)
    have x15 : (σ12.1 657 a0).toInt = (0 : Int32).toInt + 1 := fin_tr p13_1 ((kp_s eσ11))
    have i14 : Iv (σ12.1 657 a0) 1 1 := iv_fin x15 (⟨by decide, by decide⟩ : Iv 0 0 0) (by decide)
    refine lv_aload_n hx hb dX11_roadin_38 rfl (lv_at hl 1 rfl) ?_
    refine lv_aload_n hx hb dX11_roadin_39 rfl (lv_at hl 1 rfl) ?_
    refine lv_aload_n hx hb dX11_roadin_40 rfl (lv_at hl 1 rfl) ?_
    refine g_640 cx hw ha0 k_f_X11_9 dX11_roadin_41 (fun v16 e16 h16 => ?_)
    refine o_cl hw (oRunV cx hA hw q_X11_roadOf k_m_X11_313 rfl ha0 (by decide) (As := [.ref v16]) (c_X11_roadOf a0 ha0 v16 h16) (by decide) rfl hl.1 rfl (Nat.le_of_ble_eq_true rfl) dX11_roadin_44 (by decide)) (fun v18 σ17 H locs hp hw => ?_)
    have p18_0 := hp
    rw [p18_0] at hw
    refine lv_lload_n hx hb dX11_roadin_47 rfl (lv_at hl 0 rfl) ?_
    refine lv_ldc2 (v := (-1)) hx hb hown (hts _ k_k_X11_327) dX11_roadin_48 ?_
    refine lv_lxor hx hb dX11_roadin_51 ?_
    refine lv_topl (fun v19 e19 => ?_)
    refine lv_land hx hb dX11_roadin_52 ?_
    refine lv_topl (fun v20 e20 => ?_)
    refine o_cv hw (oRunV cx hA hw q_X11_tell k_m_X11_278 rfl ha0 (by decide) (As := [.long v20]) (c_X11_tell a0 ha0 v20 (kn_iv (rfl) (iv_w i14 (by decide)))) (by decide) rfl hl.1 rfl (Nat.le_of_ble_eq_true rfl) dX11_roadin_53 (by decide)) (fun σ21 H locs hp hw => ?_)
    obtain ⟨p22_0, p22_1⟩ := hp
    have fr := oFr_tr fr p22_0 (by decide)
    have x24 : (σ21.1 657 a0).toInt = (σ12.1 657 a0).toInt + 1 := fin_tr p22_1 (rfl)
    have i23 : Iv (σ21.1 657 a0) 2 2 := iv_fin x24 i14 (by decide)
    refine lv_lload_n hx hb dX11_roadin_56 rfl (lv_at hl 0 rfl) ?_
    refine o_ci hw (oRunS cx hA hw q_J13_bitCount_95d88 k_m_X11_321 (As := [.long v10]) (c_J13_bitCount_95d88 v10) (by decide) rfl hl.1 rfl (Nat.le_of_ble_eq_true rfl) dX11_roadin_57 (by decide)) (fun v26 σ25 H locs hp hw => ?_)
    obtain ⟨p26_0, p26_1⟩ := hp
    rw [p26_0] at hw
    rw [← hQ]
    exact o_ri cx rx hw dX11_roadin_60 ⟨fr, (iv_w p26_1 (by decide))⟩
  · --
    have i27 : Iv v3 0 0 := iv_eq1 c4 p3_1 (⟨by decide, by decide⟩ : Iv 0 0 0) (by decide)
    refine lv_iconst (v := (-1)) hx hb dX11_roadin_12 (by decide) ?_
    rw [← hQ]
    exact o_ri cx rx hw dX11_roadin_13 ⟨fr, (iv_w (⟨by decide, by decide⟩ : Iv (-1) (-1) (-1)) (by decide))⟩
abbrev fs_X11_market : List Nat := [657, 658, 659, 660, 661, 662, 663, 669]
abbrev ts_X11_market : List Nat := [48, 52, 55]
set_option maxHeartbeats 4000000 in
set_option maxRecDepth 100000 in
theorem c_X11_market (a0 : Nat) (ha0 : oA L τ a0 10) (a1 : Int32) (a2 : Int32) : oMet l A L τ cy D K yX11_market cX11_market 9 (some .int) 341 8573 [.ref a0, .int a1, .int a2] σ (va_Qi (fun r σ1 => oFr τ fs_X11_market ts_X11_market σ σ1) (oPo A L τ cy D) A) := by
  refine oMk (by decide) (Nat.le_of_ble_eq_true rfl) rfl ?_
  intro p e s m args below meth c ls cx rx hA hw hl
  generalize hQ : MQ below _ args s 0 0 A = Q
  have hx := cx.1.1
  have hb := cx.1.2.1
  have hml := cx.1.2.2.1
  have hown := cx.1.2.2.2.1
  have hts := cx.1.2.2.2.2
  have hl : lv_has ls 9 [(0, .ref a0), (1, .int a1), (2, .int a2)] := hl
  have fr : oFr τ fs_X11_market ts_X11_market σ σ := oFr_rf
  refine lv_aload_n hx hb dX11_market_0 rfl (lv_at hl 0 rfl) ?_
  refine lv_iconst (v := 0) hx hb dX11_market_1 (by decide) ?_
  refine p_658 cx hw ha0 k_f_X11_89 dX11_market_2 (fun σ1 H locs eσ1 hw => ?_)
  have fr := oFr_i fr eσ1 (by decide)
  refine lv_aload_n hx hb dX11_market_5 rfl (lv_at hl 0 rfl) ?_
  refine lv_iload_n hx hb dX11_market_6 rfl (lv_at hl 1 rfl) ?_
  have i2 : Iv (σ1.1 641 a0) 0 8 := o_fb (j := 641) hw ha0 rfl
  have i3 : Iv (σ1.1 642 a0) 0 8 := o_fb (j := 642) hw ha0 rfl
  refine o_ci hw (oRunV cx hA hw q_X11_isCell k_m_X11_157 rfl ha0 (by decide) (As := [.int a1]) (c_X11_isCell a0 ha0 a1) (by decide) rfl hl.1 rfl (Nat.le_of_ble_eq_true rfl) dX11_market_7 (by decide)) (fun v5 σ4 H locs hp hw => ?_)
  obtain ⟨p5_0, p5_1, p5_2, p5_3⟩ := hp
  rw [p5_0] at hw
  refine lv_if_eq (tgt := 23) hx hb dX11_market_10 (by decide) (fun c6 => ?_) (fun c6 => ?_)
  · --
    have i7 : Iv v5 0 0 := iv_eq1 c6 p5_1 (⟨by decide, by decide⟩ : Iv 0 0 0) (by decide)
    refine lv_iconst (v := (-1)) hx hb dX11_market_23 (by decide) ?_
    rw [← hQ]
    exact o_ri cx rx hw dX11_market_24 fr
  · --
    have i8 : Iv v5 1 1 := iv_ne1 c6 p5_1 (⟨by decide, by decide⟩ : Iv 0 0 0) (by decide)
    have i9 : Iv a1 0 63 := p5_2 c6
    refine lv_iload_n hx hb dX11_market_13 rfl (lv_at hl 2 rfl) ?_
    refine lv_iconst (v := 1) hx hb dX11_market_14 (by decide) ?_
    refine lv_bipush (v := 100) hx hb dX11_market_15 (by decide) ?_
    refine o_ci hw (oRunS cx hA hw q_X11_in k_m_X11_95 (As := [.int a2, .int 1, .int 100]) (c_X11_in a2 1 100) (by decide) rfl hl.1 rfl (Nat.le_of_ble_eq_true rfl) dX11_market_17 (by decide)) (fun v11 σ10 H locs hp hw => ?_)
    obtain ⟨p11_0, p11_1, p11_2, p11_3, p11_4, p11_5⟩ := hp
    rw [p11_0] at hw
    refine lv_if_ne (tgt := 25) hx hb dX11_market_20 (by decide) (fun c12 => ?_) (fun c12 => ?_)
    · --
      have i13 : Iv v11 1 1 := iv_ne1 c12 p11_1 (⟨by decide, by decide⟩ : Iv 0 0 0) (by decide)
      have i14 : Iv a2 1 100 := (fun h => iv_rel (p11_2 h) (⟨by decide, by decide⟩ : Iv 1 1 1) (⟨by decide, by decide⟩ : Iv 100 100 100)) c12
      refine lv_aload_n hx hb dX11_market_25 rfl (lv_at hl 0 rfl) ?_
      refine g_640 cx hw ha0 k_f_X11_9 dX11_market_26 (fun v15 e15 h15 => ?_)
      refine lv_aload_n hx hb dX11_market_29 rfl (lv_at hl 0 rfl) ?_
      refine g_677 cx hw ha0 k_f_X11_67 dX11_market_30 (fun v16 e16 h16 => ?_)
      refine lv_iconst (v := 0) hx hb dX11_market_33 (by decide) ?_
      refine o_cv hw (oRunS cx hA hw q_X11_lay k_m_X11_251 (As := [.ref v15, .ref v16, .int 0]) (c_X11_layN v15 h15 v16 h16 0 (iv_w (⟨by decide, by decide⟩ : Iv 0 0 0) (by decide))) (by decide) rfl hl.1 rfl (Nat.le_of_ble_eq_true rfl) dX11_market_34 (by decide)) (fun σ17 H locs hp hw => ?_)
      have p18_0 := hp
      have fr := oFr_tr fr p18_0 (by decide)
      refine lv_iconst (v := 0) hx hb dX11_market_37 (by decide) ?_
      refine lv_istore_n (lv' := [(3, .int 0), (0, .ref a0), (1, .int a1), (2, .int a2)]) hx hb dX11_market_38 rfl hl (by decide) rfl (fun ls hl => ?_)
      refine lv_iconst (v := (-1)) hx hb dX11_market_39 (by decide) ?_
      refine lv_istore (lv' := [(4, .int (-1)), (3, .int 0), (0, .ref a0), (1, .int a1), (2, .int a2)]) hx hb dX11_market_40 hl (by decide) rfl (fun ls hl => ?_)
      refine lv_iconst (v := (-1)) hx hb dX11_market_42 (by decide) ?_
      refine lv_istore (lv' := [(5, .int (-1)), (4, .int (-1)), (3, .int 0), (0, .ref a0), (1, .int a1), (2, .int a2)]) hx hb dX11_market_43 hl (by decide) rfl (fun ls hl => ?_)
      refine lv_iconst (v := 0) hx hb dX11_market_45 (by decide) ?_
      refine lv_istore (lv' := [(6, .int 0), (5, .int (-1)), (4, .int (-1)), (3, .int 0), (0, .ref a0), (1, .int a1), (2, .int a2)]) hx hb dX11_market_46 hl (by decide) rfl (fun ls hl => ?_)
      refine lv_iconst (v := 0) hx hb dX11_market_48 (by decide) ?_
      refine lv_istore (lv' := [(7, .int 0), (6, .int 0), (5, .int (-1)), (4, .int (-1)), (3, .int 0), (0, .ref a0), (1, .int a1), (2, .int a2)]) hx hb dX11_market_49 hl (by decide) rfl (fun ls hl => ?_)
      refine lv_iconst (v := 1) hx hb dX11_market_51 (by decide) ?_
      refine lv_istore (lv' := [(8, .int 1), (7, .int 0), (6, .int 0), (5, .int (-1)), (4, .int (-1)), (3, .int 0), (0, .ref a0), (1, .int a1), (2, .int a2)]) hx hb dX11_market_52 hl (by decide) rfl (fun ls hl => ?_)
      have frE_54 := fr
      have J_54 : ∀ n54 : Nat, ∀ (j54_3 : Int32) (j54_4 : Int32) (ij54_4 : Iv j54_4 (-1) 100) (j54_5 : Int32) (ij54_5 : Iv j54_5 (-1) 100) (j54_6 : Int32) (ij54_6 : Iv j54_6 0 2147483647) (j54_7 : Int32) (j54_8 : Int32) (ij54_8 : Iv j54_8 1 101), ∀ (σ_54 : oSt) (H : Heap) (locs : List Loc), oI A L τ cy D s.heap σ_54 H locs → oFr τ fs_X11_market ts_X11_market σ σ_54 → (101 - j54_8.toInt).toNat < n54 → ∀ (ls : Array Slot), lv_has ls 9 [(0, .ref a0), (1, .int a1), (2, .int a2), (3, .int j54_3), (4, .int j54_4), (5, .int j54_5), (6, .int j54_6), (7, .int j54_7), (8, .int j54_8)] → W p l e ({ frames := 341, cells := 0, slots := 0, locals := 8573 } : Room) s m args below meth c H locs 0 0 Q (F0 m 54 ls []) := by
        intro n54
        induction n54 with
        | zero => intro j54_3 j54_4 ij54_4 j54_5 ij54_5 j54_6 ij54_6 j54_7 j54_8 ij54_8 σ_54 H locs hw fr   hn_54   ls hl; exact absurd hn_54 (Nat.not_lt_zero _)
        | succ n54 ih_54 =>
          intro j54_3 j54_4 ij54_4 j54_5 ij54_5 j54_6 ij54_6 j54_7 j54_8 ij54_8 σ_54 H locs hw fr   hn_54   ls hl
          have fr_54 := fr
          refine lv_iload hx hb dX11_market_54 (lv_at hl 8 rfl) ?_
          refine lv_iload_n hx hb dX11_market_56 rfl (lv_at hl 2 rfl) ?_
          refine lv_icmp_gt (tgt := 127) hx hb dX11_market_57 (by decide) (fun c19 => ?_) (fun c19 => ?_)
          · --
            have i20 : Iv j54_8 2 101 := iv_lt2 c19 i14 ij54_8 (by decide)
            refine lv_aload_n hx hb dX11_market_127 rfl (lv_at hl 0 rfl) ?_
            refine lv_iconst (v := 0) hx hb dX11_market_128 (by decide) ?_
            refine p_657 cx hw ha0 (iv_w (⟨by decide, by decide⟩ : Iv 0 0 0) (by decide)) k_f_X11_92 dX11_market_129 (fun σ21 H locs eσ21 hw => ?_)
            have fr := oFr_i fr eσ21 (by decide)
            refine lv_aload_n hx hb dX11_market_132 rfl (lv_at hl 0 rfl) ?_
            refine lv_iload hx hb dX11_market_133 (lv_at hl 4 rfl) ?_
            refine lv_i2l hx hb dX11_market_135 rfl ?_
            refine lv_topl (fun v22 e22 => ?_)
            refine o_cv hw (oRunV cx hA hw q_X11_tell k_m_X11_278 rfl ha0 (by decide) (As := [.long v22]) (c_X11_tell a0 ha0 v22 (kn_iv ((kp_s eσ21)) (iv_w (⟨by decide, by decide⟩ : Iv 0 0 0) (by decide)))) (by decide) rfl hl.1 rfl (Nat.le_of_ble_eq_true rfl) dX11_market_136 (by decide)) (fun σ23 H locs hp hw => ?_)
            obtain ⟨p24_0, p24_1⟩ := hp
            have fr := oFr_tr fr p24_0 (by decide)
            have x26 : (σ23.1 657 a0).toInt = (0 : Int32).toInt + 1 := fin_tr p24_1 ((kp_s eσ21))
            have i25 : Iv (σ23.1 657 a0) 1 1 := iv_fin x26 (⟨by decide, by decide⟩ : Iv 0 0 0) (by decide)
            refine lv_aload_n hx hb dX11_market_139 rfl (lv_at hl 0 rfl) ?_
            refine lv_iload hx hb dX11_market_140 (lv_at hl 5 rfl) ?_
            refine lv_i2l hx hb dX11_market_142 rfl ?_
            refine lv_topl (fun v27 e27 => ?_)
            refine o_cv hw (oRunV cx hA hw q_X11_tell k_m_X11_278 rfl ha0 (by decide) (As := [.long v27]) (c_X11_tell a0 ha0 v27 (kn_iv (rfl) (iv_w i25 (by decide)))) (by decide) rfl hl.1 rfl (Nat.le_of_ble_eq_true rfl) dX11_market_143 (by decide)) (fun σ28 H locs hp hw => ?_)
            obtain ⟨p29_0, p29_1⟩ := hp
            have fr := oFr_tr fr p29_0 (by decide)
            have x31 : (σ28.1 657 a0).toInt = (σ23.1 657 a0).toInt + 1 := fin_tr p29_1 (rfl)
            have i30 : Iv (σ28.1 657 a0) 2 2 := iv_fin x31 i25 (by decide)
            refine lv_aload_n hx hb dX11_market_146 rfl (lv_at hl 0 rfl) ?_
            refine lv_iload hx hb dX11_market_147 (lv_at hl 6 rfl) ?_
            refine lv_i2l hx hb dX11_market_149 rfl ?_
            refine lv_topl (fun v32 e32 => ?_)
            refine o_cv hw (oRunV cx hA hw q_X11_tell k_m_X11_278 rfl ha0 (by decide) (As := [.long v32]) (c_X11_tell a0 ha0 v32 (kn_iv (rfl) (iv_w i30 (by decide)))) (by decide) rfl hl.1 rfl (Nat.le_of_ble_eq_true rfl) dX11_market_150 (by decide)) (fun σ33 H locs hp hw => ?_)
            obtain ⟨p34_0, p34_1⟩ := hp
            have fr := oFr_tr fr p34_0 (by decide)
            have x36 : (σ33.1 657 a0).toInt = (σ28.1 657 a0).toInt + 1 := fin_tr p34_1 (rfl)
            have i35 : Iv (σ33.1 657 a0) 3 3 := iv_fin x36 i30 (by decide)
            have x37 : (σ33.1 657 a0).toInt = (σ23.1 657 a0).toInt + 2 := by rw [x36, x31]; omega
            refine lv_iload_n hx hb dX11_market_153 rfl (lv_at hl 3 rfl) ?_
            rw [← hQ]
            exact o_ri cx rx hw dX11_market_154 fr
          · --
            have i38 : Iv j54_8 1 100 := iv_le1 (iv_nlt c19) ij54_8 i14 (by decide)
            refine lv_aload_n hx hb dX11_market_60 rfl (lv_at hl 0 rfl) ?_
            refine lv_aload_n hx hb dX11_market_61 rfl (lv_at hl 0 rfl) ?_
            refine g_677 cx hw ha0 k_f_X11_67 dX11_market_62 (fun v39 e39 h39 => ?_)
            rw [show v39 = v16 from Option.some.inj (e39.symm.trans (((kr_c fr_54 (by decide)).trans ((kr_c frE_54 (by decide)).symm.trans (((kr_c p18_0 (by decide)).trans e16))))))]
            refine o_ci hw (oRunV cx hA hw q_X11_goHour k_m_X11_285 rfl ha0 (by decide) (As := [.ref v16]) (c_X11_goHour a0 ha0 v16 h16) (by decide) rfl hl.1 rfl (Nat.le_of_ble_eq_true rfl) dX11_market_65 (by decide)) (fun v41 σ40 H locs hp hw => ?_)
            have p41_0 := hp
            have fr := oFr_tr fr p41_0 (by decide)
            refine lv_pop hx hb dX11_market_68 rfl ?_
            refine lv_aload_n hx hb dX11_market_69 rfl (lv_at hl 0 rfl) ?_
            refine lv_aload_n hx hb dX11_market_70 rfl (lv_at hl 0 rfl) ?_
            refine g_677 cx hw ha0 k_f_X11_67 dX11_market_71 (fun v42 e42 h42 => ?_)
            rw [show v42 = v16 from Option.some.inj (e42.symm.trans (((kr_c p41_0 (by decide)).trans ((kr_c fr_54 (by decide)).trans ((kr_c frE_54 (by decide)).symm.trans (((kr_c p18_0 (by decide)).trans e16)))))))]
            refine lv_iload_n hx hb dX11_market_74 rfl (lv_at hl 1 rfl) ?_
            refine o_ci hw (oRunV cx hA hw q_X11_isRoad k_m_X11_211 rfl ha0 (by decide) (As := [.ref v16, .int a1]) (c_X11_isRoad a0 ha0 v16 h16 a1 (iv_w i9 (by decide))) (by decide) rfl hl.1 rfl (Nat.le_of_ble_eq_true rfl) dX11_market_75 (by decide)) (fun v44 σ43 H locs hp hw => ?_)
            obtain ⟨p44_0, p44_1⟩ := hp
            rw [p44_0] at hw
            have J_121 : ∀ (j121_3 : Int32) (j121_4 : Int32) (ij121_4 : Iv j121_4 (-1) 100) (j121_5 : Int32) (ij121_5 : Iv j121_5 (-1) 100) (j121_6 : Int32) (ij121_6 : Iv j121_6 0 2147483647) (j121_7 : Int32), ∀ (H : Heap) (locs : List Loc), oI A L τ cy D s.heap σ40 H locs → ∀ (ls : Array Slot), lv_has ls 9 [(0, .ref a0), (1, .int a1), (2, .int a2), (3, .int j121_3), (4, .int j121_4), (5, .int j121_5), (6, .int j121_6), (7, .int j121_7), (8, .int j54_8)] → W p l e ({ frames := 341, cells := 0, slots := 0, locals := 8573 } : Room) s m args below meth c H locs 0 0 Q (F0 m 121 ls []) := by
              intro j121_3 j121_4 ij121_4 j121_5 ij121_5 j121_6 ij121_6 j121_7 H locs hw     ls hl
              obtain ⟨v45, e45⟩ : ∃ y : Int32, y = j54_8 + 1 := ⟨_, rfl⟩
              have i45 : Iv v45 2 101 := iv_add e45 i38 (⟨by decide, by decide⟩ : Iv 1 1 1) (by decide)
              have x45 : v45.toInt = j54_8.toInt + 1 := ex_add e45 i38 (⟨by decide, by decide⟩ : Iv 1 1 1) (by decide)
              refine lv_iinc (v := v45) (lv' := [(8, .int v45), (0, .ref a0), (1, .int a1), (2, .int a2), (3, .int j121_3), (4, .int j121_4), (5, .int j121_5), (6, .int j121_6), (7, .int j121_7)]) hx hb dX11_market_121 hl (k := 8) rfl (by rw [e45]; rfl) (by decide) rfl (fun ls hl => ?_)
              refine lv_goto (tgt := 54) hx hb dX11_market_124 (by decide) ?_
              exact ih_54 j121_3 j121_4 ij121_4 j121_5 ij121_5 j121_6 ij121_6 j121_7 v45 (iv_w i45 (by decide)) σ40 _ _ hw fr (ms_up x45 (by decide) (iv_w (a' := 1) (b' := 101) i45 (by decide)).2 hn_54) _ (lv_sub hl [1, 2, 3, 4, 5, 6, 7, 8, 0] rfl)
            refine lv_if_ne (tgt := 87) hx hb dX11_market_78 (by decide) (fun c46 => ?_) (fun c46 => ?_)
            · --
              have i47 : Iv v44 1 1 := iv_ne1 c46 p44_1 (⟨by decide, by decide⟩ : Iv 0 0 0) (by decide)
              obtain ⟨v48, e48⟩ : ∃ y : Int32, y = j54_3 + 1 := ⟨_, rfl⟩
              refine lv_iinc (v := v48) (lv' := [(3, .int v48), (0, .ref a0), (1, .int a1), (2, .int a2), (4, .int j54_4), (5, .int j54_5), (6, .int j54_6), (7, .int j54_7), (8, .int j54_8)]) hx hb dX11_market_87 hl (k := 3) rfl (by rw [e48]; rfl) (by decide) rfl (fun ls hl => ?_)
              obtain ⟨v49, e49⟩ : ∃ y : Int32, y = j54_7 + 1 := ⟨_, rfl⟩
              refine lv_iinc (v := v49) (lv' := [(7, .int v49), (3, .int v48), (0, .ref a0), (1, .int a1), (2, .int a2), (4, .int j54_4), (5, .int j54_5), (6, .int j54_6), (8, .int j54_8)]) hx hb dX11_market_90 hl (k := 7) rfl (by rw [e49]; rfl) (by decide) rfl (fun ls hl => ?_)
              refine lv_iload hx hb dX11_market_93 (lv_at hl 7 rfl) ?_
              refine lv_iload hx hb dX11_market_95 (lv_at hl 0 rfl) ?_
              refine va_mmax hx hb (hml.trans hl.1.symm) hown (hts _ k_m_X11_248) (hts _ k_s_J9_max_7cf53) (hts _ k_i_J9) (hts _ k_code_J9_max_7cf53) (by decide) (Nat.le_of_ble_eq_true rfl) (by decide) (by decide) dX11_market_97 ?_
              refine lv_topi (fun v50 e50 => ?_)
              have i50 : Iv v50 0 2147483647 := iv_max e50 ij54_6 (iv_top v49) (by decide)
              refine lv_istore (lv' := [(6, .int v50), (7, .int v49), (3, .int v48), (0, .ref a0), (1, .int a1), (2, .int a2), (4, .int j54_4), (5, .int j54_5), (8, .int j54_8)]) hx hb dX11_market_100 hl (by decide) rfl (fun ls hl => ?_)
              refine lv_iload hx hb dX11_market_102 (lv_at hl 6 rfl) ?_
              refine lv_iconst (v := (-1)) hx hb dX11_market_104 (by decide) ?_
              have J_115 : ∀ (k115_0 : Int32) (ik115_0 : Iv k115_0 0 100), ∀ (H : Heap) (locs : List Loc), oI A L τ cy D s.heap σ40 H locs → ∀ (ls : Array Slot), lv_has ls 9 [(0, .ref a0), (1, .int a1), (2, .int a2), (3, .int v48), (4, .int j54_4), (5, .int j54_5), (6, .int v50), (7, .int v49), (8, .int j54_8)] → W p l e ({ frames := 341, cells := 0, slots := 0, locals := 8573 } : Room) s m args below meth c H locs 0 0 Q (F0 m 115 ls [.int k115_0]) := by
                intro k115_0 ik115_0 H locs hw     ls hl
                refine lv_istore (lv' := [(4, .int k115_0), (0, .ref a0), (1, .int a1), (2, .int a2), (3, .int v48), (5, .int j54_5), (6, .int v50), (7, .int v49), (8, .int j54_8)]) hx hb dX11_market_115 hl (by decide) rfl (fun ls hl => ?_)
                refine lv_iload hx hb dX11_market_117 (lv_at hl 8 rfl) ?_
                refine lv_istore (lv' := [(5, .int j54_8), (4, .int k115_0), (0, .ref a0), (1, .int a1), (2, .int a2), (3, .int v48), (6, .int v50), (7, .int v49), (8, .int j54_8)]) hx hb dX11_market_119 hl (by decide) rfl (fun ls hl => ?_)
                exact J_121 v48 k115_0 (iv_w ik115_0 (by decide)) j54_8 (iv_w i38 (by decide)) v50 i50 v49 _ _ hw _ (lv_sub hl [2, 3, 4, 5, 1, 0, 6, 7, 8] rfl)
              refine lv_icmp_ne (tgt := 113) hx hb dX11_market_105 (by decide) (fun c51 => ?_) (fun c51 => ?_)
              · --
                have i52 : Iv j54_4 0 100 := iv_ne1 c51 ij54_4 (⟨by decide, by decide⟩ : Iv (-1) (-1) (-1)) (by decide)
                refine lv_iload hx hb dX11_market_113 (lv_at hl 6 rfl) ?_
                exact J_115 j54_4 i52 _ _ hw _ (lv_sub hl [3, 4, 5, 2, 6, 7, 0, 1, 8] rfl)
              · --
                have i53 : Iv j54_4 (-1) (-1) := iv_eq1 c51 ij54_4 (⟨by decide, by decide⟩ : Iv (-1) (-1) (-1)) (by decide)
                refine lv_iload hx hb dX11_market_108 (lv_at hl 8 rfl) ?_
                refine lv_goto (tgt := 115) hx hb dX11_market_110 (by decide) ?_
                exact J_115 j54_8 (iv_w i38 (by decide)) _ _ hw _ (lv_sub hl [3, 4, 5, 2, 6, 7, 0, 1, 8] rfl)
            · --
              have i54 : Iv v44 0 0 := iv_eq1 c46 p44_1 (⟨by decide, by decide⟩ : Iv 0 0 0) (by decide)
              refine lv_iconst (v := 0) hx hb dX11_market_81 (by decide) ?_
              refine lv_istore (lv' := [(7, .int 0), (0, .ref a0), (1, .int a1), (2, .int a2), (3, .int j54_3), (4, .int j54_4), (5, .int j54_5), (6, .int j54_6), (8, .int j54_8)]) hx hb dX11_market_82 hl (by decide) rfl (fun ls hl => ?_)
              refine lv_goto (tgt := 121) hx hb dX11_market_84 (by decide) ?_
              exact J_121 j54_3 j54_4 ij54_4 j54_5 ij54_5 j54_6 ij54_6 0 _ _ hw _ (lv_sub hl [1, 2, 3, 4, 5, 6, 7, 0, 8] rfl)
      exact J_54 _ 0 (-1) (iv_w (⟨by decide, by decide⟩ : Iv (-1) (-1) (-1)) (by decide)) (-1) (iv_w (⟨by decide, by decide⟩ : Iv (-1) (-1) (-1)) (by decide)) 0 (iv_w (⟨by decide, by decide⟩ : Iv 0 0 0) (by decide)) 0 1 (iv_w (⟨by decide, by decide⟩ : Iv 1 1 1) (by decide)) σ17 _ _ hw fr (Nat.lt_succ_self _) _ (lv_sub hl [6, 7, 8, 5, 4, 3, 2, 1, 0] rfl)
    · --
      have i55 : Iv v11 0 0 := iv_eq1 c12 p11_1 (⟨by decide, by decide⟩ : Iv 0 0 0) (by decide)
      refine lv_iconst (v := (-1)) hx hb dX11_market_23 (by decide) ?_
      rw [← hQ]
      exact o_ri cx rx hw dX11_market_24 fr
abbrev fs_X11_trodden : List Nat := [657, 658, 659, 660, 661, 662, 663, 669]
abbrev ts_X11_trodden : List Nat := [48, 52, 55]
set_option maxHeartbeats 4000000 in
set_option maxRecDepth 100000 in
theorem c_X11_trodden (a0 : Nat) (ha0 : oA L τ a0 10) (a1 : Int32) : oMet l A L τ cy D K yX11_trodden cX11_trodden 4 (some .int) 341 8573 [.ref a0, .int a1] σ (va_Qi (fun r σ1 => oFr τ fs_X11_trodden ts_X11_trodden σ σ1 ∧ Iv r (-2) 100) (oPo A L τ cy D) A) := by
  refine oMk (by decide) (Nat.le_of_ble_eq_true rfl) rfl ?_
  intro p e s m args below meth c ls cx rx hA hw hl
  generalize hQ : MQ below _ args s 0 0 A = Q
  have hx := cx.1.1
  have hb := cx.1.2.1
  have hml := cx.1.2.2.1
  have hown := cx.1.2.2.2.1
  have hts := cx.1.2.2.2.2
  have hl : lv_has ls 4 [(0, .ref a0), (1, .int a1)] := hl
  have fr : oFr τ fs_X11_trodden ts_X11_trodden σ σ := oFr_rf
  refine lv_aload_n hx hb dX11_trodden_0 rfl (lv_at hl 0 rfl) ?_
  refine lv_iconst (v := 0) hx hb dX11_trodden_1 (by decide) ?_
  refine p_658 cx hw ha0 k_f_X11_89 dX11_trodden_2 (fun σ1 H locs eσ1 hw => ?_)
  have fr := oFr_i fr eσ1 (by decide)
  refine lv_aload_n hx hb dX11_trodden_5 rfl (lv_at hl 0 rfl) ?_
  refine lv_iload_n hx hb dX11_trodden_6 rfl (lv_at hl 1 rfl) ?_
  have i2 : Iv (σ1.1 641 a0) 0 8 := o_fb (j := 641) hw ha0 rfl
  have i3 : Iv (σ1.1 642 a0) 0 8 := o_fb (j := 642) hw ha0 rfl
  refine o_ci hw (oRunV cx hA hw q_X11_isCell k_m_X11_157 rfl ha0 (by decide) (As := [.int a1]) (c_X11_isCell a0 ha0 a1) (by decide) rfl hl.1 rfl (Nat.le_of_ble_eq_true rfl) dX11_trodden_7 (by decide)) (fun v5 σ4 H locs hp hw => ?_)
  obtain ⟨p5_0, p5_1, p5_2, p5_3⟩ := hp
  rw [p5_0] at hw
  refine lv_if_ne (tgt := 15) hx hb dX11_trodden_10 (by decide) (fun c6 => ?_) (fun c6 => ?_)
  · --
    have i7 : Iv v5 1 1 := iv_ne1 c6 p5_1 (⟨by decide, by decide⟩ : Iv 0 0 0) (by decide)
    have i8 : Iv a1 0 63 := p5_2 c6
    refine lv_aload_n hx hb dX11_trodden_15 rfl (lv_at hl 0 rfl) ?_
    refine g_640 cx hw ha0 k_f_X11_9 dX11_trodden_16 (fun v9 e9 h9 => ?_)
    refine lv_aload_n hx hb dX11_trodden_19 rfl (lv_at hl 0 rfl) ?_
    refine g_677 cx hw ha0 k_f_X11_67 dX11_trodden_20 (fun v10 e10 h10 => ?_)
    refine lv_iconst (v := 0) hx hb dX11_trodden_23 (by decide) ?_
    refine o_cv hw (oRunS cx hA hw q_X11_lay k_m_X11_251 (As := [.ref v9, .ref v10, .int 0]) (c_X11_layN v9 h9 v10 h10 0 (iv_w (⟨by decide, by decide⟩ : Iv 0 0 0) (by decide))) (by decide) rfl hl.1 rfl (Nat.le_of_ble_eq_true rfl) dX11_trodden_24 (by decide)) (fun σ11 H locs hp hw => ?_)
    have p12_0 := hp
    have fr := oFr_tr fr p12_0 (by decide)
    refine lv_iconst (v := 0) hx hb dX11_trodden_27 (by decide) ?_
    refine lv_istore_n (lv' := [(2, .int 0), (0, .ref a0), (1, .int a1)]) hx hb dX11_trodden_28 rfl hl (by decide) rfl (fun ls hl => ?_)
    have frE_29 := fr
    have J_29 : ∀ n29 : Nat, ∀ (j29_2 : Int32) (ij29_2 : Iv j29_2 0 101), ∀ (σ_29 : oSt) (H : Heap) (locs : List Loc), oI A L τ cy D s.heap σ_29 H locs → oFr τ fs_X11_trodden ts_X11_trodden σ σ_29 → (101 - j29_2.toInt).toNat < n29 → ∀ (ls : Array Slot), lv_has ls 4 [(0, .ref a0), (1, .int a1), (2, .int j29_2)] → W p l e ({ frames := 341, cells := 0, slots := 0, locals := 8573 } : Room) s m args below meth c H locs 0 0 Q (F0 m 29 ls []) := by
      intro n29
      induction n29 with
      | zero => intro j29_2 ij29_2 σ_29 H locs hw fr   hn_29   ls hl; exact absurd hn_29 (Nat.not_lt_zero _)
      | succ n29 ih_29 =>
        intro j29_2 ij29_2 σ_29 H locs hw fr   hn_29   ls hl
        have fr_29 := fr
        refine lv_iload_n hx hb dX11_trodden_29 rfl (lv_at hl 2 rfl) ?_
        refine lv_bipush (v := 100) hx hb dX11_trodden_30 (by decide) ?_
        refine lv_icmp_gt (tgt := 87) hx hb dX11_trodden_32 (by decide) (fun c13 => ?_) (fun c13 => ?_)
        · --
          have i14 : Iv j29_2 101 101 := iv_lt2 c13 (⟨by decide, by decide⟩ : Iv 100 100 100) ij29_2 (by decide)
          refine lv_bipush (v := (-2)) hx hb dX11_trodden_87 (by decide) ?_
          rw [← hQ]
          exact o_ri cx rx hw dX11_trodden_89 ⟨fr, (iv_w (⟨by decide, by decide⟩ : Iv (-2) (-2) (-2)) (by decide))⟩
        · --
          have i15 : Iv j29_2 0 100 := iv_le1 (iv_nlt c13) ij29_2 (⟨by decide, by decide⟩ : Iv 100 100 100) (by decide)
          refine lv_iload_n hx hb dX11_trodden_35 rfl (lv_at hl 2 rfl) ?_
          have frE_48 := fr
          have J_48 : ∀ (σ_48 : oSt) (H : Heap) (locs : List Loc), oI A L τ cy D s.heap σ_48 H locs → oFr τ fs_X11_trodden ts_X11_trodden σ σ_48 → ∀ (ls : Array Slot), lv_has ls 4 [(0, .ref a0), (1, .int a1), (2, .int j29_2)] → W p l e ({ frames := 341, cells := 0, slots := 0, locals := 8573 } : Room) s m args below meth c H locs 0 0 Q (F0 m 48 ls []) := by
            intro  σ_48 H locs hw fr      ls hl
            have fr_48 := fr
            refine lv_aload_n hx hb dX11_trodden_48 rfl (lv_at hl 0 rfl) ?_
            refine lv_aload_n hx hb dX11_trodden_49 rfl (lv_at hl 0 rfl) ?_
            refine g_677 cx hw ha0 k_f_X11_67 dX11_trodden_50 (fun v16 e16 h16 => ?_)
            rw [show v16 = v10 from Option.some.inj (e16.symm.trans (((kr_c fr_48 (by decide)).trans ((kr_c frE_48 (by decide)).symm.trans (((kr_c fr_29 (by decide)).trans ((kr_c frE_29 (by decide)).symm.trans (((kr_c p12_0 (by decide)).trans e10)))))))))]
            refine lv_iload_n hx hb dX11_trodden_53 rfl (lv_at hl 1 rfl) ?_
            have i17 : Iv (σ_48.1 647 a0) 0 6 := o_fb (j := 647) hw ha0 rfl
            refine o_ci hw (oRunV cx hA hw q_X11_herdsAt k_m_X11_233 rfl ha0 (by decide) (As := [.ref v10, .int a1]) (c_X11_herdsAt a0 ha0 v10 h10 a1) (by decide) rfl hl.1 rfl (Nat.le_of_ble_eq_true rfl) dX11_trodden_54 (by decide)) (fun v19 σ18 H locs hp hw => ?_)
            obtain ⟨p19_0, p19_1, p19_2⟩ := hp
            rw [p19_0] at hw
            refine lv_istore_n (lv' := [(3, .int v19), (0, .ref a0), (1, .int a1), (2, .int j29_2)]) hx hb dX11_trodden_57 rfl hl (by decide) rfl (fun ls hl => ?_)
            refine lv_iload_n hx hb dX11_trodden_58 rfl (lv_at hl 0 rfl) ?_
            refine lv_if_ne (tgt := 65) hx hb dX11_trodden_59 (by decide) (fun c20 => ?_) (fun c20 => ?_)
            · --
              have i21 : Iv v19 1 63 := iv_ne1 c20 p19_1 (⟨by decide, by decide⟩ : Iv 0 0 0) (by decide)
              refine lv_aload_n hx hb dX11_trodden_65 rfl (lv_at hl 1 rfl) ?_
              refine lv_iconst (v := 0) hx hb dX11_trodden_66 (by decide) ?_
              refine p_657 cx hw ha0 (iv_w (⟨by decide, by decide⟩ : Iv 0 0 0) (by decide)) k_f_X11_92 dX11_trodden_67 (fun σ22 H locs eσ22 hw => ?_)
              have fr := oFr_i fr eσ22 (by decide)
              refine lv_aload_n hx hb dX11_trodden_70 rfl (lv_at hl 1 rfl) ?_
              refine lv_iload_n hx hb dX11_trodden_71 rfl (lv_at hl 0 rfl) ?_
              refine o_ci hw (oRunS cx hA hw q_J6_numberOfTrailingZeros_0f7a4 k_m_X11_343 (As := [.int v19]) (c_J6_numberOfTrailingZeros_0f7a4 v19) (by decide) rfl hl.1 rfl (Nat.le_of_ble_eq_true rfl) dX11_trodden_72 (by decide)) (fun v24 σ23 H locs hp hw => ?_)
              obtain ⟨p24_0, p24_1⟩ := hp
              rw [p24_0] at hw
              have i25 : Iv v24 0 5 := nz_ok p24_1 i21 (by decide)
              refine lv_i2l hx hb dX11_trodden_75 rfl ?_
              refine lv_topl (fun v26 e26 => ?_)
              refine o_cv hw (oRunV cx hA hw q_X11_tell k_m_X11_278 rfl ha0 (by decide) (As := [.long v26]) (c_X11_tell a0 ha0 v26 (kn_iv ((kp_s eσ22)) (iv_w (⟨by decide, by decide⟩ : Iv 0 0 0) (by decide)))) (by decide) rfl hl.1 rfl (Nat.le_of_ble_eq_true rfl) dX11_trodden_76 (by decide)) (fun σ27 H locs hp hw => ?_)
              obtain ⟨p28_0, p28_1⟩ := hp
              have fr := oFr_tr fr p28_0 (by decide)
              have x30 : (σ27.1 657 a0).toInt = (0 : Int32).toInt + 1 := fin_tr p28_1 ((kp_s eσ22))
              have i29 : Iv (σ27.1 657 a0) 1 1 := iv_fin x30 (⟨by decide, by decide⟩ : Iv 0 0 0) (by decide)
              refine lv_iload_n hx hb dX11_trodden_79 rfl (lv_at hl 3 rfl) ?_
              rw [← hQ]
              exact o_ri cx rx hw dX11_trodden_80 ⟨fr, (iv_w i15 (by decide))⟩
            · --
              have i31 : Iv v19 0 0 := iv_eq1 c20 p19_1 (⟨by decide, by decide⟩ : Iv 0 0 0) (by decide)
              refine lv_goto (tgt := 81) hx hb dX11_trodden_62 (by decide) ?_
              obtain ⟨v32, e32⟩ : ∃ y : Int32, y = j29_2 + 1 := ⟨_, rfl⟩
              have i32 : Iv v32 1 101 := iv_add e32 i15 (⟨by decide, by decide⟩ : Iv 1 1 1) (by decide)
              have x32 : v32.toInt = j29_2.toInt + 1 := ex_add e32 i15 (⟨by decide, by decide⟩ : Iv 1 1 1) (by decide)
              refine lv_iinc (v := v32) (lv' := [(2, .int v32), (3, .int v19), (0, .ref a0), (1, .int a1)]) hx hb dX11_trodden_81 hl (k := 3) rfl (by rw [e32]; rfl) (by decide) rfl (fun ls hl => ?_)
              refine lv_goto (tgt := 29) hx hb dX11_trodden_84 (by decide) ?_
              exact ih_29 v32 (iv_w i32 (by decide)) σ_48 _ _ hw fr (ms_up x32 (by decide) (iv_w (a' := 0) (b' := 101) i32 (by decide)).2 hn_29) _ (lv_sub hl [2, 3, 0] rfl)
          refine lv_if_le (tgt := 48) hx hb dX11_trodden_36 (by decide) (fun c33 => ?_) (fun c33 => ?_)
          · --
            have i34 : Iv j29_2 0 0 := iv_le1 c33 i15 (⟨by decide, by decide⟩ : Iv 0 0 0) (by decide)
            exact J_48 σ_29 _ _ hw fr _ (lv_sub hl [0, 1, 2] rfl)
          · --
            have i35 : Iv j29_2 1 100 := iv_lt2 (iv_nle c33) (⟨by decide, by decide⟩ : Iv 0 0 0) i15 (by decide)
            refine lv_aload_n hx hb dX11_trodden_39 rfl (lv_at hl 0 rfl) ?_
            refine lv_aload_n hx hb dX11_trodden_40 rfl (lv_at hl 0 rfl) ?_
            refine g_677 cx hw ha0 k_f_X11_67 dX11_trodden_41 (fun v36 e36 h36 => ?_)
            rw [show v36 = v10 from Option.some.inj (e36.symm.trans (((kr_c fr_29 (by decide)).trans ((kr_c frE_29 (by decide)).symm.trans (((kr_c p12_0 (by decide)).trans e10))))))]
            refine o_ci hw (oRunV cx hA hw q_X11_goHour k_m_X11_285 rfl ha0 (by decide) (As := [.ref v10]) (c_X11_goHour a0 ha0 v10 h10) (by decide) rfl hl.1 rfl (Nat.le_of_ble_eq_true rfl) dX11_trodden_44 (by decide)) (fun v38 σ37 H locs hp hw => ?_)
            have p38_0 := hp
            have fr := oFr_tr fr p38_0 (by decide)
            refine lv_pop hx hb dX11_trodden_47 rfl ?_
            exact J_48 σ37 _ _ hw fr _ (lv_sub hl [0, 1, 2] rfl)
    exact J_29 _ 0 (iv_w (⟨by decide, by decide⟩ : Iv 0 0 0) (by decide)) σ11 _ _ hw fr (Nat.lt_succ_self _) _ (lv_sub hl [1, 2, 0] rfl)
  · --
    have i39 : Iv v5 0 0 := iv_eq1 c6 p5_1 (⟨by decide, by decide⟩ : Iv 0 0 0) (by decide)
    refine lv_iconst (v := (-1)) hx hb dX11_trodden_13 (by decide) ?_
    rw [← hQ]
    exact o_ri cx rx hw dX11_trodden_14 ⟨fr, (iv_w (⟨by decide, by decide⟩ : Iv (-1) (-1) (-1)) (by decide))⟩
abbrev fs_X11_meets : List Nat := [657, 658, 659, 660, 661, 662, 663, 669]
abbrev ts_X11_meets : List Nat := [48, 52, 55]
set_option maxHeartbeats 4000000 in
set_option maxRecDepth 100000 in
theorem c_X11_meets (a0 : Nat) (ha0 : oA L τ a0 10) : oMet l A L τ cy D K yX11_meets cX11_meets 4 (some .int) 341 8573 [.ref a0] σ (va_Qi (fun r σ1 => oFr τ fs_X11_meets ts_X11_meets σ σ1 ∧ Iv r (-2) 100) (oPo A L τ cy D) A) := by
  refine oMk (by decide) (Nat.le_of_ble_eq_true rfl) rfl ?_
  intro p e s m args below meth c ls cx rx hA hw hl
  generalize hQ : MQ below _ args s 0 0 A = Q
  have hx := cx.1.1
  have hb := cx.1.2.1
  have hml := cx.1.2.2.1
  have hown := cx.1.2.2.2.1
  have hts := cx.1.2.2.2.2
  have hl : lv_has ls 4 [(0, .ref a0)] := hl
  have fr : oFr τ fs_X11_meets ts_X11_meets σ σ := oFr_rf
  refine lv_aload_n hx hb dX11_meets_0 rfl (lv_at hl 0 rfl) ?_
  refine lv_iconst (v := 0) hx hb dX11_meets_1 (by decide) ?_
  refine p_658 cx hw ha0 k_f_X11_89 dX11_meets_2 (fun σ1 H locs eσ1 hw => ?_)
  have fr := oFr_i fr eσ1 (by decide)
  refine lv_aload_n hx hb dX11_meets_5 rfl (lv_at hl 0 rfl) ?_
  refine g_640 cx hw ha0 k_f_X11_9 dX11_meets_6 (fun v2 e2 h2 => ?_)
  refine lv_aload_n hx hb dX11_meets_9 rfl (lv_at hl 0 rfl) ?_
  refine g_677 cx hw ha0 k_f_X11_67 dX11_meets_10 (fun v3 e3 h3 => ?_)
  refine lv_iconst (v := 0) hx hb dX11_meets_13 (by decide) ?_
  refine o_cv hw (oRunS cx hA hw q_X11_lay k_m_X11_251 (As := [.ref v2, .ref v3, .int 0]) (c_X11_layN v2 h2 v3 h3 0 (iv_w (⟨by decide, by decide⟩ : Iv 0 0 0) (by decide))) (by decide) rfl hl.1 rfl (Nat.le_of_ble_eq_true rfl) dX11_meets_14 (by decide)) (fun σ4 H locs hp hw => ?_)
  have p5_0 := hp
  have fr := oFr_tr fr p5_0 (by decide)
  refine lv_iconst (v := 0) hx hb dX11_meets_17 (by decide) ?_
  refine lv_istore_n (lv' := [(1, .int 0), (0, .ref a0)]) hx hb dX11_meets_18 rfl hl (by decide) rfl (fun ls hl => ?_)
  have frE_19 := fr
  have J_19 : ∀ n19 : Nat, ∀ (j19_1 : Int32) (ij19_1 : Iv j19_1 0 101), ∀ (σ_19 : oSt) (H : Heap) (locs : List Loc), oI A L τ cy D s.heap σ_19 H locs → oFr τ fs_X11_meets ts_X11_meets σ σ_19 → (101 - j19_1.toInt).toNat < n19 → ∀ (ls : Array Slot), lv_has ls 4 [(0, .ref a0), (1, .int j19_1)] → W p l e ({ frames := 341, cells := 0, slots := 0, locals := 8573 } : Room) s m args below meth c H locs 0 0 Q (F0 m 19 ls []) := by
    intro n19
    induction n19 with
    | zero => intro j19_1 ij19_1 σ_19 H locs hw fr   hn_19   ls hl; exact absurd hn_19 (Nat.not_lt_zero _)
    | succ n19 ih_19 =>
      intro j19_1 ij19_1 σ_19 H locs hw fr   hn_19   ls hl
      have fr_19 := fr
      refine lv_iload_n hx hb dX11_meets_19 rfl (lv_at hl 1 rfl) ?_
      refine lv_bipush (v := 100) hx hb dX11_meets_20 (by decide) ?_
      refine lv_icmp_gt (tgt := 85) hx hb dX11_meets_22 (by decide) (fun c6 => ?_) (fun c6 => ?_)
      · --
        have i7 : Iv j19_1 101 101 := iv_lt2 c6 (⟨by decide, by decide⟩ : Iv 100 100 100) ij19_1 (by decide)
        refine lv_bipush (v := (-2)) hx hb dX11_meets_85 (by decide) ?_
        rw [← hQ]
        exact o_ri cx rx hw dX11_meets_87 ⟨fr, (iv_w (⟨by decide, by decide⟩ : Iv (-2) (-2) (-2)) (by decide))⟩
      · --
        have i8 : Iv j19_1 0 100 := iv_le1 (iv_nlt c6) ij19_1 (⟨by decide, by decide⟩ : Iv 100 100 100) (by decide)
        refine lv_aload_n hx hb dX11_meets_25 rfl (lv_at hl 0 rfl) ?_
        refine g_647 cx hw ha0 k_f_X11_105 dX11_meets_26 (fun v9 e9 i9 => ?_)
        refine lv_if_le (tgt := 85) hx hb dX11_meets_29 (by decide) (fun c10 => ?_) (fun c10 => ?_)
        · --
          have i11 : Iv v9 0 0 := iv_le1 c10 i9 (⟨by decide, by decide⟩ : Iv 0 0 0) (by decide)
          refine lv_bipush (v := (-2)) hx hb dX11_meets_85 (by decide) ?_
          rw [← hQ]
          exact o_ri cx rx hw dX11_meets_87 ⟨fr, (iv_w (⟨by decide, by decide⟩ : Iv (-2) (-2) (-2)) (by decide))⟩
        · --
          have i12 : Iv v9 1 6 := iv_lt2 (iv_nle c10) (⟨by decide, by decide⟩ : Iv 0 0 0) i9 (by decide)
          refine lv_iload_n hx hb dX11_meets_32 rfl (lv_at hl 1 rfl) ?_
          have frE_45 := fr
          have J_45 : ∀ (σ_45 : oSt) (H : Heap) (locs : List Loc), oI A L τ cy D s.heap σ_45 H locs → oFr τ fs_X11_meets ts_X11_meets σ σ_45 → ∀ (ls : Array Slot), lv_has ls 4 [(0, .ref a0), (1, .int j19_1)] → W p l e ({ frames := 341, cells := 0, slots := 0, locals := 8573 } : Room) s m args below meth c H locs 0 0 Q (F0 m 45 ls []) := by
            intro  σ_45 H locs hw fr      ls hl
            have fr_45 := fr
            refine lv_aload_n hx hb dX11_meets_45 rfl (lv_at hl 0 rfl) ?_
            refine lv_aload_n hx hb dX11_meets_46 rfl (lv_at hl 0 rfl) ?_
            refine g_677 cx hw ha0 k_f_X11_67 dX11_meets_47 (fun v13 e13 h13 => ?_)
            rw [show v13 = v3 from Option.some.inj (e13.symm.trans (((kr_c fr_45 (by decide)).trans ((kr_c frE_45 (by decide)).symm.trans (((kr_c fr_19 (by decide)).trans ((kr_c frE_19 (by decide)).symm.trans (((kr_c p5_0 (by decide)).trans e3)))))))))]
            refine o_cl hw (oRunV cx hA hw q_X11_pieceOfAll k_m_X11_334 rfl ha0 (by decide) (As := [.ref v3]) (c_X11_pieceOfAll a0 ha0 v3 h3) (by decide) rfl hl.1 rfl (Nat.le_of_ble_eq_true rfl) dX11_meets_50 (by decide)) (fun v15 σ14 H locs hp hw => ?_)
            have p15_0 := hp
            rw [p15_0] at hw
            refine lv_lstore_n (lv' := [(2, .long v15), (0, .ref a0), (1, .int j19_1)]) hx hb dX11_meets_53 rfl hl (by decide) rfl (fun ls hl => ?_)
            refine lv_lload_n hx hb dX11_meets_54 rfl (lv_at hl 0 rfl) ?_
            refine lv_lconst (v := 0) hx hb dX11_meets_55 (by decide) ?_
            refine W.lcmp hx hb dX11_meets_56 ?_
            refine lv_topi (fun v16 e16 => ?_)
            have i16 : Iv v16 (-1) 1 := iv_lcmp e16
            refine lv_if_ne (tgt := 63) hx hb dX11_meets_57 (by decide) (fun c17 => ?_) (fun c17 => ?_)
            · --
              refine lv_aload_n hx hb dX11_meets_63 rfl (lv_at hl 1 rfl) ?_
              refine lv_iconst (v := 0) hx hb dX11_meets_64 (by decide) ?_
              refine p_657 cx hw ha0 (iv_w (⟨by decide, by decide⟩ : Iv 0 0 0) (by decide)) k_f_X11_92 dX11_meets_65 (fun σ18 H locs eσ18 hw => ?_)
              have fr := oFr_i fr eσ18 (by decide)
              refine lv_aload_n hx hb dX11_meets_68 rfl (lv_at hl 1 rfl) ?_
              refine lv_lload_n hx hb dX11_meets_69 rfl (lv_at hl 0 rfl) ?_
              refine o_ci hw (oRunS cx hA hw q_J13_bitCount_95d88 k_m_X11_321 (As := [.long v15]) (c_J13_bitCount_95d88 v15) (by decide) rfl hl.1 rfl (Nat.le_of_ble_eq_true rfl) dX11_meets_70 (by decide)) (fun v20 σ19 H locs hp hw => ?_)
              obtain ⟨p20_0, p20_1⟩ := hp
              rw [p20_0] at hw
              refine lv_i2l hx hb dX11_meets_73 rfl ?_
              refine lv_topl (fun v21 e21 => ?_)
              refine o_cv hw (oRunV cx hA hw q_X11_tell k_m_X11_278 rfl ha0 (by decide) (As := [.long v21]) (c_X11_tell a0 ha0 v21 (kn_iv ((kp_s eσ18)) (iv_w (⟨by decide, by decide⟩ : Iv 0 0 0) (by decide)))) (by decide) rfl hl.1 rfl (Nat.le_of_ble_eq_true rfl) dX11_meets_74 (by decide)) (fun σ22 H locs hp hw => ?_)
              obtain ⟨p23_0, p23_1⟩ := hp
              have fr := oFr_tr fr p23_0 (by decide)
              have x25 : (σ22.1 657 a0).toInt = (0 : Int32).toInt + 1 := fin_tr p23_1 ((kp_s eσ18))
              have i24 : Iv (σ22.1 657 a0) 1 1 := iv_fin x25 (⟨by decide, by decide⟩ : Iv 0 0 0) (by decide)
              refine lv_iload_n hx hb dX11_meets_77 rfl (lv_at hl 2 rfl) ?_
              rw [← hQ]
              exact o_ri cx rx hw dX11_meets_78 ⟨fr, (iv_w i8 (by decide))⟩
            · --
              have i26 : Iv v16 0 0 := iv_eq1 c17 i16 (⟨by decide, by decide⟩ : Iv 0 0 0) (by decide)
              refine lv_goto (tgt := 79) hx hb dX11_meets_60 (by decide) ?_
              obtain ⟨v27, e27⟩ : ∃ y : Int32, y = j19_1 + 1 := ⟨_, rfl⟩
              have i27 : Iv v27 1 101 := iv_add e27 i8 (⟨by decide, by decide⟩ : Iv 1 1 1) (by decide)
              have x27 : v27.toInt = j19_1.toInt + 1 := ex_add e27 i8 (⟨by decide, by decide⟩ : Iv 1 1 1) (by decide)
              refine lv_iinc (v := v27) (lv' := [(1, .int v27), (2, .long v15), (0, .ref a0)]) hx hb dX11_meets_79 hl (k := 2) rfl (by rw [e27]; rfl) (by decide) rfl (fun ls hl => ?_)
              refine lv_goto (tgt := 19) hx hb dX11_meets_82 (by decide) ?_
              exact ih_19 v27 (iv_w i27 (by decide)) σ_45 _ _ hw fr (ms_up x27 (by decide) (iv_w (a' := 0) (b' := 101) i27 (by decide)).2 hn_19) _ (lv_sub hl [2, 0] rfl)
          refine lv_if_le (tgt := 45) hx hb dX11_meets_33 (by decide) (fun c28 => ?_) (fun c28 => ?_)
          · --
            have i29 : Iv j19_1 0 0 := iv_le1 c28 i8 (⟨by decide, by decide⟩ : Iv 0 0 0) (by decide)
            exact J_45 σ_19 _ _ hw fr _ (lv_sub hl [0, 1] rfl)
          · --
            have i30 : Iv j19_1 1 100 := iv_lt2 (iv_nle c28) (⟨by decide, by decide⟩ : Iv 0 0 0) i8 (by decide)
            refine lv_aload_n hx hb dX11_meets_36 rfl (lv_at hl 0 rfl) ?_
            refine lv_aload_n hx hb dX11_meets_37 rfl (lv_at hl 0 rfl) ?_
            refine g_677 cx hw ha0 k_f_X11_67 dX11_meets_38 (fun v31 e31 h31 => ?_)
            rw [show v31 = v3 from Option.some.inj (e31.symm.trans (((kr_c fr_19 (by decide)).trans ((kr_c frE_19 (by decide)).symm.trans (((kr_c p5_0 (by decide)).trans e3))))))]
            refine o_ci hw (oRunV cx hA hw q_X11_goHour k_m_X11_285 rfl ha0 (by decide) (As := [.ref v3]) (c_X11_goHour a0 ha0 v3 h3) (by decide) rfl hl.1 rfl (Nat.le_of_ble_eq_true rfl) dX11_meets_41 (by decide)) (fun v33 σ32 H locs hp hw => ?_)
            have p33_0 := hp
            have fr := oFr_tr fr p33_0 (by decide)
            refine lv_pop hx hb dX11_meets_44 rfl ?_
            exact J_45 σ32 _ _ hw fr _ (lv_sub hl [0, 1] rfl)
  exact J_19 _ 0 (iv_w (⟨by decide, by decide⟩ : Iv 0 0 0) (by decide)) σ4 _ _ hw fr (Nat.lt_succ_self _) _ (lv_sub hl [1, 0] rfl)
abbrev fs_X11_round : List Nat := [657, 658, 659, 660, 661, 662, 663, 669]
abbrev ts_X11_round : List Nat := [48, 52, 55, 66]
set_option maxHeartbeats 4000000 in
set_option maxRecDepth 100000 in
theorem c_X11_round (a0 : Nat) (ha0 : oA L τ a0 10) (a1 : Int32) : oMet l A L τ cy D K yX11_round cX11_round 4 (some .int) 341 8573 [.ref a0, .int a1] σ (va_Qi (fun r σ1 => oFr τ fs_X11_round ts_X11_round σ σ1 ∧ Iv r (-1) 100) (oPo A L τ cy D) A) := by
  refine oMk (by decide) (Nat.le_of_ble_eq_true rfl) rfl ?_
  intro p e s m args below meth c ls cx rx hA hw hl
  generalize hQ : MQ below _ args s 0 0 A = Q
  have hx := cx.1.1
  have hb := cx.1.2.1
  have hml := cx.1.2.2.1
  have hown := cx.1.2.2.2.1
  have hts := cx.1.2.2.2.2
  have hl : lv_has ls 4 [(0, .ref a0), (1, .int a1)] := hl
  have fr : oFr τ fs_X11_round ts_X11_round σ σ := oFr_rf
  refine lv_aload_n hx hb dX11_round_0 rfl (lv_at hl 0 rfl) ?_
  refine lv_iconst (v := 0) hx hb dX11_round_1 (by decide) ?_
  refine p_658 cx hw ha0 k_f_X11_89 dX11_round_2 (fun σ1 H locs eσ1 hw => ?_)
  have fr := oFr_i fr eσ1 (by decide)
  refine lv_aload_n hx hb dX11_round_5 rfl (lv_at hl 0 rfl) ?_
  refine lv_iload_n hx hb dX11_round_6 rfl (lv_at hl 1 rfl) ?_
  refine o_ci hw (oRunV cx hA hw q_X11_isHerd k_m_X11_237 rfl ha0 (by decide) (As := [.int a1]) (c_X11_isHerd a0 ha0 a1) (by decide) rfl hl.1 rfl (Nat.le_of_ble_eq_true rfl) dX11_round_7 (by decide)) (fun v3 σ2 H locs hp hw => ?_)
  obtain ⟨p3_0, p3_1, p3_2⟩ := hp
  rw [p3_0] at hw
  refine lv_if_ne (tgt := 15) hx hb dX11_round_10 (by decide) (fun c4 => ?_) (fun c4 => ?_)
  · --
    have i5 : Iv v3 1 1 := iv_ne1 c4 p3_1 (⟨by decide, by decide⟩ : Iv 0 0 0) (by decide)
    have i6 : Iv a1 0 5 := p3_2 c4
    refine lv_aload_n hx hb dX11_round_15 rfl (lv_at hl 0 rfl) ?_
    refine g_640 cx hw ha0 k_f_X11_9 dX11_round_16 (fun v7 e7 h7 => ?_)
    refine lv_aload_n hx hb dX11_round_19 rfl (lv_at hl 0 rfl) ?_
    refine g_677 cx hw ha0 k_f_X11_67 dX11_round_20 (fun v8 e8 h8 => ?_)
    refine lv_iconst (v := 0) hx hb dX11_round_23 (by decide) ?_
    refine o_cv hw (oRunS cx hA hw q_X11_lay k_m_X11_251 (As := [.ref v7, .ref v8, .int 0]) (c_X11_layN v7 h7 v8 h8 0 (iv_w (⟨by decide, by decide⟩ : Iv 0 0 0) (by decide))) (by decide) rfl hl.1 rfl (Nat.le_of_ble_eq_true rfl) dX11_round_24 (by decide)) (fun σ9 H locs hp hw => ?_)
    have p10_0 := hp
    have fr := oFr_tr fr p10_0 (by decide)
    refine lv_iconst (v := 0) hx hb dX11_round_27 (by decide) ?_
    refine lv_istore_n (lv' := [(2, .int 0), (0, .ref a0), (1, .int a1)]) hx hb dX11_round_28 rfl hl (by decide) rfl (fun ls hl => ?_)
    have frE_29 := fr
    have J_29 : ∀ n29 : Nat, ∀ (j29_2 : Int32) (ij29_2 : Iv j29_2 0 64), ∀ (σ_29 : oSt) (H : Heap) (locs : List Loc), oI A L τ cy D s.heap σ_29 H locs → oFr τ fs_X11_round ts_X11_round σ σ_29 → (64 - j29_2.toInt).toNat < n29 → ∀ (ls : Array Slot), lv_has ls 4 [(0, .ref a0), (1, .int a1), (2, .int j29_2)] → W p l e ({ frames := 341, cells := 0, slots := 0, locals := 8573 } : Room) s m args below meth c H locs 0 0 Q (F0 m 29 ls []) := by
      intro n29
      induction n29 with
      | zero => intro j29_2 ij29_2 σ_29 H locs hw fr   hn_29   ls hl; exact absurd hn_29 (Nat.not_lt_zero _)
      | succ n29 ih_29 =>
        intro j29_2 ij29_2 σ_29 H locs hw fr   hn_29   ls hl
        have fr_29 := fr
        refine lv_iload_n hx hb dX11_round_29 rfl (lv_at hl 2 rfl) ?_
        refine lv_bipush (v := 64) hx hb dX11_round_30 (by decide) ?_
        refine lv_icmp_ge (tgt := 48) hx hb dX11_round_32 (by decide) (fun c11 => ?_) (fun c11 => ?_)
        · --
          have i12 : Iv j29_2 64 64 := iv_le2 c11 (⟨by decide, by decide⟩ : Iv 64 64 64) ij29_2 (by decide)
          refine lv_aload_n hx hb dX11_round_48 rfl (lv_at hl 0 rfl) ?_
          refine g_676 cx hw ha0 k_f_X11_64 dX11_round_49 (fun v13 e13 h13 => ?_)
          refine lv_aload_n hx hb dX11_round_52 rfl (lv_at hl 0 rfl) ?_
          refine g_677 cx hw ha0 k_f_X11_67 dX11_round_53 (fun v14 e14 h14 => ?_)
          rw [show v14 = v8 from Option.some.inj (e14.symm.trans (((kr_c fr_29 (by decide)).trans ((kr_c frE_29 (by decide)).symm.trans (((kr_c p10_0 (by decide)).trans e8))))))]
          refine lv_sipush (v := 320) hx hb dX11_round_56 (by decide) ?_
          refine lv_iload_n hx hb dX11_round_59 rfl (lv_at hl 1 rfl) ?_
          refine lv_iadd hx hb dX11_round_60 ?_
          refine lv_topi (fun v15 e15 => ?_)
          have i15 : Iv v15 320 325 := iv_add e15 (⟨by decide, by decide⟩ : Iv 320 320 320) i6 (by decide)
          have x15 : v15.toInt = a1.toInt + 320 := (ex_add e15 (⟨by decide, by decide⟩ : Iv 320 320 320) i6 (by decide)).trans (Int.add_comm _ _)
          refine o_iald cx hw h8 (by decide) rfl (iv_in i15 (by decide)) dX11_round_61 (fun v16 e16 b16 => ?_)
          have i16 : Iv v16 0 63 := rb_now b16 i15 (by decide)
          refine lv_iconst (v := 0) hx hb dX11_round_62 (by decide) ?_
          refine o_iast cx hw h13 (by decide) rfl (iv_in i16 (by decide)) trivial dX11_round_63 (fun σ17 H locs eσ17 hw => ?_)
          have fr := oFr_p fr eσ17 h13 (by decide)
          refine lv_iconst (v := 1) hx hb dX11_round_64 (by decide) ?_
          refine lv_istore_n (lv' := [(2, .int 1), (0, .ref a0), (1, .int a1)]) hx hb dX11_round_65 rfl hl (by decide) rfl (fun ls hl => ?_)
          have frE_66 := fr
          have J_66 : ∀ n66 : Nat, ∀ (j66_2 : Int32) (ij66_2 : Iv j66_2 1 101), ∀ (σ_66 : oSt) (H : Heap) (locs : List Loc), oI A L τ cy D s.heap σ_66 H locs → oFr τ fs_X11_round ts_X11_round σ σ_66 → (101 - j66_2.toInt).toNat < n66 → ∀ (ls : Array Slot), lv_has ls 4 [(0, .ref a0), (1, .int a1), (2, .int j66_2)] → W p l e ({ frames := 341, cells := 0, slots := 0, locals := 8573 } : Room) s m args below meth c H locs 0 0 Q (F0 m 66 ls []) := by
            intro n66
            induction n66 with
            | zero => intro j66_2 ij66_2 σ_66 H locs hw fr   hn_66   ls hl; exact absurd hn_66 (Nat.not_lt_zero _)
            | succ n66 ih_66 =>
              intro j66_2 ij66_2 σ_66 H locs hw fr   hn_66   ls hl
              have fr_66 := fr
              refine lv_iload_n hx hb dX11_round_66 rfl (lv_at hl 2 rfl) ?_
              refine lv_bipush (v := 100) hx hb dX11_round_67 (by decide) ?_
              refine lv_icmp_gt (tgt := 144) hx hb dX11_round_69 (by decide) (fun c18 => ?_) (fun c18 => ?_)
              · --
                have i19 : Iv j66_2 101 101 := iv_lt2 c18 (⟨by decide, by decide⟩ : Iv 100 100 100) ij66_2 (by decide)
                refine lv_iconst (v := (-1)) hx hb dX11_round_144 (by decide) ?_
                rw [← hQ]
                exact o_ri cx rx hw dX11_round_145 ⟨fr, (iv_w (⟨by decide, by decide⟩ : Iv (-1) (-1) (-1)) (by decide))⟩
              · --
                have i20 : Iv j66_2 1 100 := iv_le1 (iv_nlt c18) ij66_2 (⟨by decide, by decide⟩ : Iv 100 100 100) (by decide)
                refine lv_aload_n hx hb dX11_round_72 rfl (lv_at hl 0 rfl) ?_
                refine lv_aload_n hx hb dX11_round_73 rfl (lv_at hl 0 rfl) ?_
                refine g_677 cx hw ha0 k_f_X11_67 dX11_round_74 (fun v21 e21 h21 => ?_)
                rw [show v21 = v8 from Option.some.inj (e21.symm.trans (((kr_c fr_66 (by decide)).trans ((kr_c frE_66 (by decide)).symm.trans (((kr_p eσ17).trans ((kr_c fr_29 (by decide)).trans ((kr_c frE_29 (by decide)).symm.trans (((kr_c p10_0 (by decide)).trans e8))))))))))]
                refine o_ci hw (oRunV cx hA hw q_X11_goHour k_m_X11_285 rfl ha0 (by decide) (As := [.ref v8]) (c_X11_goHour a0 ha0 v8 h8) (by decide) rfl hl.1 rfl (Nat.le_of_ble_eq_true rfl) dX11_round_77 (by decide)) (fun v23 σ22 H locs hp hw => ?_)
                have p23_0 := hp
                have fr := oFr_tr fr p23_0 (by decide)
                refine lv_pop hx hb dX11_round_80 rfl ?_
                refine lv_aload_n hx hb dX11_round_81 rfl (lv_at hl 0 rfl) ?_
                refine g_677 cx hw ha0 k_f_X11_67 dX11_round_82 (fun v24 e24 h24 => ?_)
                rw [show v24 = v8 from Option.some.inj (e24.symm.trans (((kr_c p23_0 (by decide)).trans ((kr_c fr_66 (by decide)).trans ((kr_c frE_66 (by decide)).symm.trans (((kr_p eσ17).trans ((kr_c fr_29 (by decide)).trans ((kr_c frE_29 (by decide)).symm.trans (((kr_c p10_0 (by decide)).trans e8)))))))))))]
                refine lv_sipush (v := 320) hx hb dX11_round_85 (by decide) ?_
                refine lv_iload_n hx hb dX11_round_88 rfl (lv_at hl 1 rfl) ?_
                refine lv_iadd hx hb dX11_round_89 ?_
                refine lv_topi (fun v25 e25 => ?_)
                have i25 : Iv v25 320 325 := iv_add e25 (⟨by decide, by decide⟩ : Iv 320 320 320) i6 (by decide)
                have x25 : v25.toInt = a1.toInt + 320 := (ex_add e25 (⟨by decide, by decide⟩ : Iv 320 320 320) i6 (by decide)).trans (Int.add_comm _ _)
                refine o_iald cx hw h8 (by decide) rfl (iv_in i25 (by decide)) dX11_round_90 (fun v26 e26 b26 => ?_)
                have i26 : Iv v26 0 63 := rb_now b26 i25 (by decide)
                refine lv_istore_n (lv' := [(3, .int v26), (0, .ref a0), (1, .int a1), (2, .int j66_2)]) hx hb dX11_round_91 rfl hl (by decide) rfl (fun ls hl => ?_)
                refine lv_aload_n hx hb dX11_round_92 rfl (lv_at hl 1 rfl) ?_
                refine g_676 cx hw ha0 k_f_X11_64 dX11_round_93 (fun v27 e27 h27 => ?_)
                rw [show v27 = v13 from Option.some.inj (e27.symm.trans (((kr_c p23_0 (by decide)).trans ((kr_c fr_66 (by decide)).trans ((kr_c frE_66 (by decide)).symm.trans (((kr_p eσ17).trans e13)))))))]
                refine lv_iload_n hx hb dX11_round_96 rfl (lv_at hl 0 rfl) ?_
                refine o_iald cx hw h13 (by decide) rfl (iv_in i26 (by decide)) dX11_round_97 (fun v28 e28 b28 => ?_)
                refine lv_iconst (v := (-1)) hx hb dX11_round_98 (by decide) ?_
                refine lv_icmp_ne (tgt := 112) hx hb dX11_round_99 (by decide) (fun c29 => ?_) (fun c29 => ?_)
                · --
                  refine lv_aload_n hx hb dX11_round_112 rfl (lv_at hl 1 rfl) ?_
                  refine lv_iconst (v := 0) hx hb dX11_round_113 (by decide) ?_
                  refine p_657 cx hw ha0 (iv_w (⟨by decide, by decide⟩ : Iv 0 0 0) (by decide)) k_f_X11_92 dX11_round_114 (fun σ30 H locs eσ30 hw => ?_)
                  have fr := oFr_i fr eσ30 (by decide)
                  refine lv_aload_n hx hb dX11_round_117 rfl (lv_at hl 1 rfl) ?_
                  refine lv_iload_n hx hb dX11_round_118 rfl (lv_at hl 0 rfl) ?_
                  refine lv_i2l hx hb dX11_round_119 rfl ?_
                  refine lv_topl (fun v31 e31 => ?_)
                  refine o_cv hw (oRunV cx hA hw q_X11_tell k_m_X11_278 rfl ha0 (by decide) (As := [.long v31]) (c_X11_tell a0 ha0 v31 (kn_iv ((kp_s eσ30)) (iv_w (⟨by decide, by decide⟩ : Iv 0 0 0) (by decide)))) (by decide) rfl hl.1 rfl (Nat.le_of_ble_eq_true rfl) dX11_round_120 (by decide)) (fun σ32 H locs hp hw => ?_)
                  obtain ⟨p33_0, p33_1⟩ := hp
                  have fr := oFr_tr fr p33_0 (by decide)
                  have x35 : (σ32.1 657 a0).toInt = (0 : Int32).toInt + 1 := fin_tr p33_1 ((kp_s eσ30))
                  have i34 : Iv (σ32.1 657 a0) 1 1 := iv_fin x35 (⟨by decide, by decide⟩ : Iv 0 0 0) (by decide)
                  refine lv_aload_n hx hb dX11_round_123 rfl (lv_at hl 1 rfl) ?_
                  refine lv_iload_n hx hb dX11_round_124 rfl (lv_at hl 3 rfl) ?_
                  refine lv_aload_n hx hb dX11_round_125 rfl (lv_at hl 1 rfl) ?_
                  refine g_676 cx hw ha0 k_f_X11_64 dX11_round_126 (fun v36 e36 h36 => ?_)
                  rw [show v36 = v13 from Option.some.inj (e36.symm.trans (((kr_c p33_0 (by decide)).trans ((kr_i eσ30).trans ((kr_c p23_0 (by decide)).trans ((kr_c fr_66 (by decide)).trans ((kr_c frE_66 (by decide)).symm.trans (((kr_p eσ17).trans e13)))))))))]
                  refine lv_iload_n hx hb dX11_round_129 rfl (lv_at hl 0 rfl) ?_
                  refine o_iald cx hw h13 (by decide) rfl (iv_in i26 (by decide)) dX11_round_130 (fun v37 e37 b37 => ?_)
                  refine lv_isub hx hb dX11_round_131 ?_
                  refine lv_topi (fun v38 e38 => ?_)
                  refine lv_i2l hx hb dX11_round_132 rfl ?_
                  refine lv_topl (fun v39 e39 => ?_)
                  refine o_cv hw (oRunV cx hA hw q_X11_tell k_m_X11_278 rfl ha0 (by decide) (As := [.long v39]) (c_X11_tell a0 ha0 v39 (kn_iv (rfl) (iv_w i34 (by decide)))) (by decide) rfl hl.1 rfl (Nat.le_of_ble_eq_true rfl) dX11_round_133 (by decide)) (fun σ40 H locs hp hw => ?_)
                  obtain ⟨p41_0, p41_1⟩ := hp
                  have fr := oFr_tr fr p41_0 (by decide)
                  have x43 : (σ40.1 657 a0).toInt = (σ32.1 657 a0).toInt + 1 := fin_tr p41_1 (rfl)
                  have i42 : Iv (σ40.1 657 a0) 2 2 := iv_fin x43 i34 (by decide)
                  refine lv_iload_n hx hb dX11_round_136 rfl (lv_at hl 3 rfl) ?_
                  rw [← hQ]
                  exact o_ri cx rx hw dX11_round_137 ⟨fr, (iv_w i20 (by decide))⟩
                · --
                  have i44 : Iv v28 (-1) (-1) := iv_eq1 c29 (iv_top v28) (⟨by decide, by decide⟩ : Iv (-1) (-1) (-1)) (by decide)
                  refine lv_aload_n hx hb dX11_round_102 rfl (lv_at hl 1 rfl) ?_
                  refine g_676 cx hw ha0 k_f_X11_64 dX11_round_103 (fun v45 e45 h45 => ?_)
                  rw [show v45 = v13 from Option.some.inj (e45.symm.trans (((kr_c p23_0 (by decide)).trans ((kr_c fr_66 (by decide)).trans ((kr_c frE_66 (by decide)).symm.trans (((kr_p eσ17).trans e13)))))))]
                  refine lv_iload_n hx hb dX11_round_106 rfl (lv_at hl 0 rfl) ?_
                  refine lv_iload_n hx hb dX11_round_107 rfl (lv_at hl 3 rfl) ?_
                  refine o_iast cx hw h13 (by decide) rfl (iv_in i26 (by decide)) trivial dX11_round_108 (fun σ46 H locs eσ46 hw => ?_)
                  have fr := oFr_p fr eσ46 h13 (by decide)
                  refine lv_goto (tgt := 138) hx hb dX11_round_109 (by decide) ?_
                  obtain ⟨v47, e47⟩ : ∃ y : Int32, y = j66_2 + 1 := ⟨_, rfl⟩
                  have i47 : Iv v47 2 101 := iv_add e47 i20 (⟨by decide, by decide⟩ : Iv 1 1 1) (by decide)
                  have x47 : v47.toInt = j66_2.toInt + 1 := ex_add e47 i20 (⟨by decide, by decide⟩ : Iv 1 1 1) (by decide)
                  refine lv_iinc (v := v47) (lv' := [(2, .int v47), (3, .int v26), (0, .ref a0), (1, .int a1)]) hx hb dX11_round_138 hl (k := 3) rfl (by rw [e47]; rfl) (by decide) rfl (fun ls hl => ?_)
                  refine lv_goto (tgt := 66) hx hb dX11_round_141 (by decide) ?_
                  exact ih_66 v47 (iv_w i47 (by decide)) σ46 _ _ hw fr (ms_up x47 (by decide) (iv_w (a' := 1) (b' := 101) i47 (by decide)).2 hn_66) _ (lv_sub hl [2, 3, 0] rfl)
          exact J_66 _ 1 (iv_w (⟨by decide, by decide⟩ : Iv 1 1 1) (by decide)) σ17 _ _ hw fr (Nat.lt_succ_self _) _ (lv_sub hl [1, 2, 0] rfl)
        · --
          have i48 : Iv j29_2 0 63 := iv_lt1 (iv_nle c11) ij29_2 (⟨by decide, by decide⟩ : Iv 64 64 64) (by decide)
          refine lv_aload_n hx hb dX11_round_35 rfl (lv_at hl 0 rfl) ?_
          refine g_676 cx hw ha0 k_f_X11_64 dX11_round_36 (fun v49 e49 h49 => ?_)
          refine lv_iload_n hx hb dX11_round_39 rfl (lv_at hl 2 rfl) ?_
          refine lv_iconst (v := (-1)) hx hb dX11_round_40 (by decide) ?_
          refine o_iast cx hw h49 (by decide) rfl (iv_in i48 (by decide)) trivial dX11_round_41 (fun σ50 H locs eσ50 hw => ?_)
          have fr := oFr_p fr eσ50 h49 (by decide)
          obtain ⟨v51, e51⟩ : ∃ y : Int32, y = j29_2 + 1 := ⟨_, rfl⟩
          have i51 : Iv v51 1 64 := iv_add e51 i48 (⟨by decide, by decide⟩ : Iv 1 1 1) (by decide)
          have x51 : v51.toInt = j29_2.toInt + 1 := ex_add e51 i48 (⟨by decide, by decide⟩ : Iv 1 1 1) (by decide)
          refine lv_iinc (v := v51) (lv' := [(2, .int v51), (0, .ref a0), (1, .int a1)]) hx hb dX11_round_42 hl (k := 2) rfl (by rw [e51]; rfl) (by decide) rfl (fun ls hl => ?_)
          refine lv_goto (tgt := 29) hx hb dX11_round_45 (by decide) ?_
          exact ih_29 v51 (iv_w i51 (by decide)) σ50 _ _ hw fr (ms_up x51 (by decide) (iv_w (a' := 0) (b' := 64) i51 (by decide)).2 hn_29) _ (lv_sub hl [1, 2, 0] rfl)
    exact J_29 _ 0 (iv_w (⟨by decide, by decide⟩ : Iv 0 0 0) (by decide)) σ9 _ _ hw fr (Nat.lt_succ_self _) _ (lv_sub hl [1, 2, 0] rfl)
  · --
    have i52 : Iv v3 0 0 := iv_eq1 c4 p3_1 (⟨by decide, by decide⟩ : Iv 0 0 0) (by decide)
    refine lv_iconst (v := (-1)) hx hb dX11_round_13 (by decide) ?_
    rw [← hQ]
    exact o_ri cx rx hw dX11_round_14 ⟨fr, (iv_w (⟨by decide, by decide⟩ : Iv (-1) (-1) (-1)) (by decide))⟩
abbrev fs_X11_lure : List Nat := [657, 658, 659, 660, 661, 662, 663, 669]
abbrev ts_X11_lure : List Nat := [48, 52, 55]
set_option maxHeartbeats 4000000 in
set_option maxRecDepth 100000 in
theorem c_X11_lure (a0 : Nat) (ha0 : oA L τ a0 10) (a1 : Int32) (a2 : Int32) : oMet l A L τ cy D K yX11_lure cX11_lure 6 (some .int) 342 8596 [.ref a0, .int a1, .int a2] σ (va_Qi (fun r σ1 => oFr τ fs_X11_lure ts_X11_lure σ σ1 ∧ Iv r (-2) 9) (oPo A L τ cy D) A) := by
  refine oMk (by decide) (Nat.le_of_ble_eq_true rfl) rfl ?_
  intro p e s m args below meth c ls cx rx hA hw hl
  generalize hQ : MQ below _ args s 0 0 A = Q
  have hx := cx.1.1
  have hb := cx.1.2.1
  have hml := cx.1.2.2.1
  have hown := cx.1.2.2.2.1
  have hts := cx.1.2.2.2.2
  have hl : lv_has ls 6 [(0, .ref a0), (1, .int a1), (2, .int a2)] := hl
  have fr : oFr τ fs_X11_lure ts_X11_lure σ σ := oFr_rf
  refine lv_aload_n hx hb dX11_lure_0 rfl (lv_at hl 0 rfl) ?_
  refine lv_iconst (v := 0) hx hb dX11_lure_1 (by decide) ?_
  refine p_658 cx hw ha0 k_f_X11_89 dX11_lure_2 (fun σ1 H locs eσ1 hw => ?_)
  have fr := oFr_i fr eσ1 (by decide)
  refine lv_aload_n hx hb dX11_lure_5 rfl (lv_at hl 0 rfl) ?_
  refine lv_iload_n hx hb dX11_lure_6 rfl (lv_at hl 1 rfl) ?_
  have i2 : Iv (σ1.1 641 a0) 0 8 := o_fb (j := 641) hw ha0 rfl
  have i3 : Iv (σ1.1 642 a0) 0 8 := o_fb (j := 642) hw ha0 rfl
  refine o_ci hw (oRunV cx hA hw q_X11_isCell k_m_X11_157 rfl ha0 (by decide) (As := [.int a1]) (c_X11_isCell a0 ha0 a1) (by decide) rfl hl.1 rfl (Nat.le_of_ble_eq_true rfl) dX11_lure_7 (by decide)) (fun v5 σ4 H locs hp hw => ?_)
  obtain ⟨p5_0, p5_1, p5_2, p5_3⟩ := hp
  rw [p5_0] at hw
  refine lv_if_eq (tgt := 23) hx hb dX11_lure_10 (by decide) (fun c6 => ?_) (fun c6 => ?_)
  · --
    have i7 : Iv v5 0 0 := iv_eq1 c6 p5_1 (⟨by decide, by decide⟩ : Iv 0 0 0) (by decide)
    refine lv_iconst (v := (-1)) hx hb dX11_lure_23 (by decide) ?_
    rw [← hQ]
    exact o_ri cx rx hw dX11_lure_24 ⟨fr, (iv_w (⟨by decide, by decide⟩ : Iv (-1) (-1) (-1)) (by decide))⟩
  · --
    have i8 : Iv v5 1 1 := iv_ne1 c6 p5_1 (⟨by decide, by decide⟩ : Iv 0 0 0) (by decide)
    have i9 : Iv a1 0 63 := p5_2 c6
    refine lv_iload_n hx hb dX11_lure_13 rfl (lv_at hl 2 rfl) ?_
    refine lv_iconst (v := 1) hx hb dX11_lure_14 (by decide) ?_
    refine lv_bipush (v := 100) hx hb dX11_lure_15 (by decide) ?_
    refine o_ci hw (oRunS cx hA hw q_X11_in k_m_X11_95 (As := [.int a2, .int 1, .int 100]) (c_X11_in a2 1 100) (by decide) rfl hl.1 rfl (Nat.le_of_ble_eq_true rfl) dX11_lure_17 (by decide)) (fun v11 σ10 H locs hp hw => ?_)
    obtain ⟨p11_0, p11_1, p11_2, p11_3, p11_4, p11_5⟩ := hp
    rw [p11_0] at hw
    refine lv_if_ne (tgt := 25) hx hb dX11_lure_20 (by decide) (fun c12 => ?_) (fun c12 => ?_)
    · --
      have i13 : Iv v11 1 1 := iv_ne1 c12 p11_1 (⟨by decide, by decide⟩ : Iv 0 0 0) (by decide)
      have i14 : Iv a2 1 100 := (fun h => iv_rel (p11_2 h) (⟨by decide, by decide⟩ : Iv 1 1 1) (⟨by decide, by decide⟩ : Iv 100 100 100)) c12
      refine lv_aload_n hx hb dX11_lure_25 rfl (lv_at hl 0 rfl) ?_
      refine g_640 cx hw ha0 k_f_X11_9 dX11_lure_26 (fun v15 e15 h15 => ?_)
      refine lv_aload_n hx hb dX11_lure_29 rfl (lv_at hl 0 rfl) ?_
      refine g_677 cx hw ha0 k_f_X11_67 dX11_lure_30 (fun v16 e16 h16 => ?_)
      refine lv_iconst (v := 0) hx hb dX11_lure_33 (by decide) ?_
      refine o_cv hw (oRunS cx hA hw q_X11_lay k_m_X11_251 (As := [.ref v15, .ref v16, .int 0]) (c_X11_layN v15 h15 v16 h16 0 (iv_w (⟨by decide, by decide⟩ : Iv 0 0 0) (by decide))) (by decide) rfl hl.1 rfl (Nat.le_of_ble_eq_true rfl) dX11_lure_34 (by decide)) (fun σ17 H locs hp hw => ?_)
      have p18_0 := hp
      have fr := oFr_tr fr p18_0 (by decide)
      refine lv_aload_n hx hb dX11_lure_37 rfl (lv_at hl 0 rfl) ?_
      refine lv_aload_n hx hb dX11_lure_38 rfl (lv_at hl 0 rfl) ?_
      refine g_640 cx hw ha0 k_f_X11_9 dX11_lure_39 (fun v19 e19 h19 => ?_)
      rw [show v19 = v15 from Option.some.inj (e19.symm.trans (((kr_c p18_0 (by decide)).trans e15)))]
      refine lv_iload_n hx hb dX11_lure_42 rfl (lv_at hl 1 rfl) ?_
      have i20 : Iv (σ17.1 647 a0) 0 6 := o_fb (j := 647) hw ha0 rfl
      refine o_ci hw (oRunV cx hA hw q_X11_herdsAt k_m_X11_233 rfl ha0 (by decide) (As := [.ref v15, .int a1]) (c_X11_herdsAt a0 ha0 v15 h15 a1) (by decide) rfl hl.1 rfl (Nat.le_of_ble_eq_true rfl) dX11_lure_43 (by decide)) (fun v22 σ21 H locs hp hw => ?_)
      obtain ⟨p22_0, p22_1, p22_2⟩ := hp
      rw [p22_0] at hw
      have frE_63 := fr
      have J_63 : ∀ (k63_0 : Int32) (ik63_0 : Iv k63_0 0 1), ∀ (σ_63 : oSt) (H : Heap) (locs : List Loc), oI A L τ cy D s.heap σ_63 H locs → oFr τ fs_X11_lure ts_X11_lure σ σ_63 → ∀ (ls : Array Slot), lv_has ls 6 [(0, .ref a0), (1, .int a1), (2, .int a2)] → W p l e ({ frames := 342, cells := 0, slots := 0, locals := 8596 } : Room) s m args below meth c H locs 0 0 Q (F0 m 63 ls [.int k63_0]) := by
        intro k63_0 ik63_0 σ_63 H locs hw fr      ls hl
        have fr_63 := fr
        refine lv_istore_n (lv' := [(3, .int k63_0), (0, .ref a0), (1, .int a1), (2, .int a2)]) hx hb dX11_lure_63 rfl hl (by decide) rfl (fun ls hl => ?_)
        refine lv_iload_n hx hb dX11_lure_64 rfl (lv_at hl 0 rfl) ?_
        refine lv_if_eq (tgt := 82) hx hb dX11_lure_65 (by decide) (fun c23 => ?_) (fun c23 => ?_)
        · --
          have i24 : Iv k63_0 0 0 := iv_eq1 c23 ik63_0 (⟨by decide, by decide⟩ : Iv 0 0 0) (by decide)
          refine lv_iconst (v := 1) hx hb dX11_lure_82 (by decide) ?_
          refine lv_istore (lv' := [(4, .int 1), (3, .int k63_0), (0, .ref a0), (1, .int a1), (2, .int a2)]) hx hb dX11_lure_83 hl (by decide) rfl (fun ls hl => ?_)
          have frE_85 := fr
          have J_85 : ∀ n85 : Nat, ∀ (j85_4 : Int32) (ij85_4 : Iv j85_4 1 10), ∀ (σ_85 : oSt) (H : Heap) (locs : List Loc), oI A L τ cy D s.heap σ_85 H locs → oFr τ fs_X11_lure ts_X11_lure σ σ_85 → (10 - j85_4.toInt).toNat < n85 → ∀ (ls : Array Slot), lv_has ls 6 [(0, .ref a0), (1, .int a1), (2, .int a2), (3, .int k63_0), (4, .int j85_4)] → W p l e ({ frames := 342, cells := 0, slots := 0, locals := 8596 } : Room) s m args below meth c H locs 0 0 Q (F0 m 85 ls []) := by
            intro n85
            induction n85 with
            | zero => intro j85_4 ij85_4 σ_85 H locs hw fr   hn_85   ls hl; exact absurd hn_85 (Nat.not_lt_zero _)
            | succ n85 ih_85 =>
              intro j85_4 ij85_4 σ_85 H locs hw fr   hn_85   ls hl
              have fr_85 := fr
              refine lv_iload hx hb dX11_lure_85 (lv_at hl 4 rfl) ?_
              refine lv_bipush (v := 9) hx hb dX11_lure_87 (by decide) ?_
              refine lv_icmp_gt (tgt := 208) hx hb dX11_lure_89 (by decide) (fun c25 => ?_) (fun c25 => ?_)
              · --
                have i26 : Iv j85_4 10 10 := iv_lt2 c25 (⟨by decide, by decide⟩ : Iv 9 9 9) ij85_4 (by decide)
                refine lv_bipush (v := (-2)) hx hb dX11_lure_208 (by decide) ?_
                rw [← hQ]
                exact o_ri cx rx hw dX11_lure_210 ⟨fr, (iv_w (⟨by decide, by decide⟩ : Iv (-2) (-2) (-2)) (by decide))⟩
              · --
                have i27 : Iv j85_4 1 9 := iv_le1 (iv_nlt c25) ij85_4 (⟨by decide, by decide⟩ : Iv 9 9 9) (by decide)
                refine lv_iconst (v := 0) hx hb dX11_lure_92 (by decide) ?_
                refine lv_istore (lv' := [(5, .int 0), (0, .ref a0), (1, .int a1), (2, .int a2), (3, .int k63_0), (4, .int j85_4)]) hx hb dX11_lure_93 hl (by decide) rfl (fun ls hl => ?_)
                have frE_95 := fr
                have J_95 : ∀ n95 : Nat, ∀ (j95_5 : Int32) (ij95_5 : Iv j95_5 0 64), ∀ (σ_95 : oSt) (H : Heap) (locs : List Loc), oI A L τ cy D s.heap σ_95 H locs → oFr τ fs_X11_lure ts_X11_lure σ σ_95 → (64 - j95_5.toInt).toNat < n95 → ∀ (ls : Array Slot), lv_has ls 6 [(0, .ref a0), (1, .int a1), (2, .int a2), (3, .int k63_0), (4, .int j85_4), (5, .int j95_5)] → W p l e ({ frames := 342, cells := 0, slots := 0, locals := 8596 } : Room) s m args below meth c H locs 0 0 Q (F0 m 95 ls []) := by
                  intro n95
                  induction n95 with
                  | zero => intro j95_5 ij95_5 σ_95 H locs hw fr   hn_95   ls hl; exact absurd hn_95 (Nat.not_lt_zero _)
                  | succ n95 ih_95 =>
                    intro j95_5 ij95_5 σ_95 H locs hw fr   hn_95   ls hl
                    have fr_95 := fr
                    refine lv_iload hx hb dX11_lure_95 (lv_at hl 5 rfl) ?_
                    refine lv_bipush (v := 64) hx hb dX11_lure_97 (by decide) ?_
                    refine lv_icmp_ge (tgt := 202) hx hb dX11_lure_99 (by decide) (fun c28 => ?_) (fun c28 => ?_)
                    · --
                      have i29 : Iv j95_5 64 64 := iv_le2 c28 (⟨by decide, by decide⟩ : Iv 64 64 64) ij95_5 (by decide)
                      obtain ⟨v30, e30⟩ : ∃ y : Int32, y = j85_4 + 1 := ⟨_, rfl⟩
                      have i30 : Iv v30 2 10 := iv_add e30 i27 (⟨by decide, by decide⟩ : Iv 1 1 1) (by decide)
                      have x30 : v30.toInt = j85_4.toInt + 1 := ex_add e30 i27 (⟨by decide, by decide⟩ : Iv 1 1 1) (by decide)
                      refine lv_iinc (v := v30) (lv' := [(4, .int v30), (0, .ref a0), (1, .int a1), (2, .int a2), (3, .int k63_0), (5, .int j95_5)]) hx hb dX11_lure_202 hl (k := 4) rfl (by rw [e30]; rfl) (by decide) rfl (fun ls hl => ?_)
                      refine lv_goto (tgt := 85) hx hb dX11_lure_205 (by decide) ?_
                      exact ih_85 v30 (iv_w i30 (by decide)) σ_95 _ _ hw fr (ms_up x30 (by decide) (iv_w (a' := 1) (b' := 10) i30 (by decide)).2 hn_85) _ (lv_sub hl [1, 2, 3, 4, 0] rfl)
                    · --
                      have i31 : Iv j95_5 0 63 := iv_lt1 (iv_nle c28) ij95_5 (⟨by decide, by decide⟩ : Iv 64 64 64) (by decide)
                      refine lv_aload_n hx hb dX11_lure_102 rfl (lv_at hl 0 rfl) ?_
                      refine lv_iload hx hb dX11_lure_103 (lv_at hl 5 rfl) ?_
                      have z32 : (σ_95.1 641 a0).toInt = ((σ1.1 641 a0) : Int32).toInt := congrArg Int32.toInt (show σ_95.1 641 a0 = (σ1.1 641 a0) from ((kp_c fr_95 (by decide)).trans ((kp_c frE_95 (by decide)).symm.trans (((kp_c fr_85 (by decide)).trans ((kp_c frE_85 (by decide)).symm.trans (((kp_c fr_63 (by decide)).trans ((kp_c frE_63 (by decide)).symm.trans (((kp_c p18_0 (by decide)).trans rfl)))))))))))
                      have z33 : (σ_95.1 642 a0).toInt = ((σ1.1 642 a0) : Int32).toInt := congrArg Int32.toInt (show σ_95.1 642 a0 = (σ1.1 642 a0) from ((kp_c fr_95 (by decide)).trans ((kp_c frE_95 (by decide)).symm.trans (((kp_c fr_85 (by decide)).trans ((kp_c frE_85 (by decide)).symm.trans (((kp_c fr_63 (by decide)).trans ((kp_c frE_63 (by decide)).symm.trans (((kp_c p18_0 (by decide)).trans rfl)))))))))))
                      refine o_ci hw (oRunV cx hA hw q_X11_isCell k_m_X11_157 rfl ha0 (by decide) (As := [.int j95_5]) (c_X11_isCell a0 ha0 j95_5) (by decide) rfl hl.1 rfl (Nat.le_of_ble_eq_true rfl) dX11_lure_105 (by decide)) (fun v35 σ34 H locs hp hw => ?_)
                      obtain ⟨p35_0, p35_1, p35_2, p35_3⟩ := hp
                      rw [p35_0] at hw
                      have frE_196 := fr
                      have J_196 : ∀ (σ_196 : oSt) (H : Heap) (locs : List Loc), oI A L τ cy D s.heap σ_196 H locs → oFr τ fs_X11_lure ts_X11_lure σ σ_196 → ∀ (ls : Array Slot), lv_has ls 6 [(0, .ref a0), (1, .int a1), (2, .int a2), (3, .int k63_0), (4, .int j85_4), (5, .int j95_5)] → W p l e ({ frames := 342, cells := 0, slots := 0, locals := 8596 } : Room) s m args below meth c H locs 0 0 Q (F0 m 196 ls []) := by
                        intro  σ_196 H locs hw fr      ls hl
                        have fr_196 := fr
                        obtain ⟨v36, e36⟩ : ∃ y : Int32, y = j95_5 + 1 := ⟨_, rfl⟩
                        have i36 : Iv v36 1 64 := iv_add e36 i31 (⟨by decide, by decide⟩ : Iv 1 1 1) (by decide)
                        have x36 : v36.toInt = j95_5.toInt + 1 := ex_add e36 i31 (⟨by decide, by decide⟩ : Iv 1 1 1) (by decide)
                        refine lv_iinc (v := v36) (lv' := [(5, .int v36), (0, .ref a0), (1, .int a1), (2, .int a2), (3, .int k63_0), (4, .int j85_4)]) hx hb dX11_lure_196 hl (k := 5) rfl (by rw [e36]; rfl) (by decide) rfl (fun ls hl => ?_)
                        refine lv_goto (tgt := 95) hx hb dX11_lure_199 (by decide) ?_
                        exact ih_95 v36 (iv_w i36 (by decide)) σ_196 _ _ hw fr (ms_up x36 (by decide) (iv_w (a' := 0) (b' := 64) i36 (by decide)).2 hn_95) _ (lv_sub hl [1, 2, 3, 4, 5, 0] rfl)
                      refine lv_if_eq (tgt := 196) hx hb dX11_lure_108 (by decide) (fun c37 => ?_) (fun c37 => ?_)
                      · --
                        have i38 : Iv v35 0 0 := iv_eq1 c37 p35_1 (⟨by decide, by decide⟩ : Iv 0 0 0) (by decide)
                        exact J_196 σ_95 _ _ hw fr _ (lv_sub hl [0, 1, 2, 3, 4, 5] rfl)
                      · --
                        have i39 : Iv v35 1 1 := iv_ne1 c37 p35_1 (⟨by decide, by decide⟩ : Iv 0 0 0) (by decide)
                        have i40 : Iv j95_5 0 63 := p35_2 c37
                        refine lv_aload_n hx hb dX11_lure_111 rfl (lv_at hl 0 rfl) ?_
                        refine g_643 cx hw ha0 k_f_X11_13 dX11_lure_112 (fun v41 e41 h41 => ?_)
                        refine lv_iload hx hb dX11_lure_115 (lv_at hl 5 rfl) ?_
                        refine o_iald cx hw h41 (by decide) rfl (iv_in i40 (by decide)) dX11_lure_117 (fun v42 e42 b42 => ?_)
                        refine lv_if_ne (tgt := 196) hx hb dX11_lure_118 (by decide) (fun c43 => ?_) (fun c43 => ?_)
                        · --
                          exact J_196 σ_95 _ _ hw fr _ (lv_sub hl [0, 1, 2, 3, 4, 5] rfl)
                        · --
                          have i44 : Iv v42 0 0 := iv_eq1 c43 (iv_top v42) (⟨by decide, by decide⟩ : Iv 0 0 0) (by decide)
                          refine lv_aload_n hx hb dX11_lure_121 rfl (lv_at hl 0 rfl) ?_
                          refine g_640 cx hw ha0 k_f_X11_9 dX11_lure_122 (fun v45 e45 h45 => ?_)
                          rw [show v45 = v15 from Option.some.inj (e45.symm.trans (((kr_c fr_95 (by decide)).trans ((kr_c frE_95 (by decide)).symm.trans (((kr_c fr_85 (by decide)).trans ((kr_c frE_85 (by decide)).symm.trans (((kr_c fr_63 (by decide)).trans ((kr_c frE_63 (by decide)).symm.trans (((kr_c p18_0 (by decide)).trans e15))))))))))))]
                          refine lv_bipush (v := 64) hx hb dX11_lure_125 (by decide) ?_
                          refine lv_iload hx hb dX11_lure_127 (lv_at hl 5 rfl) ?_
                          refine lv_iadd hx hb dX11_lure_129 ?_
                          refine lv_topi (fun v46 e46 => ?_)
                          have i46 : Iv v46 64 127 := iv_add e46 (⟨by decide, by decide⟩ : Iv 64 64 64) i40 (by decide)
                          have x46 : v46.toInt = j95_5.toInt + 64 := (ex_add e46 (⟨by decide, by decide⟩ : Iv 64 64 64) i40 (by decide)).trans (Int.add_comm _ _)
                          refine o_iald cx hw h15 (by decide) rfl (iv_in i46 (by decide)) dX11_lure_130 (fun v47 e47 b47 => ?_)
                          refine lv_iload hx hb dX11_lure_131 (lv_at hl 4 rfl) ?_
                          refine lv_iadd hx hb dX11_lure_133 ?_
                          refine lv_topi (fun v48 e48 => ?_)
                          refine lv_bipush (v := 9) hx hb dX11_lure_134 (by decide) ?_
                          refine lv_icmp_le (tgt := 142) hx hb dX11_lure_136 (by decide) (fun c49 => ?_) (fun c49 => ?_)
                          · --
                            have i50 : Iv v48 (-2147483648) 9 := iv_le1 c49 (iv_top v48) (⟨by decide, by decide⟩ : Iv 9 9 9) (by decide)
                            refine lv_aload_n hx hb dX11_lure_142 rfl (lv_at hl 0 rfl) ?_
                            refine g_640 cx hw ha0 k_f_X11_9 dX11_lure_143 (fun v51 e51 h51 => ?_)
                            rw [show v51 = v15 from Option.some.inj (e51.symm.trans (((kr_c fr_95 (by decide)).trans ((kr_c frE_95 (by decide)).symm.trans (((kr_c fr_85 (by decide)).trans ((kr_c frE_85 (by decide)).symm.trans (((kr_c fr_63 (by decide)).trans ((kr_c frE_63 (by decide)).symm.trans (((kr_c p18_0 (by decide)).trans e15))))))))))))]
                            refine lv_aload_n hx hb dX11_lure_146 rfl (lv_at hl 0 rfl) ?_
                            refine g_677 cx hw ha0 k_f_X11_67 dX11_lure_147 (fun v52 e52 h52 => ?_)
                            rw [show v52 = v16 from Option.some.inj (e52.symm.trans (((kr_c fr_95 (by decide)).trans ((kr_c frE_95 (by decide)).symm.trans (((kr_c fr_85 (by decide)).trans ((kr_c frE_85 (by decide)).symm.trans (((kr_c fr_63 (by decide)).trans ((kr_c frE_63 (by decide)).symm.trans (((kr_c p18_0 (by decide)).trans e16))))))))))))]
                            refine lv_iconst (v := 0) hx hb dX11_lure_150 (by decide) ?_
                            refine o_cv hw (oRunS cx hA hw q_X11_lay k_m_X11_251 (As := [.ref v15, .ref v16, .int 0]) (c_X11_layN v15 h15 v16 h16 0 (iv_w (⟨by decide, by decide⟩ : Iv 0 0 0) (by decide))) (by decide) rfl hl.1 rfl (Nat.le_of_ble_eq_true rfl) dX11_lure_151 (by decide)) (fun σ53 H locs hp hw => ?_)
                            have p54_0 := hp
                            have fr := oFr_tr fr p54_0 (by decide)
                            refine lv_aload_n hx hb dX11_lure_154 rfl (lv_at hl 0 rfl) ?_
                            refine g_677 cx hw ha0 k_f_X11_67 dX11_lure_155 (fun v55 e55 h55 => ?_)
                            rw [show v55 = v16 from Option.some.inj (e55.symm.trans (((kr_c p54_0 (by decide)).trans ((kr_c fr_95 (by decide)).trans ((kr_c frE_95 (by decide)).symm.trans (((kr_c fr_85 (by decide)).trans ((kr_c frE_85 (by decide)).symm.trans (((kr_c fr_63 (by decide)).trans ((kr_c frE_63 (by decide)).symm.trans (((kr_c p18_0 (by decide)).trans e16)))))))))))))]
                            refine lv_bipush (v := 64) hx hb dX11_lure_158 (by decide) ?_
                            refine lv_iload hx hb dX11_lure_160 (lv_at hl 5 rfl) ?_
                            refine lv_iadd hx hb dX11_lure_162 ?_
                            refine lv_topi (fun v56 e56 => ?_)
                            have i56 : Iv v56 64 127 := iv_add e56 (⟨by decide, by decide⟩ : Iv 64 64 64) i40 (by decide)
                            have x56 : v56.toInt = j95_5.toInt + 64 := (ex_add e56 (⟨by decide, by decide⟩ : Iv 64 64 64) i40 (by decide)).trans (Int.add_comm _ _)
                            refine lv_dup2_11 hx hb dX11_lure_163 rfl rfl ?_
                            refine o_iald cx hw h16 (by decide) rfl (iv_in i56 (by decide)) dX11_lure_164 (fun v57 e57 b57 => ?_)
                            refine lv_iload hx hb dX11_lure_165 (lv_at hl 4 rfl) ?_
                            refine lv_iadd hx hb dX11_lure_167 ?_
                            refine lv_topi (fun v58 e58 => ?_)
                            refine o_iast cx hw h16 (by decide) rfl (iv_in i56 (by decide)) (rb_lo i56 (by decide)) dX11_lure_168 (fun σ59 H locs eσ59 hw => ?_)
                            have fr := oFr_p fr eσ59 h16 (by decide)
                            refine lv_aload_n hx hb dX11_lure_169 rfl (lv_at hl 0 rfl) ?_
                            refine lv_iload_n hx hb dX11_lure_170 rfl (lv_at hl 1 rfl) ?_
                            refine lv_iload_n hx hb dX11_lure_171 rfl (lv_at hl 2 rfl) ?_
                            refine o_ci hw (oRunV cx hA hw q_X11_comesBy k_m_X11_348 rfl ha0 (by decide) (As := [.int a1, .int a2]) (c_X11_comesBy a0 ha0 a1 a2) (by decide) rfl hl.1 rfl (Nat.le_of_ble_eq_true rfl) dX11_lure_172 (by decide)) (fun v61 σ60 H locs hp hw => ?_)
                            obtain ⟨p61_0, p61_1⟩ := hp
                            have fr := oFr_tr fr p61_0 (by decide)
                            refine lv_if_ne (tgt := 181) hx hb dX11_lure_175 (by decide) (fun c62 => ?_) (fun c62 => ?_)
                            · --
                              have i63 : Iv v61 1 1 := iv_ne1 c62 p61_1 (⟨by decide, by decide⟩ : Iv 0 0 0) (by decide)
                              refine lv_aload_n hx hb dX11_lure_181 rfl (lv_at hl 0 rfl) ?_
                              refine lv_iconst (v := 0) hx hb dX11_lure_182 (by decide) ?_
                              refine p_657 cx hw ha0 (iv_w (⟨by decide, by decide⟩ : Iv 0 0 0) (by decide)) k_f_X11_92 dX11_lure_183 (fun σ64 H locs eσ64 hw => ?_)
                              have fr := oFr_i fr eσ64 (by decide)
                              refine lv_aload_n hx hb dX11_lure_186 rfl (lv_at hl 0 rfl) ?_
                              refine lv_iload hx hb dX11_lure_187 (lv_at hl 5 rfl) ?_
                              refine lv_i2l hx hb dX11_lure_189 rfl ?_
                              refine lv_topl (fun v65 e65 => ?_)
                              refine o_cv hw (oRunV cx hA hw q_X11_tell k_m_X11_278 rfl ha0 (by decide) (As := [.long v65]) (c_X11_tell a0 ha0 v65 (kn_iv ((kp_s eσ64)) (iv_w (⟨by decide, by decide⟩ : Iv 0 0 0) (by decide)))) (by decide) rfl hl.1 rfl (Nat.le_of_ble_eq_true rfl) dX11_lure_190 (by decide)) (fun σ66 H locs hp hw => ?_)
                              obtain ⟨p67_0, p67_1⟩ := hp
                              have fr := oFr_tr fr p67_0 (by decide)
                              have x69 : (σ66.1 657 a0).toInt = (0 : Int32).toInt + 1 := fin_tr p67_1 ((kp_s eσ64))
                              have i68 : Iv (σ66.1 657 a0) 1 1 := iv_fin x69 (⟨by decide, by decide⟩ : Iv 0 0 0) (by decide)
                              refine lv_iload hx hb dX11_lure_193 (lv_at hl 4 rfl) ?_
                              rw [← hQ]
                              exact o_ri cx rx hw dX11_lure_195 ⟨fr, (iv_w i27 (by decide))⟩
                            · --
                              have i70 : Iv v61 0 0 := iv_eq1 c62 p61_1 (⟨by decide, by decide⟩ : Iv 0 0 0) (by decide)
                              refine lv_goto (tgt := 196) hx hb dX11_lure_178 (by decide) ?_
                              exact J_196 σ60 _ _ hw fr _ (lv_sub hl [0, 1, 2, 3, 4, 5] rfl)
                          · --
                            have i71 : Iv v48 10 2147483647 := iv_lt2 (iv_nle c49) (⟨by decide, by decide⟩ : Iv 9 9 9) (iv_top v48) (by decide)
                            refine lv_goto (tgt := 196) hx hb dX11_lure_139 (by decide) ?_
                            exact J_196 σ_95 _ _ hw fr _ (lv_sub hl [0, 1, 2, 3, 4, 5] rfl)
                exact J_95 _ 0 (iv_w (⟨by decide, by decide⟩ : Iv 0 0 0) (by decide)) σ_85 _ _ hw fr (Nat.lt_succ_self _) _ (lv_sub hl [1, 2, 3, 4, 5, 0] rfl)
          exact J_85 _ 1 (iv_w (⟨by decide, by decide⟩ : Iv 1 1 1) (by decide)) σ_63 _ _ hw fr (Nat.lt_succ_self _) _ (lv_sub hl [2, 3, 4, 1, 0] rfl)
        · --
          have i72 : Iv k63_0 1 1 := iv_ne1 c23 ik63_0 (⟨by decide, by decide⟩ : Iv 0 0 0) (by decide)
          refine lv_aload_n hx hb dX11_lure_68 rfl (lv_at hl 1 rfl) ?_
          refine lv_iconst (v := 0) hx hb dX11_lure_69 (by decide) ?_
          refine p_657 cx hw ha0 (iv_w (⟨by decide, by decide⟩ : Iv 0 0 0) (by decide)) k_f_X11_92 dX11_lure_70 (fun σ73 H locs eσ73 hw => ?_)
          have fr := oFr_i fr eσ73 (by decide)
          refine lv_aload_n hx hb dX11_lure_73 rfl (lv_at hl 1 rfl) ?_
          refine lv_ldc2 (v := (-1)) hx hb hown (hts _ k_k_X11_327) dX11_lure_74 ?_
          refine o_cv hw (oRunV cx hA hw q_X11_tell k_m_X11_278 rfl ha0 (by decide) (As := [.long (-1)]) (c_X11_tell a0 ha0 (-1) (kn_iv ((kp_s eσ73)) (iv_w (⟨by decide, by decide⟩ : Iv 0 0 0) (by decide)))) (by decide) rfl hl.1 rfl (Nat.le_of_ble_eq_true rfl) dX11_lure_77 (by decide)) (fun σ74 H locs hp hw => ?_)
          obtain ⟨p75_0, p75_1⟩ := hp
          have fr := oFr_tr fr p75_0 (by decide)
          have x77 : (σ74.1 657 a0).toInt = (0 : Int32).toInt + 1 := fin_tr p75_1 ((kp_s eσ73))
          have i76 : Iv (σ74.1 657 a0) 1 1 := iv_fin x77 (⟨by decide, by decide⟩ : Iv 0 0 0) (by decide)
          refine lv_iconst (v := 0) hx hb dX11_lure_80 (by decide) ?_
          rw [← hQ]
          exact o_ri cx rx hw dX11_lure_81 ⟨fr, (iv_w (⟨by decide, by decide⟩ : Iv 0 0 0) (by decide))⟩
      have frE_58 := fr
      have J_58 : ∀ (σ_58 : oSt) (H : Heap) (locs : List Loc), oI A L τ cy D s.heap σ_58 H locs → oFr τ fs_X11_lure ts_X11_lure σ σ_58 → ∀ (ls : Array Slot), lv_has ls 6 [(0, .ref a0), (1, .int a1), (2, .int a2)] → W p l e ({ frames := 342, cells := 0, slots := 0, locals := 8596 } : Room) s m args below meth c H locs 0 0 Q (F0 m 58 ls []) := by
        intro  σ_58 H locs hw fr      ls hl
        have fr_58 := fr
        refine lv_iconst (v := 1) hx hb dX11_lure_58 (by decide) ?_
        refine lv_goto (tgt := 63) hx hb dX11_lure_59 (by decide) ?_
        exact J_63 1 (iv_w (⟨by decide, by decide⟩ : Iv 1 1 1) (by decide)) σ_58 _ _ hw fr _ (lv_sub hl [0, 1, 2] rfl)
      refine lv_if_ne (tgt := 58) hx hb dX11_lure_46 (by decide) (fun c78 => ?_) (fun c78 => ?_)
      · --
        have i79 : Iv v22 1 63 := iv_ne1 c78 p22_1 (⟨by decide, by decide⟩ : Iv 0 0 0) (by decide)
        exact J_58 σ17 _ _ hw fr _ (lv_sub hl [0, 1, 2] rfl)
      · --
        have i80 : Iv v22 0 0 := iv_eq1 c78 p22_1 (⟨by decide, by decide⟩ : Iv 0 0 0) (by decide)
        refine lv_aload_n hx hb dX11_lure_49 rfl (lv_at hl 0 rfl) ?_
        refine lv_iload_n hx hb dX11_lure_50 rfl (lv_at hl 1 rfl) ?_
        refine lv_iload_n hx hb dX11_lure_51 rfl (lv_at hl 2 rfl) ?_
        refine o_ci hw (oRunV cx hA hw q_X11_comesBy k_m_X11_348 rfl ha0 (by decide) (As := [.int a1, .int a2]) (c_X11_comesBy a0 ha0 a1 a2) (by decide) rfl hl.1 rfl (Nat.le_of_ble_eq_true rfl) dX11_lure_52 (by decide)) (fun v82 σ81 H locs hp hw => ?_)
        obtain ⟨p82_0, p82_1⟩ := hp
        have fr := oFr_tr fr p82_0 (by decide)
        refine lv_if_eq (tgt := 62) hx hb dX11_lure_55 (by decide) (fun c83 => ?_) (fun c83 => ?_)
        · --
          have i84 : Iv v82 0 0 := iv_eq1 c83 p82_1 (⟨by decide, by decide⟩ : Iv 0 0 0) (by decide)
          refine lv_iconst (v := 0) hx hb dX11_lure_62 (by decide) ?_
          exact J_63 0 (iv_w (⟨by decide, by decide⟩ : Iv 0 0 0) (by decide)) σ81 _ _ hw fr _ (lv_sub hl [0, 1, 2] rfl)
        · --
          have i85 : Iv v82 1 1 := iv_ne1 c83 p82_1 (⟨by decide, by decide⟩ : Iv 0 0 0) (by decide)
          exact J_58 σ81 _ _ hw fr _ (lv_sub hl [0, 1, 2] rfl)
    · --
      have i86 : Iv v11 0 0 := iv_eq1 c12 p11_1 (⟨by decide, by decide⟩ : Iv 0 0 0) (by decide)
      refine lv_iconst (v := (-1)) hx hb dX11_lure_23 (by decide) ?_
      rw [← hQ]
      exact o_ri cx rx hw dX11_lure_24 ⟨fr, (iv_w (⟨by decide, by decide⟩ : Iv (-1) (-1) (-1)) (by decide))⟩
abbrev fs_X11_hedge : List Nat := [657, 658, 659, 660, 661, 662, 663, 669]
abbrev ts_X11_hedge : List Nat := [48, 52, 55]
set_option maxHeartbeats 4000000 in
set_option maxRecDepth 100000 in
theorem c_X11_hedge (a0 : Nat) (ha0 : oA L τ a0 10) (a1 : Int32) (a2 : Int32) : oMet l A L τ cy D K yX11_hedge cX11_hedge 5 (some .int) 343 8620 [.ref a0, .int a1, .int a2] σ (va_Qi (fun r σ1 => oFr τ fs_X11_hedge ts_X11_hedge σ σ1 ∧ Iv r (-2) 2) (oPo A L τ cy D) A) := by
  refine oMk (by decide) (Nat.le_of_ble_eq_true rfl) rfl ?_
  intro p e s m args below meth c ls cx rx hA hw hl
  generalize hQ : MQ below _ args s 0 0 A = Q
  have hx := cx.1.1
  have hb := cx.1.2.1
  have hml := cx.1.2.2.1
  have hown := cx.1.2.2.2.1
  have hts := cx.1.2.2.2.2
  have hl : lv_has ls 5 [(0, .ref a0), (1, .int a1), (2, .int a2)] := hl
  have fr : oFr τ fs_X11_hedge ts_X11_hedge σ σ := oFr_rf
  refine lv_aload_n hx hb dX11_hedge_0 rfl (lv_at hl 0 rfl) ?_
  refine lv_iconst (v := 0) hx hb dX11_hedge_1 (by decide) ?_
  refine p_658 cx hw ha0 k_f_X11_89 dX11_hedge_2 (fun σ1 H locs eσ1 hw => ?_)
  have fr := oFr_i fr eσ1 (by decide)
  refine lv_aload_n hx hb dX11_hedge_5 rfl (lv_at hl 0 rfl) ?_
  refine lv_iload_n hx hb dX11_hedge_6 rfl (lv_at hl 1 rfl) ?_
  have i2 : Iv (σ1.1 641 a0) 0 8 := o_fb (j := 641) hw ha0 rfl
  have i3 : Iv (σ1.1 642 a0) 0 8 := o_fb (j := 642) hw ha0 rfl
  refine o_ci hw (oRunV cx hA hw q_X11_isCell k_m_X11_157 rfl ha0 (by decide) (As := [.int a1]) (c_X11_isCell a0 ha0 a1) (by decide) rfl hl.1 rfl (Nat.le_of_ble_eq_true rfl) dX11_hedge_7 (by decide)) (fun v5 σ4 H locs hp hw => ?_)
  obtain ⟨p5_0, p5_1, p5_2, p5_3⟩ := hp
  rw [p5_0] at hw
  refine lv_if_eq (tgt := 23) hx hb dX11_hedge_10 (by decide) (fun c6 => ?_) (fun c6 => ?_)
  · --
    have i7 : Iv v5 0 0 := iv_eq1 c6 p5_1 (⟨by decide, by decide⟩ : Iv 0 0 0) (by decide)
    refine lv_iconst (v := (-1)) hx hb dX11_hedge_23 (by decide) ?_
    rw [← hQ]
    exact o_ri cx rx hw dX11_hedge_24 ⟨fr, (iv_w (⟨by decide, by decide⟩ : Iv (-1) (-1) (-1)) (by decide))⟩
  · --
    have i8 : Iv v5 1 1 := iv_ne1 c6 p5_1 (⟨by decide, by decide⟩ : Iv 0 0 0) (by decide)
    have i9 : Iv a1 0 63 := p5_2 c6
    refine lv_iload_n hx hb dX11_hedge_13 rfl (lv_at hl 2 rfl) ?_
    refine lv_iconst (v := 1) hx hb dX11_hedge_14 (by decide) ?_
    refine lv_bipush (v := 100) hx hb dX11_hedge_15 (by decide) ?_
    refine o_ci hw (oRunS cx hA hw q_X11_in k_m_X11_95 (As := [.int a2, .int 1, .int 100]) (c_X11_in a2 1 100) (by decide) rfl hl.1 rfl (Nat.le_of_ble_eq_true rfl) dX11_hedge_17 (by decide)) (fun v11 σ10 H locs hp hw => ?_)
    obtain ⟨p11_0, p11_1, p11_2, p11_3, p11_4, p11_5⟩ := hp
    rw [p11_0] at hw
    refine lv_if_ne (tgt := 25) hx hb dX11_hedge_20 (by decide) (fun c12 => ?_) (fun c12 => ?_)
    · --
      have i13 : Iv v11 1 1 := iv_ne1 c12 p11_1 (⟨by decide, by decide⟩ : Iv 0 0 0) (by decide)
      have i14 : Iv a2 1 100 := (fun h => iv_rel (p11_2 h) (⟨by decide, by decide⟩ : Iv 1 1 1) (⟨by decide, by decide⟩ : Iv 100 100 100)) c12
      refine lv_aload_n hx hb dX11_hedge_25 rfl (lv_at hl 0 rfl) ?_
      refine lv_iload_n hx hb dX11_hedge_26 rfl (lv_at hl 1 rfl) ?_
      refine lv_iload_n hx hb dX11_hedge_27 rfl (lv_at hl 2 rfl) ?_
      refine lv_iconst (v := (-1)) hx hb dX11_hedge_28 (by decide) ?_
      refine lv_iconst (v := (-1)) hx hb dX11_hedge_29 (by decide) ?_
      refine o_ci hw (oRunV cx hA hw q_X11_isHedged k_m_X11_351 rfl ha0 (by decide) (As := [.int a1, .int a2, .int (-1), .int (-1)]) (c_X11_isHedged a0 ha0 a1 a2 (-1) (iv_w (⟨by decide, by decide⟩ : Iv (-1) (-1) (-1)) (by decide)) (-1) (iv_w (⟨by decide, by decide⟩ : Iv (-1) (-1) (-1)) (by decide))) (by decide) rfl hl.1 rfl (Nat.le_of_ble_eq_true rfl) dX11_hedge_30 (by decide)) (fun v16 σ15 H locs hp hw => ?_)
      obtain ⟨p16_0, p16_1⟩ := hp
      have fr := oFr_tr fr p16_0 (by decide)
      refine lv_if_eq (tgt := 43) hx hb dX11_hedge_33 (by decide) (fun c17 => ?_) (fun c17 => ?_)
      · --
        have i18 : Iv v16 0 0 := iv_eq1 c17 p16_1 (⟨by decide, by decide⟩ : Iv 0 0 0) (by decide)
        refine lv_iconst (v := 0) hx hb dX11_hedge_43 (by decide) ?_
        refine lv_istore_n (lv' := [(3, .int 0), (0, .ref a0), (1, .int a1), (2, .int a2)]) hx hb dX11_hedge_44 rfl hl (by decide) rfl (fun ls hl => ?_)
        have frE_45 := fr
        have J_45 : ∀ n45 : Nat, ∀ (j45_3 : Int32) (ij45_3 : Iv j45_3 0 64), ∀ (σ_45 : oSt) (H : Heap) (locs : List Loc), oI A L τ cy D s.heap σ_45 H locs → oFr τ fs_X11_hedge ts_X11_hedge σ σ_45 → (64 - j45_3.toInt).toNat < n45 → ∀ (ls : Array Slot), lv_has ls 5 [(0, .ref a0), (1, .int a1), (2, .int a2), (3, .int j45_3)] → W p l e ({ frames := 343, cells := 0, slots := 0, locals := 8620 } : Room) s m args below meth c H locs 0 0 Q (F0 m 45 ls []) := by
          intro n45
          induction n45 with
          | zero => intro j45_3 ij45_3 σ_45 H locs hw fr   hn_45   ls hl; exact absurd hn_45 (Nat.not_lt_zero _)
          | succ n45 ih_45 =>
            intro j45_3 ij45_3 σ_45 H locs hw fr   hn_45   ls hl
            have fr_45 := fr
            refine lv_iload_n hx hb dX11_hedge_45 rfl (lv_at hl 3 rfl) ?_
            refine lv_bipush (v := 64) hx hb dX11_hedge_46 (by decide) ?_
            refine lv_icmp_ge (tgt := 92) hx hb dX11_hedge_48 (by decide) (fun c19 => ?_) (fun c19 => ?_)
            · --
              have i20 : Iv j45_3 64 64 := iv_le2 c19 (⟨by decide, by decide⟩ : Iv 64 64 64) ij45_3 (by decide)
              refine lv_iconst (v := 0) hx hb dX11_hedge_92 (by decide) ?_
              refine lv_istore_n (lv' := [(3, .int 0), (0, .ref a0), (1, .int a1), (2, .int a2)]) hx hb dX11_hedge_93 rfl hl (by decide) rfl (fun ls hl => ?_)
              have frE_94 := fr
              have J_94 : ∀ n94 : Nat, ∀ (j94_3 : Int32) (ij94_3 : Iv j94_3 0 64), ∀ (σ_94 : oSt) (H : Heap) (locs : List Loc), oI A L τ cy D s.heap σ_94 H locs → oFr τ fs_X11_hedge ts_X11_hedge σ σ_94 → (64 - j94_3.toInt).toNat < n94 → ∀ (ls : Array Slot), lv_has ls 5 [(0, .ref a0), (1, .int a1), (2, .int a2), (3, .int j94_3)] → W p l e ({ frames := 343, cells := 0, slots := 0, locals := 8620 } : Room) s m args below meth c H locs 0 0 Q (F0 m 94 ls []) := by
                intro n94
                induction n94 with
                | zero => intro j94_3 ij94_3 σ_94 H locs hw fr   hn_94   ls hl; exact absurd hn_94 (Nat.not_lt_zero _)
                | succ n94 ih_94 =>
                  intro j94_3 ij94_3 σ_94 H locs hw fr   hn_94   ls hl
                  have fr_94 := fr
                  refine lv_iload_n hx hb dX11_hedge_94 rfl (lv_at hl 3 rfl) ?_
                  refine lv_bipush (v := 64) hx hb dX11_hedge_95 (by decide) ?_
                  refine lv_icmp_ge (tgt := 176) hx hb dX11_hedge_97 (by decide) (fun c21 => ?_) (fun c21 => ?_)
                  · --
                    have i22 : Iv j94_3 64 64 := iv_le2 c21 (⟨by decide, by decide⟩ : Iv 64 64 64) ij94_3 (by decide)
                    refine lv_bipush (v := (-2)) hx hb dX11_hedge_176 (by decide) ?_
                    rw [← hQ]
                    exact o_ri cx rx hw dX11_hedge_178 ⟨fr, (iv_w (⟨by decide, by decide⟩ : Iv (-2) (-2) (-2)) (by decide))⟩
                  · --
                    have i23 : Iv j94_3 0 63 := iv_lt1 (iv_nle c21) ij94_3 (⟨by decide, by decide⟩ : Iv 64 64 64) (by decide)
                    refine lv_iload_n hx hb dX11_hedge_100 rfl (lv_at hl 3 rfl) ?_
                    refine lv_iconst (v := 1) hx hb dX11_hedge_101 (by decide) ?_
                    refine lv_iadd hx hb dX11_hedge_102 ?_
                    refine lv_topi (fun v24 e24 => ?_)
                    have i24 : Iv v24 1 64 := iv_add e24 i23 (⟨by decide, by decide⟩ : Iv 1 1 1) (by decide)
                    have x24 : v24.toInt = j94_3.toInt + 1 := ex_add e24 i23 (⟨by decide, by decide⟩ : Iv 1 1 1) (by decide)
                    refine lv_istore (lv' := [(4, .int v24), (0, .ref a0), (1, .int a1), (2, .int a2), (3, .int j94_3)]) hx hb dX11_hedge_103 hl (by decide) rfl (fun ls hl => ?_)
                    have frE_105 := fr
                    have J_105 : ∀ n105 : Nat, ∀ (j105_4 : Int32) (ij105_4 : Iv j105_4 1 64), ∀ (σ_105 : oSt) (H : Heap) (locs : List Loc), oI A L τ cy D s.heap σ_105 H locs → oFr τ fs_X11_hedge ts_X11_hedge σ σ_105 → (64 - j105_4.toInt).toNat < n105 → ∀ (ls : Array Slot), lv_has ls 5 [(0, .ref a0), (1, .int a1), (2, .int a2), (3, .int j94_3), (4, .int j105_4)] → W p l e ({ frames := 343, cells := 0, slots := 0, locals := 8620 } : Room) s m args below meth c H locs 0 0 Q (F0 m 105 ls []) := by
                      intro n105
                      induction n105 with
                      | zero => intro j105_4 ij105_4 σ_105 H locs hw fr   hn_105   ls hl; exact absurd hn_105 (Nat.not_lt_zero _)
                      | succ n105 ih_105 =>
                        intro j105_4 ij105_4 σ_105 H locs hw fr   hn_105   ls hl
                        have fr_105 := fr
                        refine lv_iload hx hb dX11_hedge_105 (lv_at hl 4 rfl) ?_
                        refine lv_bipush (v := 64) hx hb dX11_hedge_107 (by decide) ?_
                        refine lv_icmp_ge (tgt := 170) hx hb dX11_hedge_109 (by decide) (fun c25 => ?_) (fun c25 => ?_)
                        · --
                          have i26 : Iv j105_4 64 64 := iv_le2 c25 (⟨by decide, by decide⟩ : Iv 64 64 64) ij105_4 (by decide)
                          obtain ⟨v27, e27⟩ : ∃ y : Int32, y = j94_3 + 1 := ⟨_, rfl⟩
                          have i27 : Iv v27 1 64 := iv_add e27 i23 (⟨by decide, by decide⟩ : Iv 1 1 1) (by decide)
                          have x27 : v27.toInt = j94_3.toInt + 1 := ex_add e27 i23 (⟨by decide, by decide⟩ : Iv 1 1 1) (by decide)
                          refine lv_iinc (v := v27) (lv' := [(3, .int v27), (0, .ref a0), (1, .int a1), (2, .int a2), (4, .int j105_4)]) hx hb dX11_hedge_170 hl (k := 3) rfl (by rw [e27]; rfl) (by decide) rfl (fun ls hl => ?_)
                          refine lv_goto (tgt := 94) hx hb dX11_hedge_173 (by decide) ?_
                          exact ih_94 v27 (iv_w i27 (by decide)) σ_105 _ _ hw fr (ms_up x27 (by decide) (iv_w (a' := 0) (b' := 64) i27 (by decide)).2 hn_94) _ (lv_sub hl [1, 2, 3, 0] rfl)
                        · --
                          have i28 : Iv j105_4 1 63 := iv_lt1 (iv_nle c25) ij105_4 (⟨by decide, by decide⟩ : Iv 64 64 64) (by decide)
                          refine lv_aload_n hx hb dX11_hedge_112 rfl (lv_at hl 0 rfl) ?_
                          refine lv_iload_n hx hb dX11_hedge_113 rfl (lv_at hl 3 rfl) ?_
                          refine o_ci hw (oRunV cx hA hw q_X11_canHedge k_m_X11_354 rfl ha0 (by decide) (As := [.int j94_3]) (c_X11_canHedge a0 ha0 j94_3) (by decide) rfl hl.1 rfl (Nat.le_of_ble_eq_true rfl) dX11_hedge_114 (by decide)) (fun v30 σ29 H locs hp hw => ?_)
                          obtain ⟨p30_0, p30_1, p30_2⟩ := hp
                          rw [p30_0] at hw
                          have frE_164 := fr
                          have J_164 : ∀ (σ_164 : oSt) (H : Heap) (locs : List Loc), oI A L τ cy D s.heap σ_164 H locs → oFr τ fs_X11_hedge ts_X11_hedge σ σ_164 → ∀ (ls : Array Slot), lv_has ls 5 [(0, .ref a0), (1, .int a1), (2, .int a2), (3, .int j94_3), (4, .int j105_4)] → W p l e ({ frames := 343, cells := 0, slots := 0, locals := 8620 } : Room) s m args below meth c H locs 0 0 Q (F0 m 164 ls []) := by
                            intro  σ_164 H locs hw fr      ls hl
                            have fr_164 := fr
                            obtain ⟨v31, e31⟩ : ∃ y : Int32, y = j105_4 + 1 := ⟨_, rfl⟩
                            have i31 : Iv v31 2 64 := iv_add e31 i28 (⟨by decide, by decide⟩ : Iv 1 1 1) (by decide)
                            have x31 : v31.toInt = j105_4.toInt + 1 := ex_add e31 i28 (⟨by decide, by decide⟩ : Iv 1 1 1) (by decide)
                            refine lv_iinc (v := v31) (lv' := [(4, .int v31), (0, .ref a0), (1, .int a1), (2, .int a2), (3, .int j94_3)]) hx hb dX11_hedge_164 hl (k := 4) rfl (by rw [e31]; rfl) (by decide) rfl (fun ls hl => ?_)
                            refine lv_goto (tgt := 105) hx hb dX11_hedge_167 (by decide) ?_
                            exact ih_105 v31 (iv_w i31 (by decide)) σ_164 _ _ hw fr (ms_up x31 (by decide) (iv_w (a' := 1) (b' := 64) i31 (by decide)).2 hn_105) _ (lv_sub hl [1, 2, 3, 4, 0] rfl)
                          refine lv_if_eq (tgt := 164) hx hb dX11_hedge_117 (by decide) (fun c32 => ?_) (fun c32 => ?_)
                          · --
                            have i33 : Iv v30 0 0 := iv_eq1 c32 p30_1 (⟨by decide, by decide⟩ : Iv 0 0 0) (by decide)
                            exact J_164 σ_105 _ _ hw fr _ (lv_sub hl [0, 1, 2, 3, 4] rfl)
                          · --
                            have i34 : Iv v30 1 1 := iv_ne1 c32 p30_1 (⟨by decide, by decide⟩ : Iv 0 0 0) (by decide)
                            have i35 : Iv j94_3 0 63 := p30_2 c32
                            refine lv_aload_n hx hb dX11_hedge_120 rfl (lv_at hl 0 rfl) ?_
                            refine lv_iload hx hb dX11_hedge_121 (lv_at hl 4 rfl) ?_
                            refine o_ci hw (oRunV cx hA hw q_X11_canHedge k_m_X11_354 rfl ha0 (by decide) (As := [.int j105_4]) (c_X11_canHedge a0 ha0 j105_4) (by decide) rfl hl.1 rfl (Nat.le_of_ble_eq_true rfl) dX11_hedge_123 (by decide)) (fun v37 σ36 H locs hp hw => ?_)
                            obtain ⟨p37_0, p37_1, p37_2⟩ := hp
                            rw [p37_0] at hw
                            refine lv_if_eq (tgt := 164) hx hb dX11_hedge_126 (by decide) (fun c38 => ?_) (fun c38 => ?_)
                            · --
                              have i39 : Iv v37 0 0 := iv_eq1 c38 p37_1 (⟨by decide, by decide⟩ : Iv 0 0 0) (by decide)
                              exact J_164 σ_105 _ _ hw fr _ (lv_sub hl [0, 1, 2, 3, 4] rfl)
                            · --
                              have i40 : Iv v37 1 1 := iv_ne1 c38 p37_1 (⟨by decide, by decide⟩ : Iv 0 0 0) (by decide)
                              have i41 : Iv j105_4 0 63 := p37_2 c38
                              have i42 : Iv j105_4 1 63 := iv_cap i41 i28 (by decide)
                              refine lv_aload_n hx hb dX11_hedge_129 rfl (lv_at hl 0 rfl) ?_
                              refine lv_iload_n hx hb dX11_hedge_130 rfl (lv_at hl 1 rfl) ?_
                              refine lv_iload_n hx hb dX11_hedge_131 rfl (lv_at hl 2 rfl) ?_
                              refine lv_iload_n hx hb dX11_hedge_132 rfl (lv_at hl 3 rfl) ?_
                              refine lv_iload hx hb dX11_hedge_133 (lv_at hl 4 rfl) ?_
                              refine o_ci hw (oRunV cx hA hw q_X11_isHedged k_m_X11_351 rfl ha0 (by decide) (As := [.int a1, .int a2, .int j94_3, .int j105_4]) (c_X11_isHedged a0 ha0 a1 a2 j94_3 (iv_w i35 (by decide)) j105_4 (iv_w i42 (by decide))) (by decide) rfl hl.1 rfl (Nat.le_of_ble_eq_true rfl) dX11_hedge_135 (by decide)) (fun v44 σ43 H locs hp hw => ?_)
                              obtain ⟨p44_0, p44_1⟩ := hp
                              have fr := oFr_tr fr p44_0 (by decide)
                              refine lv_if_ne (tgt := 144) hx hb dX11_hedge_138 (by decide) (fun c45 => ?_) (fun c45 => ?_)
                              · --
                                have i46 : Iv v44 1 1 := iv_ne1 c45 p44_1 (⟨by decide, by decide⟩ : Iv 0 0 0) (by decide)
                                refine lv_aload_n hx hb dX11_hedge_144 rfl (lv_at hl 0 rfl) ?_
                                refine lv_iconst (v := 0) hx hb dX11_hedge_145 (by decide) ?_
                                refine p_657 cx hw ha0 (iv_w (⟨by decide, by decide⟩ : Iv 0 0 0) (by decide)) k_f_X11_92 dX11_hedge_146 (fun σ47 H locs eσ47 hw => ?_)
                                have fr := oFr_i fr eσ47 (by decide)
                                refine lv_aload_n hx hb dX11_hedge_149 rfl (lv_at hl 0 rfl) ?_
                                refine lv_iload_n hx hb dX11_hedge_150 rfl (lv_at hl 3 rfl) ?_
                                refine lv_i2l hx hb dX11_hedge_151 rfl ?_
                                refine lv_topl (fun v48 e48 => ?_)
                                refine o_cv hw (oRunV cx hA hw q_X11_tell k_m_X11_278 rfl ha0 (by decide) (As := [.long v48]) (c_X11_tell a0 ha0 v48 (kn_iv ((kp_s eσ47)) (iv_w (⟨by decide, by decide⟩ : Iv 0 0 0) (by decide)))) (by decide) rfl hl.1 rfl (Nat.le_of_ble_eq_true rfl) dX11_hedge_152 (by decide)) (fun σ49 H locs hp hw => ?_)
                                obtain ⟨p50_0, p50_1⟩ := hp
                                have fr := oFr_tr fr p50_0 (by decide)
                                have x52 : (σ49.1 657 a0).toInt = (0 : Int32).toInt + 1 := fin_tr p50_1 ((kp_s eσ47))
                                have i51 : Iv (σ49.1 657 a0) 1 1 := iv_fin x52 (⟨by decide, by decide⟩ : Iv 0 0 0) (by decide)
                                refine lv_aload_n hx hb dX11_hedge_155 rfl (lv_at hl 0 rfl) ?_
                                refine lv_iload hx hb dX11_hedge_156 (lv_at hl 4 rfl) ?_
                                refine lv_i2l hx hb dX11_hedge_158 rfl ?_
                                refine lv_topl (fun v53 e53 => ?_)
                                refine o_cv hw (oRunV cx hA hw q_X11_tell k_m_X11_278 rfl ha0 (by decide) (As := [.long v53]) (c_X11_tell a0 ha0 v53 (kn_iv (rfl) (iv_w i51 (by decide)))) (by decide) rfl hl.1 rfl (Nat.le_of_ble_eq_true rfl) dX11_hedge_159 (by decide)) (fun σ54 H locs hp hw => ?_)
                                obtain ⟨p55_0, p55_1⟩ := hp
                                have fr := oFr_tr fr p55_0 (by decide)
                                have x57 : (σ54.1 657 a0).toInt = (σ49.1 657 a0).toInt + 1 := fin_tr p55_1 (rfl)
                                have i56 : Iv (σ54.1 657 a0) 2 2 := iv_fin x57 i51 (by decide)
                                refine lv_iconst (v := 2) hx hb dX11_hedge_162 (by decide) ?_
                                rw [← hQ]
                                exact o_ri cx rx hw dX11_hedge_163 ⟨fr, (iv_w (⟨by decide, by decide⟩ : Iv 2 2 2) (by decide))⟩
                              · --
                                have i58 : Iv v44 0 0 := iv_eq1 c45 p44_1 (⟨by decide, by decide⟩ : Iv 0 0 0) (by decide)
                                refine lv_goto (tgt := 164) hx hb dX11_hedge_141 (by decide) ?_
                                exact J_164 σ43 _ _ hw fr _ (lv_sub hl [0, 1, 2, 3, 4] rfl)
                    exact J_105 _ v24 i24 σ_94 _ _ hw fr (Nat.lt_succ_self _) _ (lv_sub hl [1, 2, 3, 4, 0] rfl)
              exact J_94 _ 0 (iv_w (⟨by decide, by decide⟩ : Iv 0 0 0) (by decide)) σ_45 _ _ hw fr (Nat.lt_succ_self _) _ (lv_sub hl [1, 2, 3, 0] rfl)
            · --
              have i59 : Iv j45_3 0 63 := iv_lt1 (iv_nle c19) ij45_3 (⟨by decide, by decide⟩ : Iv 64 64 64) (by decide)
              refine lv_aload_n hx hb dX11_hedge_51 rfl (lv_at hl 0 rfl) ?_
              refine lv_iload_n hx hb dX11_hedge_52 rfl (lv_at hl 3 rfl) ?_
              refine o_ci hw (oRunV cx hA hw q_X11_canHedge k_m_X11_354 rfl ha0 (by decide) (As := [.int j45_3]) (c_X11_canHedge a0 ha0 j45_3) (by decide) rfl hl.1 rfl (Nat.le_of_ble_eq_true rfl) dX11_hedge_53 (by decide)) (fun v61 σ60 H locs hp hw => ?_)
              obtain ⟨p61_0, p61_1, p61_2⟩ := hp
              rw [p61_0] at hw
              have frE_86 := fr
              have J_86 : ∀ (σ_86 : oSt) (H : Heap) (locs : List Loc), oI A L τ cy D s.heap σ_86 H locs → oFr τ fs_X11_hedge ts_X11_hedge σ σ_86 → ∀ (ls : Array Slot), lv_has ls 5 [(0, .ref a0), (1, .int a1), (2, .int a2), (3, .int j45_3)] → W p l e ({ frames := 343, cells := 0, slots := 0, locals := 8620 } : Room) s m args below meth c H locs 0 0 Q (F0 m 86 ls []) := by
                intro  σ_86 H locs hw fr      ls hl
                have fr_86 := fr
                obtain ⟨v62, e62⟩ : ∃ y : Int32, y = j45_3 + 1 := ⟨_, rfl⟩
                have i62 : Iv v62 1 64 := iv_add e62 i59 (⟨by decide, by decide⟩ : Iv 1 1 1) (by decide)
                have x62 : v62.toInt = j45_3.toInt + 1 := ex_add e62 i59 (⟨by decide, by decide⟩ : Iv 1 1 1) (by decide)
                refine lv_iinc (v := v62) (lv' := [(3, .int v62), (0, .ref a0), (1, .int a1), (2, .int a2)]) hx hb dX11_hedge_86 hl (k := 3) rfl (by rw [e62]; rfl) (by decide) rfl (fun ls hl => ?_)
                refine lv_goto (tgt := 45) hx hb dX11_hedge_89 (by decide) ?_
                exact ih_45 v62 (iv_w i62 (by decide)) σ_86 _ _ hw fr (ms_up x62 (by decide) (iv_w (a' := 0) (b' := 64) i62 (by decide)).2 hn_45) _ (lv_sub hl [1, 2, 3, 0] rfl)
              refine lv_if_eq (tgt := 86) hx hb dX11_hedge_56 (by decide) (fun c63 => ?_) (fun c63 => ?_)
              · --
                have i64 : Iv v61 0 0 := iv_eq1 c63 p61_1 (⟨by decide, by decide⟩ : Iv 0 0 0) (by decide)
                exact J_86 σ_45 _ _ hw fr _ (lv_sub hl [0, 1, 2, 3] rfl)
              · --
                have i65 : Iv v61 1 1 := iv_ne1 c63 p61_1 (⟨by decide, by decide⟩ : Iv 0 0 0) (by decide)
                have i66 : Iv j45_3 0 63 := p61_2 c63
                refine lv_aload_n hx hb dX11_hedge_59 rfl (lv_at hl 0 rfl) ?_
                refine lv_iload_n hx hb dX11_hedge_60 rfl (lv_at hl 1 rfl) ?_
                refine lv_iload_n hx hb dX11_hedge_61 rfl (lv_at hl 2 rfl) ?_
                refine lv_iload_n hx hb dX11_hedge_62 rfl (lv_at hl 3 rfl) ?_
                refine lv_iconst (v := (-1)) hx hb dX11_hedge_63 (by decide) ?_
                refine o_ci hw (oRunV cx hA hw q_X11_isHedged k_m_X11_351 rfl ha0 (by decide) (As := [.int a1, .int a2, .int j45_3, .int (-1)]) (c_X11_isHedged a0 ha0 a1 a2 j45_3 (iv_w i66 (by decide)) (-1) (iv_w (⟨by decide, by decide⟩ : Iv (-1) (-1) (-1)) (by decide))) (by decide) rfl hl.1 rfl (Nat.le_of_ble_eq_true rfl) dX11_hedge_64 (by decide)) (fun v68 σ67 H locs hp hw => ?_)
                obtain ⟨p68_0, p68_1⟩ := hp
                have fr := oFr_tr fr p68_0 (by decide)
                refine lv_if_ne (tgt := 73) hx hb dX11_hedge_67 (by decide) (fun c69 => ?_) (fun c69 => ?_)
                · --
                  have i70 : Iv v68 1 1 := iv_ne1 c69 p68_1 (⟨by decide, by decide⟩ : Iv 0 0 0) (by decide)
                  refine lv_aload_n hx hb dX11_hedge_73 rfl (lv_at hl 0 rfl) ?_
                  refine lv_iconst (v := 0) hx hb dX11_hedge_74 (by decide) ?_
                  refine p_657 cx hw ha0 (iv_w (⟨by decide, by decide⟩ : Iv 0 0 0) (by decide)) k_f_X11_92 dX11_hedge_75 (fun σ71 H locs eσ71 hw => ?_)
                  have fr := oFr_i fr eσ71 (by decide)
                  refine lv_aload_n hx hb dX11_hedge_78 rfl (lv_at hl 0 rfl) ?_
                  refine lv_iload_n hx hb dX11_hedge_79 rfl (lv_at hl 3 rfl) ?_
                  refine lv_i2l hx hb dX11_hedge_80 rfl ?_
                  refine lv_topl (fun v72 e72 => ?_)
                  refine o_cv hw (oRunV cx hA hw q_X11_tell k_m_X11_278 rfl ha0 (by decide) (As := [.long v72]) (c_X11_tell a0 ha0 v72 (kn_iv ((kp_s eσ71)) (iv_w (⟨by decide, by decide⟩ : Iv 0 0 0) (by decide)))) (by decide) rfl hl.1 rfl (Nat.le_of_ble_eq_true rfl) dX11_hedge_81 (by decide)) (fun σ73 H locs hp hw => ?_)
                  obtain ⟨p74_0, p74_1⟩ := hp
                  have fr := oFr_tr fr p74_0 (by decide)
                  have x76 : (σ73.1 657 a0).toInt = (0 : Int32).toInt + 1 := fin_tr p74_1 ((kp_s eσ71))
                  have i75 : Iv (σ73.1 657 a0) 1 1 := iv_fin x76 (⟨by decide, by decide⟩ : Iv 0 0 0) (by decide)
                  refine lv_iconst (v := 1) hx hb dX11_hedge_84 (by decide) ?_
                  rw [← hQ]
                  exact o_ri cx rx hw dX11_hedge_85 ⟨fr, (iv_w (⟨by decide, by decide⟩ : Iv 1 1 1) (by decide))⟩
                · --
                  have i77 : Iv v68 0 0 := iv_eq1 c69 p68_1 (⟨by decide, by decide⟩ : Iv 0 0 0) (by decide)
                  refine lv_goto (tgt := 86) hx hb dX11_hedge_70 (by decide) ?_
                  exact J_86 σ67 _ _ hw fr _ (lv_sub hl [0, 1, 2, 3] rfl)
        exact J_45 _ 0 (iv_w (⟨by decide, by decide⟩ : Iv 0 0 0) (by decide)) σ15 _ _ hw fr (Nat.lt_succ_self _) _ (lv_sub hl [1, 2, 3, 0] rfl)
      · --
        have i78 : Iv v16 1 1 := iv_ne1 c17 p16_1 (⟨by decide, by decide⟩ : Iv 0 0 0) (by decide)
        refine lv_aload_n hx hb dX11_hedge_36 rfl (lv_at hl 0 rfl) ?_
        refine lv_iconst (v := 0) hx hb dX11_hedge_37 (by decide) ?_
        refine p_657 cx hw ha0 (iv_w (⟨by decide, by decide⟩ : Iv 0 0 0) (by decide)) k_f_X11_92 dX11_hedge_38 (fun σ79 H locs eσ79 hw => ?_)
        have fr := oFr_i fr eσ79 (by decide)
        refine lv_iconst (v := 0) hx hb dX11_hedge_41 (by decide) ?_
        rw [← hQ]
        exact o_ri cx rx hw dX11_hedge_42 ⟨fr, (iv_w (⟨by decide, by decide⟩ : Iv 0 0 0) (by decide))⟩
    · --
      have i80 : Iv v11 0 0 := iv_eq1 c12 p11_1 (⟨by decide, by decide⟩ : Iv 0 0 0) (by decide)
      refine lv_iconst (v := (-1)) hx hb dX11_hedge_23 (by decide) ?_
      rw [← hQ]
      exact o_ri cx rx hw dX11_hedge_24 ⟨fr, (iv_w (⟨by decide, by decide⟩ : Iv (-1) (-1) (-1)) (by decide))⟩
end OM
