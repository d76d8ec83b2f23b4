section OM
variable {l : Launch} {A : Nat → Prop} {L : List Nat} {τ : Nat → Nat} {cy : Nat → ClassId} {D : va_G} {K : (Nat → Nat) × (Nat → Nat)} {σ : oSt}
abbrev fs_X11_owners : List Nat := [658]
abbrev ts_X11_owners : List Nat := []
set_option maxHeartbeats 4000000 in
set_option maxRecDepth 100000 in
theorem c_X11_owners (a0 : Nat) (ha0 : oA L τ a0 10) : oMet l A L τ cy D K yX11_owners cX11_owners 8 (some .int) 0 0 [.ref a0] σ (va_Qi (fun r σ1 => oFr τ fs_X11_owners ts_X11_owners σ σ1 ∧ Iv r (-2) (-2)) (oPo A L τ cy D) A) := by
  refine oMk (by decide) (Nat.le_of_ble_eq_true rfl) rfl ?_
  intro p e s m args below meth c ls cx rx hA hw hl
  generalize hQ : MQ below _ args s 0 0 A = Q
  have hx := cx.1.1
  have hb := cx.1.2.1
  have hml := cx.1.2.2.1
  have hown := cx.1.2.2.2.1
  have hts := cx.1.2.2.2.2
  have hl : lv_has ls 8 [(0, .ref a0)] := hl
  have fr : oFr τ fs_X11_owners ts_X11_owners σ σ := oFr_rf
  refine lv_aload_n hx hb dX11_owners_0 rfl (lv_at hl 0 rfl) ?_
  refine lv_iconst (v := 0) hx hb dX11_owners_1 (by decide) ?_
  refine p_658 cx hw ha0 k_f_X11_89 dX11_owners_2 (fun σ1 H locs eσ1 hw => ?_)
  have fr := oFr_i fr eσ1 (by decide)
  refine lv_aload_n hx hb dX11_owners_5 rfl (lv_at hl 0 rfl) ?_
  refine g_647 cx hw ha0 k_f_X11_105 dX11_owners_6 (fun v2 e2 i2 => ?_)
  refine lv_if_ne (tgt := 15) hx hb dX11_owners_9 (by decide) (fun c3 => ?_) (fun c3 => ?_)
  · --
    exact iv_no (iv_ne1 c3 i2 (⟨by decide, by decide⟩ : Iv 0 0 0) (by decide)) (by decide)
  · --
    refine lv_bipush (v := (-2)) hx hb dX11_owners_12 (by decide) ?_
    rw [← hQ]
    exact o_ri cx rx hw dX11_owners_14 ⟨fr, (iv_w (⟨by decide, by decide⟩ : Iv (-2) (-2) (-2)) (by decide))⟩
abbrev fs_X11_least : List Nat := [650, 658]
abbrev ts_X11_least : List Nat := []
set_option maxHeartbeats 4000000 in
set_option maxRecDepth 100000 in
theorem c_X11_least (a0 : Nat) (ha0 : oA L τ a0 10) : oMet l A L τ cy D K yX11_least cX11_least 6 (some .int) 1 24 [.ref a0] σ (va_Qi (fun r σ1 => oFr τ fs_X11_least ts_X11_least σ σ1 ∧ Iv r (-2) (-2) ∧ (σ1.1 650 a0 = σ.1 650 a0)) (oPo A L τ cy D) A) := by
  refine oMk (by decide) (Nat.le_of_ble_eq_true rfl) rfl ?_
  intro p e s m args below meth c ls cx rx hA hw hl
  generalize hQ : MQ below _ args s 0 0 A = Q
  have hx := cx.1.1
  have hb := cx.1.2.1
  have hml := cx.1.2.2.1
  have hown := cx.1.2.2.2.1
  have hts := cx.1.2.2.2.2
  have hl : lv_has ls 6 [(0, .ref a0)] := hl
  have fr : oFr τ fs_X11_least ts_X11_least σ σ := oFr_rf
  refine lv_aload_n hx hb dX11_least_0 rfl (lv_at hl 0 rfl) ?_
  refine lv_iconst (v := 0) hx hb dX11_least_1 (by decide) ?_
  refine p_658 cx hw ha0 k_f_X11_89 dX11_least_2 (fun σ1 H locs eσ1 hw => ?_)
  have fr := oFr_i fr eσ1 (by decide)
  refine lv_aload_n hx hb dX11_least_5 rfl (lv_at hl 0 rfl) ?_
  refine g_650 cx hw ha0 k_f_X11_25 dX11_least_6 (fun v2 e2 => ?_)
  rw [show v2 = (σ.1 650 a0) from e2.trans ((kp_i eσ1 (by decide)).trans rfl)]
  refine lv_istore_n (lv' := [(1, .int (σ.1 650 a0)), (0, .ref a0)]) hx hb dX11_least_9 rfl hl (by decide) rfl (fun ls hl => ?_)
  refine lv_bipush (v := (-2)) hx hb dX11_least_10 (by decide) ?_
  refine lv_istore_n (lv' := [(2, .int (-2)), (1, .int (σ.1 650 a0)), (0, .ref a0)]) hx hb dX11_least_12 rfl hl (by decide) rfl (fun ls hl => ?_)
  refine lv_iconst (v := 0) hx hb dX11_least_13 (by decide) ?_
  refine lv_istore_n (lv' := [(3, .int 0), (2, .int (-2)), (1, .int (σ.1 650 a0)), (0, .ref a0)]) hx hb dX11_least_14 rfl hl (by decide) rfl (fun ls hl => ?_)
  have frE_15 := fr
  have J_15 : ∀ n15 : Nat, ∀ (j15_3 : Int32) (ij15_3 : Iv j15_3 0 100), ∀ (σ_15 : oSt) (H : Heap) (locs : List Loc), oI A L τ cy D s.heap σ_15 H locs → oFr τ fs_X11_least ts_X11_least σ σ_15 → Iv (σ_15.1 650 a0) (-2147483648) 2147483647 → (100 - j15_3.toInt).toNat < n15 → ∀ (ls : Array Slot), lv_has ls 6 [(0, .ref a0), (1, .int (σ.1 650 a0)), (2, .int (-2)), (3, .int j15_3)] → W p l e ({ frames := 1, cells := 0, slots := 0, locals := 24 } : Room) s m args below meth c H locs 0 0 Q (F0 m 15 ls []) := by
    intro n15
    induction n15 with
    | zero => intro j15_3 ij15_3 σ_15 H locs hw fr f15_650_a0  hn_15   ls hl; exact absurd hn_15 (Nat.not_lt_zero _)
    | succ n15 ih_15 =>
      intro j15_3 ij15_3 σ_15 H locs hw fr f15_650_a0  hn_15   ls hl
      have fr_15 := fr
      refine lv_iload_n hx hb dX11_least_15 rfl (lv_at hl 3 rfl) ?_
      refine lv_bipush (v := 99) hx hb dX11_least_16 (by decide) ?_
      have J_73 : ∀ (H : Heap) (locs : List Loc), oI A L τ cy D s.heap σ_15 H locs → ∀ (ls : Array Slot), lv_has ls 6 [(0, .ref a0), (1, .int (σ.1 650 a0)), (2, .int (-2)), (3, .int j15_3)] → W p l e ({ frames := 1, cells := 0, slots := 0, locals := 24 } : Room) s m args below meth c H locs 0 0 Q (F0 m 73 ls []) := by
        intro  H locs hw     ls hl
        refine lv_aload_n hx hb dX11_least_73 rfl (lv_at hl 0 rfl) ?_
        refine lv_iload_n hx hb dX11_least_74 rfl (lv_at hl 1 rfl) ?_
        refine p_650 cx hw ha0 k_f_X11_25 dX11_least_75 (fun σ3 H locs eσ3 hw => ?_)
        have fr := oFr_i fr eσ3 (by decide)
        refine lv_iload_n hx hb dX11_least_78 rfl (lv_at hl 2 rfl) ?_
        rw [← hQ]
        exact o_ri cx rx hw dX11_least_79 ⟨fr, (iv_w (⟨by decide, by decide⟩ : Iv (-2) (-2) (-2)) (by decide)), (by exact (kp_s eσ3))⟩
      refine lv_icmp_gt (tgt := 73) hx hb dX11_least_18 (by decide) (fun c4 => ?_) (fun c4 => ?_)
      · --
        have i5 : Iv j15_3 100 100 := iv_lt2 c4 (⟨by decide, by decide⟩ : Iv 99 99 99) ij15_3 (by decide)
        exact J_73 _ _ hw _ (lv_sub hl [0, 1, 2, 3] rfl)
      · --
        have i6 : Iv j15_3 0 99 := iv_le1 (iv_nlt c4) ij15_3 (⟨by decide, by decide⟩ : Iv 99 99 99) (by decide)
        refine lv_iload_n hx hb dX11_least_21 rfl (lv_at hl 2 rfl) ?_
        refine lv_if_ge (tgt := 73) hx hb dX11_least_22 (by decide) (fun c7 => ?_) (fun c7 => ?_)
        · --
          exact iv_no (iv_le1 (b' := (-1)) c7 (⟨by decide, by decide⟩ : Iv 0 0 0) (⟨by decide, by decide⟩ : Iv (-2) (-2) (-2)) (by decide)) (by decide)
        · --
          refine lv_aload_n hx hb dX11_least_25 rfl (lv_at hl 0 rfl) ?_
          refine lv_iload_n hx hb dX11_least_26 rfl (lv_at hl 3 rfl) ?_
          refine p_650 cx hw ha0 k_f_X11_25 dX11_least_27 (fun σ8 H locs eσ8 hw => ?_)
          have fr := oFr_i fr eσ8 (by decide)
          refine lv_aload_n hx hb dX11_least_30 rfl (lv_at hl 0 rfl) ?_
          refine lv_aload_n hx hb dX11_least_31 rfl (lv_at hl 0 rfl) ?_
          refine g_640 cx hw ha0 k_f_X11_9 dX11_least_32 (fun v9 e9 h9 => ?_)
          refine o_cl hw (oRunV cx hA hw q_X11_pieceOfAll k_m_X11_334 rfl ha0 (by decide) (As := [.ref v9]) (c_X11_pieceOfAll a0 ha0 v9 h9) (by decide) rfl hl.1 rfl (Nat.le_of_ble_eq_true rfl) dX11_least_35 (by decide)) (fun v11 σ10 H locs hp hw => ?_)
          obtain ⟨p11_0, p11_1⟩ := hp
          rw [p11_0] at hw
          rw [p11_1]
          refine lv_lstore (lv' := [(4, .long 0), (0, .ref a0), (1, .int (σ.1 650 a0)), (2, .int (-2)), (3, .int j15_3)]) hx hb dX11_least_38 hl (by decide) rfl (fun ls hl => ?_)
          refine lv_lload hx hb dX11_least_40 (lv_at hl 0 rfl) ?_
          refine lv_lconst (v := 0) hx hb dX11_least_42 (by decide) ?_
          refine W.lcmp hx hb dX11_least_43 ?_
          refine lv_topi (fun v12 e12 => ?_)
          have i12 : Iv v12 0 0 := (by rw [e12]; exact ⟨by decide, by decide⟩)
          have J_67 : ∀ (H : Heap) (locs : List Loc), oI A L τ cy D s.heap σ8 H locs → ∀ (ls : Array Slot), lv_has ls 6 [(0, .ref a0), (1, .int (σ.1 650 a0)), (2, .int (-2)), (3, .int j15_3), (4, .long 0)] → W p l e ({ frames := 1, cells := 0, slots := 0, locals := 24 } : Room) s m args below meth c H locs 0 0 Q (F0 m 67 ls []) := by
            intro  H locs hw     ls hl
            obtain ⟨v13, e13⟩ : ∃ y : Int32, y = j15_3 + 1 := ⟨_, rfl⟩
            have i13 : Iv v13 1 100 := iv_add e13 i6 (⟨by decide, by decide⟩ : Iv 1 1 1) (by decide)
            have x13 : v13.toInt = j15_3.toInt + 1 := ex_add e13 i6 (⟨by decide, by decide⟩ : Iv 1 1 1) (by decide)
            refine lv_iinc (v := v13) (lv' := [(3, .int v13), (0, .ref a0), (1, .int (σ.1 650 a0)), (2, .int (-2)), (4, .long 0)]) hx hb dX11_least_67 hl (k := 3) rfl (by rw [e13]; rfl) (by decide) rfl (fun ls hl => ?_)
            refine lv_goto (tgt := 15) hx hb dX11_least_70 (by decide) ?_
            exact ih_15 v13 (iv_w i13 (by decide)) σ8 _ _ hw fr (kn_iv ((kp_s eσ8)) (iv_w i6 (by decide))) (ms_up x13 (by decide) (iv_w (a' := 0) (b' := 100) i13 (by decide)).2 hn_15) _ (lv_sub hl [1, 2, 3, 0] rfl)
          refine lv_if_ne (tgt := 50) hx hb dX11_least_44 (by decide) (fun c14 => ?_) (fun c14 => ?_)
          · --
            exact iv_no (iv_ne1 c14 i12 (⟨by decide, by decide⟩ : Iv 0 0 0) (by decide)) (by decide)
          · --
            refine lv_goto (tgt := 67) hx hb dX11_least_47 (by decide) ?_
            exact J_67 _ _ hw _ (lv_sub hl [1, 2, 3, 4, 0] rfl)
  exact J_15 _ 0 (iv_w (⟨by decide, by decide⟩ : Iv 0 0 0) (by decide)) σ1 _ _ hw fr (kn_iv (((kp_i eσ1 (by decide)).trans rfl)) (iv_w (iv_top (σ.1 650 a0)) (by decide))) (Nat.lt_succ_self _) _ (lv_sub hl [3, 2, 1, 0] rfl)
abbrev fs_X11_furthest : List Nat := [658]
abbrev ts_X11_furthest : List Nat := []
set_option maxHeartbeats 4000000 in
set_option maxRecDepth 100000 in
theorem c_X11_furthest (a0 : Nat) (ha0 : oA L τ a0 10) (a1 : Int32) : oMet l A L τ cy D K yX11_furthest cX11_furthest 6 (some .int) 2 43 [.ref a0, .int a1] σ (va_Qi (fun r σ1 => oFr τ fs_X11_furthest ts_X11_furthest σ σ1 ∧ Iv r (-1) (-1)) (oPo A L τ cy D) A) := by
  refine oMk (by decide) (Nat.le_of_ble_eq_true rfl) rfl ?_
  intro p e s m args below meth c ls cx rx hA hw hl
  generalize hQ : MQ below _ args s 0 0 A = Q
  have hx := cx.1.1
  have hb := cx.1.2.1
  have hml := cx.1.2.2.1
  have hown := cx.1.2.2.2.1
  have hts := cx.1.2.2.2.2
  have hl : lv_has ls 6 [(0, .ref a0), (1, .int a1)] := hl
  have fr : oFr τ fs_X11_furthest ts_X11_furthest σ σ := oFr_rf
  refine lv_aload_n hx hb dX11_furthest_0 rfl (lv_at hl 0 rfl) ?_
  refine lv_iconst (v := 0) hx hb dX11_furthest_1 (by decide) ?_
  refine p_658 cx hw ha0 k_f_X11_89 dX11_furthest_2 (fun σ1 H locs eσ1 hw => ?_)
  have fr := oFr_i fr eσ1 (by decide)
  refine lv_aload_n hx hb dX11_furthest_5 rfl (lv_at hl 0 rfl) ?_
  refine lv_iload_n hx hb dX11_furthest_6 rfl (lv_at hl 1 rfl) ?_
  have i2 : Iv (σ1.1 641 a0) 0 0 := o_fb (j := 641) hw ha0 rfl
  have i3 : Iv (σ1.1 642 a0) 0 0 := o_fb (j := 642) hw ha0 rfl
  refine o_ci hw (oRunV cx hA hw q_X11_isCell k_m_X11_157 rfl ha0 (by decide) (As := [.int a1]) (c_X11_isCell a0 ha0 a1) (by decide) rfl hl.1 rfl (Nat.le_of_ble_eq_true rfl) dX11_furthest_7 (by decide)) (fun v5 σ4 H locs hp hw => ?_)
  obtain ⟨p5_0, p5_1, p5_2, p5_3⟩ := hp
  rw [p5_0] at hw
  refine lv_if_ne (tgt := 15) hx hb dX11_furthest_10 (by decide) (fun c6 => ?_) (fun c6 => ?_)
  · --
    exact iv_no (iv_ne1 c6 p5_1 (⟨by decide, by decide⟩ : Iv 0 0 0) (by decide)) (by decide)
  · --
    refine lv_iconst (v := (-1)) hx hb dX11_furthest_13 (by decide) ?_
    rw [← hQ]
    exact o_ri cx rx hw dX11_furthest_14 ⟨fr, (iv_w (⟨by decide, by decide⟩ : Iv (-1) (-1) (-1)) (by decide))⟩
abbrev fs_X11_where : List Nat := [658]
abbrev ts_X11_where : List Nat := []
set_option maxHeartbeats 4000000 in
set_option maxRecDepth 100000 in
theorem c_X11_where (a0 : Nat) (ha0 : oA L τ a0 10) (a1 : Int32) (a2 : Int32) : oMet l A L τ cy D K yX11_where cX11_where 3 (some .int) 2 43 [.ref a0, .int a1, .int a2] σ (va_Qi (fun r σ1 => oFr τ fs_X11_where ts_X11_where σ σ1 ∧ Iv r (-1) (-1)) (oPo A L τ cy D) A) := by
  refine oMk (by decide) (Nat.le_of_ble_eq_true rfl) rfl ?_
  intro p e s m args below meth c ls cx rx hA hw hl
  generalize hQ : MQ below _ args s 0 0 A = Q
  have hx := cx.1.1
  have hb := cx.1.2.1
  have hml := cx.1.2.2.1
  have hown := cx.1.2.2.2.1
  have hts := cx.1.2.2.2.2
  have hl : lv_has ls 3 [(0, .ref a0), (1, .int a1), (2, .int a2)] := hl
  have fr : oFr τ fs_X11_where ts_X11_where σ σ := oFr_rf
  refine lv_aload_n hx hb dX11_where_0 rfl (lv_at hl 0 rfl) ?_
  refine lv_iconst (v := 0) hx hb dX11_where_1 (by decide) ?_
  refine p_658 cx hw ha0 k_f_X11_89 dX11_where_2 (fun σ1 H locs eσ1 hw => ?_)
  have fr := oFr_i fr eσ1 (by decide)
  refine lv_aload_n hx hb dX11_where_5 rfl (lv_at hl 0 rfl) ?_
  refine lv_iload_n hx hb dX11_where_6 rfl (lv_at hl 1 rfl) ?_
  refine o_ci hw (oRunV cx hA hw q_X11_isHerd k_m_X11_237 rfl ha0 (by decide) (As := [.int a1]) (c_X11_isHerd a0 ha0 a1) (by decide) rfl hl.1 rfl (Nat.le_of_ble_eq_true rfl) dX11_where_7 (by decide)) (fun v3 σ2 H locs hp hw => ?_)
  obtain ⟨p3_0, p3_1, p3_2⟩ := hp
  rw [p3_0] at hw
  refine lv_if_eq (tgt := 20) hx hb dX11_where_10 (by decide) (fun c4 => ?_) (fun c4 => ?_)
  · --
    refine lv_iconst (v := (-1)) hx hb dX11_where_20 (by decide) ?_
    rw [← hQ]
    exact o_ri cx rx hw dX11_where_21 ⟨fr, (iv_w (⟨by decide, by decide⟩ : Iv (-1) (-1) (-1)) (by decide))⟩
  · --
    exact iv_no (iv_ne1 c4 p3_1 (⟨by decide, by decide⟩ : Iv 0 0 0) (by decide)) (by decide)
abbrev fs_X11_roadin : List Nat := [657, 658]
abbrev ts_X11_roadin : List Nat := [48, 52]
set_option maxHeartbeats 4000000 in
set_option maxRecDepth 100000 in
theorem c_X11_roadin (a0 : Nat) (ha0 : oA L τ a0 10) (a1 : Int32) : oMet l A L τ cy D K yX11_roadin cX11_roadin 4 (some .int) 4 90 [.ref a0, .int a1] σ (va_Qi (fun r σ1 => oFr τ fs_X11_roadin ts_X11_roadin σ σ1 ∧ Iv r (-1) 0 ∧ (((0 ≤ a1.toInt ∧ a1.toInt ≤ 100) ∧ r.toInt = 0) ∨ (¬ (0 ≤ a1.toInt ∧ a1.toInt ≤ 100) ∧ r.toInt = -1))) (oPo A L τ cy D) A) := by
  refine oMk (by decide) (Nat.le_of_ble_eq_true rfl) rfl ?_
  intro p e s m args below meth c ls cx rx hA hw hl
  generalize hQ : MQ below _ args s 0 0 A = Q
  have hx := cx.1.1
  have hb := cx.1.2.1
  have hml := cx.1.2.2.1
  have hown := cx.1.2.2.2.1
  have hts := cx.1.2.2.2.2
  have hl : lv_has ls 4 [(0, .ref a0), (1, .int a1)] := hl
  have fr : oFr τ fs_X11_roadin ts_X11_roadin σ σ := oFr_rf
  refine lv_aload_n hx hb dX11_roadin_0 rfl (lv_at hl 0 rfl) ?_
  refine lv_iconst (v := 0) hx hb dX11_roadin_1 (by decide) ?_
  refine p_658 cx hw ha0 k_f_X11_89 dX11_roadin_2 (fun σ1 H locs eσ1 hw => ?_)
  have fr := oFr_i fr eσ1 (by decide)
  refine lv_iload_n hx hb dX11_roadin_5 rfl (lv_at hl 1 rfl) ?_
  refine o_ci hw (oRunS cx hA hw q_X11_isLook k_m_X11_337 (As := [.int a1]) (c_X11_isLook a1) (by decide) rfl hl.1 rfl (Nat.le_of_ble_eq_true rfl) dX11_roadin_6 (by decide)) (fun v3 σ2 H locs hp hw => ?_)
  obtain ⟨p3_0, p3_1, p3_2⟩ := hp
  rw [p3_0] at hw
  refine lv_if_ne (tgt := 14) hx hb dX11_roadin_9 (by decide) (fun c4 => ?_) (fun c4 => ?_)
  · --
    have i5 : Iv v3 1 1 := iv_ne1 c4 p3_1 (⟨by decide, by decide⟩ : Iv 0 0 0) (by decide)
    refine lv_aload_n hx hb dX11_roadin_14 rfl (lv_at hl 0 rfl) ?_
    refine lv_iload_n hx hb dX11_roadin_15 rfl (lv_at hl 1 rfl) ?_
    refine o_cv hw (oRunV cx hA hw q_X11_goThen k_m_X11_340 rfl ha0 (by decide) (As := [.int a1]) (c_X11_goThen a0 ha0 a1) (by decide) rfl hl.1 rfl (Nat.le_of_ble_eq_true rfl) dX11_roadin_16 (by decide)) (fun σ6 H locs hp hw => ?_)
    have p7_0 := hp
    have fr := oFr_tr fr p7_0 (by decide)
    refine lv_aload_n hx hb dX11_roadin_19 rfl (lv_at hl 0 rfl) ?_
    refine lv_aload_n hx hb dX11_roadin_20 rfl (lv_at hl 0 rfl) ?_
    refine g_677 cx hw ha0 k_f_X11_67 dX11_roadin_21 (fun v8 e8 h8 => ?_)
    refine o_cl hw (oRunV cx hA hw q_X11_roadOf k_m_X11_313 rfl ha0 (by decide) (As := [.ref v8]) (c_X11_roadOf a0 ha0 v8 h8) (by decide) rfl hl.1 rfl (Nat.le_of_ble_eq_true rfl) dX11_roadin_24 (by decide)) (fun v10 σ9 H locs hp hw => ?_)
    obtain ⟨p10_0, p10_1⟩ := hp
    rw [p10_0] at hw
    rw [p10_1]
    refine lv_lstore_n (lv' := [(2, .long 0), (0, .ref a0), (1, .int a1)]) hx hb dX11_roadin_27 rfl hl (by decide) rfl (fun ls hl => ?_)
    refine lv_aload_n hx hb dX11_roadin_28 rfl (lv_at hl 1 rfl) ?_
    refine lv_iconst (v := 0) hx hb dX11_roadin_29 (by decide) ?_
    refine p_657 cx hw ha0 (iv_w (⟨by decide, by decide⟩ : Iv 0 0 0) (by decide)) k_f_X11_92 dX11_roadin_30 (fun σ11 H locs eσ11 hw => ?_)
    have fr := oFr_i fr eσ11 (by decide)
    refine lv_aload_n hx hb dX11_roadin_33 rfl (lv_at hl 1 rfl) ?_
    refine lv_lload_n hx hb dX11_roadin_34 rfl (lv_at hl 0 rfl) ?_
    refine o_cv hw (oRunV cx hA hw q_X11_tell k_m_X11_278 rfl ha0 (by decide) (As := [.long 0]) (c_X11_tell a0 ha0 0 (kn_iv ((kp_s eσ11)) (iv_w (⟨by decide, by decide⟩ : Iv 0 0 0) (by decide)))) (by decide) rfl hl.1 rfl (Nat.le_of_ble_eq_true rfl) dX11_roadin_35 (by decide)) (fun σ12 H locs hp hw => ?_)
    obtain ⟨p13_0, p13_1⟩ := hp
    have fr := oFr_tr fr p13_0 (by decide)
    have x15 : (σ12.1 657 a0).toInt = (0 : Int32).toInt + 1 := fin_tr p13_1 ((kp_s eσ11))
    have i14 : Iv (σ12.1 657 a0) 1 1 := iv_fin x15 (⟨by decide, by decide⟩ : Iv 0 0 0) (by decide)
    refine lv_aload_n hx hb dX11_roadin_38 rfl (lv_at hl 1 rfl) ?_
    refine lv_aload_n hx hb dX11_roadin_39 rfl (lv_at hl 1 rfl) ?_
    refine lv_aload_n hx hb dX11_roadin_40 rfl (lv_at hl 1 rfl) ?_
    refine g_640 cx hw ha0 k_f_X11_9 dX11_roadin_41 (fun v16 e16 h16 => ?_)
    refine o_cl hw (oRunV cx hA hw q_X11_roadOf k_m_X11_313 rfl ha0 (by decide) (As := [.ref v16]) (c_X11_roadOf a0 ha0 v16 h16) (by decide) rfl hl.1 rfl (Nat.le_of_ble_eq_true rfl) dX11_roadin_44 (by decide)) (fun v18 σ17 H locs hp hw => ?_)
    obtain ⟨p18_0, p18_1⟩ := hp
    rw [p18_0] at hw
    rw [p18_1]
    refine lv_lload_n hx hb dX11_roadin_47 rfl (lv_at hl 0 rfl) ?_
    refine lv_ldc2 (v := (-1)) hx hb hown (hts _ k_k_X11_327) dX11_roadin_48 ?_
    refine lv_lxor hx hb dX11_roadin_51 ?_
    refine lv_topl (fun v19 e19 => ?_)
    rw [show v19 = (-1) from (by rw [e19]; decide)]
    refine lv_land hx hb dX11_roadin_52 ?_
    refine lv_topl (fun v20 e20 => ?_)
    rw [show v20 = 0 from (by rw [e20]; decide)]
    refine o_cv hw (oRunV cx hA hw q_X11_tell k_m_X11_278 rfl ha0 (by decide) (As := [.long 0]) (c_X11_tell a0 ha0 0 (kn_iv (rfl) (iv_w i14 (by decide)))) (by decide) rfl hl.1 rfl (Nat.le_of_ble_eq_true rfl) dX11_roadin_53 (by decide)) (fun σ21 H locs hp hw => ?_)
    obtain ⟨p22_0, p22_1⟩ := hp
    have fr := oFr_tr fr p22_0 (by decide)
    have x24 : (σ21.1 657 a0).toInt = (σ12.1 657 a0).toInt + 1 := fin_tr p22_1 (rfl)
    have i23 : Iv (σ21.1 657 a0) 2 2 := iv_fin x24 i14 (by decide)
    refine lv_lload_n hx hb dX11_roadin_56 rfl (lv_at hl 0 rfl) ?_
    refine o_ci hw (oRunS cx hA hw q_J13_bitCount_95d88 k_m_X11_321 (As := [.long 0]) (c_J13_bitCount_95d88Z 0 rfl) (by decide) rfl hl.1 rfl (Nat.le_of_ble_eq_true rfl) dX11_roadin_57 (by decide)) (fun v26 σ25 H locs hp hw => ?_)
    obtain ⟨p26_0, p26_1⟩ := hp
    rw [p26_0] at hw
    rw [← hQ]
    exact o_ri cx rx hw dX11_roadin_60 ⟨fr, (iv_w p26_1 (by decide)), (by exact (by have : (0 : Int32).toInt = 0 := (by decide); have : (60 : Int32).toInt = 60 := (by decide); have : (100 : Int32).toInt = 100 := (by decide); have := (p26_1).1; have := (p26_1).2; have := (i23).1; have := (i23).2; have := (i5).1; have := (i5).2; have : (σ21.1 658 a0).toInt = (0 : Int32).toInt := congrArg Int32.toInt (show σ21.1 658 a0 = 0 from ((kp_c p22_0 (by decide)).trans ((kp_c p13_0 (by decide)).trans ((kp_i eσ11 (by decide)).trans ((kp_c p7_0 (by decide)).trans (kp_s eσ1)))))); have : (0 : Int32).toInt = 0 := (by decide); omega))⟩
  · --
    have i27 : Iv v3 0 0 := iv_eq1 c4 p3_1 (⟨by decide, by decide⟩ : Iv 0 0 0) (by decide)
    refine lv_iconst (v := (-1)) hx hb dX11_roadin_12 (by decide) ?_
    rw [← hQ]
    exact o_ri cx rx hw dX11_roadin_13 ⟨fr, (iv_w (⟨by decide, by decide⟩ : Iv (-1) (-1) (-1)) (by decide)), (by exact (by have : (0 : Int32).toInt = 0 := (by decide); have : (60 : Int32).toInt = 60 := (by decide); have : (100 : Int32).toInt = 100 := (by decide); have := (i27).1; have := (i27).2; have : (σ1.1 658 a0).toInt = (0 : Int32).toInt := congrArg Int32.toInt (show σ1.1 658 a0 = 0 from (kp_s eσ1)); have : (v3 : Int32).toInt = (0 : Int32).toInt := congrArg Int32.toInt c4; have : ((-1) : Int32).toInt = (-1) := (by decide); have : (0 : Int32).toInt = 0 := (by decide); omega))⟩
abbrev fs_X11_market : List Nat := [658]
abbrev ts_X11_market : List Nat := []
set_option maxHeartbeats 4000000 in
set_option maxRecDepth 100000 in
theorem c_X11_market (a0 : Nat) (ha0 : oA L τ a0 10) (a1 : Int32) (a2 : Int32) : oMet l A L τ cy D K yX11_market cX11_market 9 (some .int) 2 43 [.ref a0, .int a1, .int a2] σ (va_Qi (fun r σ1 => oFr τ fs_X11_market ts_X11_market σ σ1 ∧ Iv r (-1) (-1)) (oPo A L τ cy D) A) := by
  refine oMk (by decide) (Nat.le_of_ble_eq_true rfl) rfl ?_
  intro p e s m args below meth c ls cx rx hA hw hl
  generalize hQ : MQ below _ args s 0 0 A = Q
  have hx := cx.1.1
  have hb := cx.1.2.1
  have hml := cx.1.2.2.1
  have hown := cx.1.2.2.2.1
  have hts := cx.1.2.2.2.2
  have hl : lv_has ls 9 [(0, .ref a0), (1, .int a1), (2, .int a2)] := hl
  have fr : oFr τ fs_X11_market ts_X11_market σ σ := oFr_rf
  refine lv_aload_n hx hb dX11_market_0 rfl (lv_at hl 0 rfl) ?_
  refine lv_iconst (v := 0) hx hb dX11_market_1 (by decide) ?_
  refine p_658 cx hw ha0 k_f_X11_89 dX11_market_2 (fun σ1 H locs eσ1 hw => ?_)
  have fr := oFr_i fr eσ1 (by decide)
  refine lv_aload_n hx hb dX11_market_5 rfl (lv_at hl 0 rfl) ?_
  refine lv_iload_n hx hb dX11_market_6 rfl (lv_at hl 1 rfl) ?_
  have i2 : Iv (σ1.1 641 a0) 0 0 := o_fb (j := 641) hw ha0 rfl
  have i3 : Iv (σ1.1 642 a0) 0 0 := o_fb (j := 642) hw ha0 rfl
  refine o_ci hw (oRunV cx hA hw q_X11_isCell k_m_X11_157 rfl ha0 (by decide) (As := [.int a1]) (c_X11_isCell a0 ha0 a1) (by decide) rfl hl.1 rfl (Nat.le_of_ble_eq_true rfl) dX11_market_7 (by decide)) (fun v5 σ4 H locs hp hw => ?_)
  obtain ⟨p5_0, p5_1, p5_2, p5_3⟩ := hp
  rw [p5_0] at hw
  refine lv_if_eq (tgt := 23) hx hb dX11_market_10 (by decide) (fun c6 => ?_) (fun c6 => ?_)
  · --
    refine lv_iconst (v := (-1)) hx hb dX11_market_23 (by decide) ?_
    rw [← hQ]
    exact o_ri cx rx hw dX11_market_24 ⟨fr, (iv_w (⟨by decide, by decide⟩ : Iv (-1) (-1) (-1)) (by decide))⟩
  · --
    exact iv_no (iv_ne1 c6 p5_1 (⟨by decide, by decide⟩ : Iv 0 0 0) (by decide)) (by decide)
abbrev fs_X11_trodden : List Nat := [658]
abbrev ts_X11_trodden : List Nat := []
set_option maxHeartbeats 4000000 in
set_option maxRecDepth 100000 in
theorem c_X11_trodden (a0 : Nat) (ha0 : oA L τ a0 10) (a1 : Int32) : oMet l A L τ cy D K yX11_trodden cX11_trodden 4 (some .int) 2 43 [.ref a0, .int a1] σ (va_Qi (fun r σ1 => oFr τ fs_X11_trodden ts_X11_trodden σ σ1 ∧ Iv r (-1) (-1)) (oPo A L τ cy D) A) := by
  refine oMk (by decide) (Nat.le_of_ble_eq_true rfl) rfl ?_
  intro p e s m args below meth c ls cx rx hA hw hl
  generalize hQ : MQ below _ args s 0 0 A = Q
  have hx := cx.1.1
  have hb := cx.1.2.1
  have hml := cx.1.2.2.1
  have hown := cx.1.2.2.2.1
  have hts := cx.1.2.2.2.2
  have hl : lv_has ls 4 [(0, .ref a0), (1, .int a1)] := hl
  have fr : oFr τ fs_X11_trodden ts_X11_trodden σ σ := oFr_rf
  refine lv_aload_n hx hb dX11_trodden_0 rfl (lv_at hl 0 rfl) ?_
  refine lv_iconst (v := 0) hx hb dX11_trodden_1 (by decide) ?_
  refine p_658 cx hw ha0 k_f_X11_89 dX11_trodden_2 (fun σ1 H locs eσ1 hw => ?_)
  have fr := oFr_i fr eσ1 (by decide)
  refine lv_aload_n hx hb dX11_trodden_5 rfl (lv_at hl 0 rfl) ?_
  refine lv_iload_n hx hb dX11_trodden_6 rfl (lv_at hl 1 rfl) ?_
  have i2 : Iv (σ1.1 641 a0) 0 0 := o_fb (j := 641) hw ha0 rfl
  have i3 : Iv (σ1.1 642 a0) 0 0 := o_fb (j := 642) hw ha0 rfl
  refine o_ci hw (oRunV cx hA hw q_X11_isCell k_m_X11_157 rfl ha0 (by decide) (As := [.int a1]) (c_X11_isCell a0 ha0 a1) (by decide) rfl hl.1 rfl (Nat.le_of_ble_eq_true rfl) dX11_trodden_7 (by decide)) (fun v5 σ4 H locs hp hw => ?_)
  obtain ⟨p5_0, p5_1, p5_2, p5_3⟩ := hp
  rw [p5_0] at hw
  refine lv_if_ne (tgt := 15) hx hb dX11_trodden_10 (by decide) (fun c6 => ?_) (fun c6 => ?_)
  · --
    exact iv_no (iv_ne1 c6 p5_1 (⟨by decide, by decide⟩ : Iv 0 0 0) (by decide)) (by decide)
  · --
    refine lv_iconst (v := (-1)) hx hb dX11_trodden_13 (by decide) ?_
    rw [← hQ]
    exact o_ri cx rx hw dX11_trodden_14 ⟨fr, (iv_w (⟨by decide, by decide⟩ : Iv (-1) (-1) (-1)) (by decide))⟩
abbrev fs_X11_meets : List Nat := [658]
abbrev ts_X11_meets : List Nat := [48]
set_option maxHeartbeats 4000000 in
set_option maxRecDepth 100000 in
theorem c_X11_meets (a0 : Nat) (ha0 : oA L τ a0 10) : oMet l A L τ cy D K yX11_meets cX11_meets 4 (some .int) 1 23 [.ref a0] σ (va_Qi (fun r σ1 => oFr τ fs_X11_meets ts_X11_meets σ σ1 ∧ Iv r (-2) (-2)) (oPo A L τ cy D) A) := by
  refine oMk (by decide) (Nat.le_of_ble_eq_true rfl) rfl ?_
  intro p e s m args below meth c ls cx rx hA hw hl
  generalize hQ : MQ below _ args s 0 0 A = Q
  have hx := cx.1.1
  have hb := cx.1.2.1
  have hml := cx.1.2.2.1
  have hown := cx.1.2.2.2.1
  have hts := cx.1.2.2.2.2
  have hl : lv_has ls 4 [(0, .ref a0)] := hl
  have fr : oFr τ fs_X11_meets ts_X11_meets σ σ := oFr_rf
  refine lv_aload_n hx hb dX11_meets_0 rfl (lv_at hl 0 rfl) ?_
  refine lv_iconst (v := 0) hx hb dX11_meets_1 (by decide) ?_
  refine p_658 cx hw ha0 k_f_X11_89 dX11_meets_2 (fun σ1 H locs eσ1 hw => ?_)
  have fr := oFr_i fr eσ1 (by decide)
  refine lv_aload_n hx hb dX11_meets_5 rfl (lv_at hl 0 rfl) ?_
  refine g_640 cx hw ha0 k_f_X11_9 dX11_meets_6 (fun v2 e2 h2 => ?_)
  refine lv_aload_n hx hb dX11_meets_9 rfl (lv_at hl 0 rfl) ?_
  refine g_677 cx hw ha0 k_f_X11_67 dX11_meets_10 (fun v3 e3 h3 => ?_)
  refine lv_iconst (v := 0) hx hb dX11_meets_13 (by decide) ?_
  refine o_cv hw (oRunS cx hA hw q_X11_lay k_m_X11_251 (As := [.ref v2, .ref v3, .int 0]) (c_X11_layN v2 h2 v3 h3 0 (iv_w (⟨by decide, by decide⟩ : Iv 0 0 0) (by decide))) (by decide) rfl hl.1 rfl (Nat.le_of_ble_eq_true rfl) dX11_meets_14 (by decide)) (fun σ4 H locs hp hw => ?_)
  have p5_0 := hp
  have fr := oFr_tr fr p5_0 (by decide)
  refine lv_iconst (v := 0) hx hb dX11_meets_17 (by decide) ?_
  refine lv_istore_n (lv' := [(1, .int 0), (0, .ref a0)]) hx hb dX11_meets_18 rfl hl (by decide) rfl (fun ls hl => ?_)
  have J_19 : ∀ n19 : Nat, ∀ (H : Heap) (locs : List Loc), oI A L τ cy D s.heap σ4 H locs → 0 < n19 → ∀ (ls : Array Slot), lv_has ls 4 [(0, .ref a0), (1, .int 0)] → W p l e ({ frames := 1, cells := 0, slots := 0, locals := 23 } : Room) s m args below meth c H locs 0 0 Q (F0 m 19 ls []) := by
    intro n19
    induction n19 with
    | zero => intro  H locs hw  hn_19   ls hl; exact absurd hn_19 (Nat.not_lt_zero _)
    | succ n19 ih_19 =>
      intro  H locs hw  hn_19   ls hl
      refine lv_iload_n hx hb dX11_meets_19 rfl (lv_at hl 1 rfl) ?_
      refine lv_bipush (v := 100) hx hb dX11_meets_20 (by decide) ?_
      refine lv_icmp_gt (tgt := 85) hx hb dX11_meets_22 (by decide) (fun c6 => ?_) (fun c6 => ?_)
      · --
        exact iv_no (iv_lt1 (b' := 99) c6 (⟨by decide, by decide⟩ : Iv 100 100 100) (⟨by decide, by decide⟩ : Iv 0 0 0) (by decide)) (by decide)
      · --
        refine lv_aload_n hx hb dX11_meets_25 rfl (lv_at hl 0 rfl) ?_
        refine g_647 cx hw ha0 k_f_X11_105 dX11_meets_26 (fun v7 e7 i7 => ?_)
        refine lv_if_le (tgt := 85) hx hb dX11_meets_29 (by decide) (fun c8 => ?_) (fun c8 => ?_)
        · --
          refine lv_bipush (v := (-2)) hx hb dX11_meets_85 (by decide) ?_
          rw [← hQ]
          exact o_ri cx rx hw dX11_meets_87 ⟨fr, (iv_w (⟨by decide, by decide⟩ : Iv (-2) (-2) (-2)) (by decide))⟩
        · --
          exact iv_no (iv_lt1 (b' := (-1)) (iv_nle c8) (⟨by decide, by decide⟩ : Iv 0 0 0) i7 (by decide)) (by decide)
  exact J_19 _ _ _ hw (Nat.lt_succ_self _) _ (lv_sub hl [1, 0] rfl)
abbrev fs_X11_round : List Nat := [658]
abbrev ts_X11_round : List Nat := []
set_option maxHeartbeats 4000000 in
set_option maxRecDepth 100000 in
theorem c_X11_round (a0 : Nat) (ha0 : oA L τ a0 10) (a1 : Int32) : oMet l A L τ cy D K yX11_round cX11_round 4 (some .int) 2 43 [.ref a0, .int a1] σ (va_Qi (fun r σ1 => oFr τ fs_X11_round ts_X11_round σ σ1 ∧ Iv r (-1) (-1)) (oPo A L τ cy D) A) := by
  refine oMk (by decide) (Nat.le_of_ble_eq_true rfl) rfl ?_
  intro p e s m args below meth c ls cx rx hA hw hl
  generalize hQ : MQ below _ args s 0 0 A = Q
  have hx := cx.1.1
  have hb := cx.1.2.1
  have hml := cx.1.2.2.1
  have hown := cx.1.2.2.2.1
  have hts := cx.1.2.2.2.2
  have hl : lv_has ls 4 [(0, .ref a0), (1, .int a1)] := hl
  have fr : oFr τ fs_X11_round ts_X11_round σ σ := oFr_rf
  refine lv_aload_n hx hb dX11_round_0 rfl (lv_at hl 0 rfl) ?_
  refine lv_iconst (v := 0) hx hb dX11_round_1 (by decide) ?_
  refine p_658 cx hw ha0 k_f_X11_89 dX11_round_2 (fun σ1 H locs eσ1 hw => ?_)
  have fr := oFr_i fr eσ1 (by decide)
  refine lv_aload_n hx hb dX11_round_5 rfl (lv_at hl 0 rfl) ?_
  refine lv_iload_n hx hb dX11_round_6 rfl (lv_at hl 1 rfl) ?_
  refine o_ci hw (oRunV cx hA hw q_X11_isHerd k_m_X11_237 rfl ha0 (by decide) (As := [.int a1]) (c_X11_isHerd a0 ha0 a1) (by decide) rfl hl.1 rfl (Nat.le_of_ble_eq_true rfl) dX11_round_7 (by decide)) (fun v3 σ2 H locs hp hw => ?_)
  obtain ⟨p3_0, p3_1, p3_2⟩ := hp
  rw [p3_0] at hw
  refine lv_if_ne (tgt := 15) hx hb dX11_round_10 (by decide) (fun c4 => ?_) (fun c4 => ?_)
  · --
    exact iv_no (iv_ne1 c4 p3_1 (⟨by decide, by decide⟩ : Iv 0 0 0) (by decide)) (by decide)
  · --
    refine lv_iconst (v := (-1)) hx hb dX11_round_13 (by decide) ?_
    rw [← hQ]
    exact o_ri cx rx hw dX11_round_14 ⟨fr, (iv_w (⟨by decide, by decide⟩ : Iv (-1) (-1) (-1)) (by decide))⟩
abbrev fs_X11_lure : List Nat := [658]
abbrev ts_X11_lure : List Nat := []
set_option maxHeartbeats 4000000 in
set_option maxRecDepth 100000 in
theorem c_X11_lure (a0 : Nat) (ha0 : oA L τ a0 10) (a1 : Int32) (a2 : Int32) : oMet l A L τ cy D K yX11_lure cX11_lure 6 (some .int) 2 43 [.ref a0, .int a1, .int a2] σ (va_Qi (fun r σ1 => oFr τ fs_X11_lure ts_X11_lure σ σ1 ∧ Iv r (-1) (-1)) (oPo A L τ cy D) A) := by
  refine oMk (by decide) (Nat.le_of_ble_eq_true rfl) rfl ?_
  intro p e s m args below meth c ls cx rx hA hw hl
  generalize hQ : MQ below _ args s 0 0 A = Q
  have hx := cx.1.1
  have hb := cx.1.2.1
  have hml := cx.1.2.2.1
  have hown := cx.1.2.2.2.1
  have hts := cx.1.2.2.2.2
  have hl : lv_has ls 6 [(0, .ref a0), (1, .int a1), (2, .int a2)] := hl
  have fr : oFr τ fs_X11_lure ts_X11_lure σ σ := oFr_rf
  refine lv_aload_n hx hb dX11_lure_0 rfl (lv_at hl 0 rfl) ?_
  refine lv_iconst (v := 0) hx hb dX11_lure_1 (by decide) ?_
  refine p_658 cx hw ha0 k_f_X11_89 dX11_lure_2 (fun σ1 H locs eσ1 hw => ?_)
  have fr := oFr_i fr eσ1 (by decide)
  refine lv_aload_n hx hb dX11_lure_5 rfl (lv_at hl 0 rfl) ?_
  refine lv_iload_n hx hb dX11_lure_6 rfl (lv_at hl 1 rfl) ?_
  have i2 : Iv (σ1.1 641 a0) 0 0 := o_fb (j := 641) hw ha0 rfl
  have i3 : Iv (σ1.1 642 a0) 0 0 := o_fb (j := 642) hw ha0 rfl
  refine o_ci hw (oRunV cx hA hw q_X11_isCell k_m_X11_157 rfl ha0 (by decide) (As := [.int a1]) (c_X11_isCell a0 ha0 a1) (by decide) rfl hl.1 rfl (Nat.le_of_ble_eq_true rfl) dX11_lure_7 (by decide)) (fun v5 σ4 H locs hp hw => ?_)
  obtain ⟨p5_0, p5_1, p5_2, p5_3⟩ := hp
  rw [p5_0] at hw
  refine lv_if_eq (tgt := 23) hx hb dX11_lure_10 (by decide) (fun c6 => ?_) (fun c6 => ?_)
  · --
    refine lv_iconst (v := (-1)) hx hb dX11_lure_23 (by decide) ?_
    rw [← hQ]
    exact o_ri cx rx hw dX11_lure_24 ⟨fr, (iv_w (⟨by decide, by decide⟩ : Iv (-1) (-1) (-1)) (by decide))⟩
  · --
    exact iv_no (iv_ne1 c6 p5_1 (⟨by decide, by decide⟩ : Iv 0 0 0) (by decide)) (by decide)
abbrev fs_X11_hedge : List Nat := [658]
abbrev ts_X11_hedge : List Nat := []
set_option maxHeartbeats 4000000 in
set_option maxRecDepth 100000 in
theorem c_X11_hedge (a0 : Nat) (ha0 : oA L τ a0 10) (a1 : Int32) (a2 : Int32) : oMet l A L τ cy D K yX11_hedge cX11_hedge 5 (some .int) 2 43 [.ref a0, .int a1, .int a2] σ (va_Qi (fun r σ1 => oFr τ fs_X11_hedge ts_X11_hedge σ σ1 ∧ Iv r (-1) (-1)) (oPo A L τ cy D) A) := by
  refine oMk (by decide) (Nat.le_of_ble_eq_true rfl) rfl ?_
  intro p e s m args below meth c ls cx rx hA hw hl
  generalize hQ : MQ below _ args s 0 0 A = Q
  have hx := cx.1.1
  have hb := cx.1.2.1
  have hml := cx.1.2.2.1
  have hown := cx.1.2.2.2.1
  have hts := cx.1.2.2.2.2
  have hl : lv_has ls 5 [(0, .ref a0), (1, .int a1), (2, .int a2)] := hl
  have fr : oFr τ fs_X11_hedge ts_X11_hedge σ σ := oFr_rf
  refine lv_aload_n hx hb dX11_hedge_0 rfl (lv_at hl 0 rfl) ?_
  refine lv_iconst (v := 0) hx hb dX11_hedge_1 (by decide) ?_
  refine p_658 cx hw ha0 k_f_X11_89 dX11_hedge_2 (fun σ1 H locs eσ1 hw => ?_)
  have fr := oFr_i fr eσ1 (by decide)
  refine lv_aload_n hx hb dX11_hedge_5 rfl (lv_at hl 0 rfl) ?_
  refine lv_iload_n hx hb dX11_hedge_6 rfl (lv_at hl 1 rfl) ?_
  have i2 : Iv (σ1.1 641 a0) 0 0 := o_fb (j := 641) hw ha0 rfl
  have i3 : Iv (σ1.1 642 a0) 0 0 := o_fb (j := 642) hw ha0 rfl
  refine o_ci hw (oRunV cx hA hw q_X11_isCell k_m_X11_157 rfl ha0 (by decide) (As := [.int a1]) (c_X11_isCell a0 ha0 a1) (by decide) rfl hl.1 rfl (Nat.le_of_ble_eq_true rfl) dX11_hedge_7 (by decide)) (fun v5 σ4 H locs hp hw => ?_)
  obtain ⟨p5_0, p5_1, p5_2, p5_3⟩ := hp
  rw [p5_0] at hw
  refine lv_if_eq (tgt := 23) hx hb dX11_hedge_10 (by decide) (fun c6 => ?_) (fun c6 => ?_)
  · --
    refine lv_iconst (v := (-1)) hx hb dX11_hedge_23 (by decide) ?_
    rw [← hQ]
    exact o_ri cx rx hw dX11_hedge_24 ⟨fr, (iv_w (⟨by decide, by decide⟩ : Iv (-1) (-1) (-1)) (by decide))⟩
  · --
    exact iv_no (iv_ne1 c6 p5_1 (⟨by decide, by decide⟩ : Iv 0 0 0) (by decide)) (by decide)
abbrev fs_X11_gates : List Nat := [658]
abbrev ts_X11_gates : List Nat := []
set_option maxHeartbeats 4000000 in
set_option maxRecDepth 100000 in
theorem c_X11_gates (a0 : Nat) (ha0 : oA L τ a0 10) (a1 : Int32) (a2 : Int32) (a3 : Int32) : oMet l A L τ cy D K yX11_gates cX11_gates 10 (some .int) 2 43 [.ref a0, .int a1, .int a2, .int a3] σ (va_Qi (fun r σ1 => oFr τ fs_X11_gates ts_X11_gates σ σ1 ∧ Iv r (-1) (-1)) (oPo A L τ cy D) A) := by
  refine oMk (by decide) (Nat.le_of_ble_eq_true rfl) rfl ?_
  intro p e s m args below meth c ls cx rx hA hw hl
  generalize hQ : MQ below _ args s 0 0 A = Q
  have hx := cx.1.1
  have hb := cx.1.2.1
  have hml := cx.1.2.2.1
  have hown := cx.1.2.2.2.1
  have hts := cx.1.2.2.2.2
  have hl : lv_has ls 10 [(0, .ref a0), (1, .int a1), (2, .int a2), (3, .int a3)] := hl
  have fr : oFr τ fs_X11_gates ts_X11_gates σ σ := oFr_rf
  refine lv_aload_n hx hb dX11_gates_0 rfl (lv_at hl 0 rfl) ?_
  refine lv_iconst (v := 0) hx hb dX11_gates_1 (by decide) ?_
  refine p_658 cx hw ha0 k_f_X11_89 dX11_gates_2 (fun σ1 H locs eσ1 hw => ?_)
  have fr := oFr_i fr eσ1 (by decide)
  refine lv_aload_n hx hb dX11_gates_5 rfl (lv_at hl 0 rfl) ?_
  refine lv_iload_n hx hb dX11_gates_6 rfl (lv_at hl 1 rfl) ?_
  refine o_ci hw (oRunV cx hA hw q_X11_isHerd k_m_X11_237 rfl ha0 (by decide) (As := [.int a1]) (c_X11_isHerd a0 ha0 a1) (by decide) rfl hl.1 rfl (Nat.le_of_ble_eq_true rfl) dX11_gates_7 (by decide)) (fun v3 σ2 H locs hp hw => ?_)
  obtain ⟨p3_0, p3_1, p3_2⟩ := hp
  rw [p3_0] at hw
  refine lv_if_eq (tgt := 31) hx hb dX11_gates_10 (by decide) (fun c4 => ?_) (fun c4 => ?_)
  · --
    refine lv_iconst (v := (-1)) hx hb dX11_gates_31 (by decide) ?_
    rw [← hQ]
    exact o_ri cx rx hw dX11_gates_32 ⟨fr, (iv_w (⟨by decide, by decide⟩ : Iv (-1) (-1) (-1)) (by decide))⟩
  · --
    exact iv_no (iv_ne1 c4 p3_1 (⟨by decide, by decide⟩ : Iv 0 0 0) (by decide)) (by decide)
abbrev fs_X11_ways : List Nat := [658]
abbrev ts_X11_ways : List Nat := []
set_option maxHeartbeats 4000000 in
set_option maxRecDepth 100000 in
theorem c_X11_ways (a0 : Nat) (ha0 : oA L τ a0 10) (a1 : Int32) (a2 : Int32) (a3 : Int32) : oMet l A L τ cy D K yX11_ways cX11_ways 9 (some .int) 2 43 [.ref a0, .int a1, .int a2, .int a3] σ (va_Qi (fun r σ1 => oFr τ fs_X11_ways ts_X11_ways σ σ1 ∧ Iv r (-1) (-1)) (oPo A L τ cy D) A) := by
  refine oMk (by decide) (Nat.le_of_ble_eq_true rfl) rfl ?_
  intro p e s m args below meth c ls cx rx hA hw hl
  generalize hQ : MQ below _ args s 0 0 A = Q
  have hx := cx.1.1
  have hb := cx.1.2.1
  have hml := cx.1.2.2.1
  have hown := cx.1.2.2.2.1
  have hts := cx.1.2.2.2.2
  have hl : lv_has ls 9 [(0, .ref a0), (1, .int a1), (2, .int a2), (3, .int a3)] := hl
  have fr : oFr τ fs_X11_ways ts_X11_ways σ σ := oFr_rf
  refine lv_aload_n hx hb dX11_ways_0 rfl (lv_at hl 0 rfl) ?_
  refine lv_iconst (v := 0) hx hb dX11_ways_1 (by decide) ?_
  refine p_658 cx hw ha0 k_f_X11_89 dX11_ways_2 (fun σ1 H locs eσ1 hw => ?_)
  have fr := oFr_i fr eσ1 (by decide)
  refine lv_aload_n hx hb dX11_ways_5 rfl (lv_at hl 0 rfl) ?_
  refine lv_iload_n hx hb dX11_ways_6 rfl (lv_at hl 1 rfl) ?_
  have i2 : Iv (σ1.1 641 a0) 0 0 := o_fb (j := 641) hw ha0 rfl
  have i3 : Iv (σ1.1 642 a0) 0 0 := o_fb (j := 642) hw ha0 rfl
  refine o_ci hw (oRunV cx hA hw q_X11_isCell k_m_X11_157 rfl ha0 (by decide) (As := [.int a1]) (c_X11_isCell a0 ha0 a1) (by decide) rfl hl.1 rfl (Nat.le_of_ble_eq_true rfl) dX11_ways_7 (by decide)) (fun v5 σ4 H locs hp hw => ?_)
  obtain ⟨p5_0, p5_1, p5_2, p5_3⟩ := hp
  rw [p5_0] at hw
  refine lv_if_eq (tgt := 31) hx hb dX11_ways_10 (by decide) (fun c6 => ?_) (fun c6 => ?_)
  · --
    refine lv_iconst (v := (-1)) hx hb dX11_ways_31 (by decide) ?_
    rw [← hQ]
    exact o_ri cx rx hw dX11_ways_32 ⟨fr, (iv_w (⟨by decide, by decide⟩ : Iv (-1) (-1) (-1)) (by decide))⟩
  · --
    exact iv_no (iv_ne1 c6 p5_1 (⟨by decide, by decide⟩ : Iv 0 0 0) (by decide)) (by decide)
abbrev fs_X11_bride : List Nat := [655, 658, 659, 660, 661, 662, 663]
abbrev ts_X11_bride : List Nat := [58]
set_option maxHeartbeats 4000000 in
set_option maxRecDepth 100000 in
theorem c_X11_bride (a0 : Nat) (ha0 : oA L τ a0 10) (hf655 : Iv (σ.1 655 a0) 0 0) : oMet l A L τ cy D K yX11_bride cX11_bride 9 (some .int) 3 63 [.ref a0] σ (va_Qi (fun r σ1 => oFr τ fs_X11_bride ts_X11_bride σ σ1 ∧ Iv r (-1) (-1) ∧ Iv (σ1.1 655 a0) 0 0) (oPo A L τ cy D) A) := by
  refine oMk (by decide) (Nat.le_of_ble_eq_true rfl) rfl ?_
  intro p e s m args below meth c ls cx rx hA hw hl
  generalize hQ : MQ below _ args s 0 0 A = Q
  have hx := cx.1.1
  have hb := cx.1.2.1
  have hml := cx.1.2.2.1
  have hown := cx.1.2.2.2.1
  have hts := cx.1.2.2.2.2
  have hl : lv_has ls 9 [(0, .ref a0)] := hl
  have fr : oFr τ fs_X11_bride ts_X11_bride σ σ := oFr_rf
  refine lv_aload_n hx hb dX11_bride_0 rfl (lv_at hl 0 rfl) ?_
  refine lv_iconst (v := 0) hx hb dX11_bride_1 (by decide) ?_
  refine p_658 cx hw ha0 k_f_X11_89 dX11_bride_2 (fun σ1 H locs eσ1 hw => ?_)
  have fr := oFr_i fr eσ1 (by decide)
  refine lv_aload_n hx hb dX11_bride_5 rfl (lv_at hl 0 rfl) ?_
  refine lv_aload_n hx hb dX11_bride_6 rfl (lv_at hl 0 rfl) ?_
  refine g_654 cx hw ha0 k_f_X11_32 dX11_bride_7 (fun v2 e2 h2 => ?_)
  refine lv_aload_n hx hb dX11_bride_10 rfl (lv_at hl 0 rfl) ?_
  refine g_655 cx hw ha0 k_f_X11_108 dX11_bride_11 (fun v3 e3 i3 => ?_)
  rw [show v3 = (σ.1 655 a0) from e3.trans ((kp_i eσ1 (by decide)).trans rfl)]
  refine lv_bipush (v := 80) hx hb dX11_bride_14 (by decide) ?_
  have i4 : Iv (σ1.1 660 a0) 0 0 := o_fb (j := 660) hw ha0 rfl
  have i5 : Iv (σ1.1 661 a0) 0 80 := o_fb (j := 661) hw ha0 rfl
  refine o_cv hw (oRunV cx hA hw q_X11_begin k_m_X11_142 rfl ha0 (by decide) (As := [.ref v2, .int (σ.1 655 a0), .int 80]) (c_X11_beginT a0 ha0 v2 h2 (σ.1 655 a0) (iv_w hf655 (by decide)) 80 (iv_w (⟨by decide, by decide⟩ : Iv 80 80 80) (by decide))) (by decide) rfl hl.1 rfl (Nat.le_of_ble_eq_true rfl) dX11_bride_16 (by decide)) (fun σ6 H locs hp hw => ?_)
  obtain ⟨p7_0, p7_1, p7_2, p7_3, p7_4, p7_5, p7_6⟩ := hp
  have fr := oFr_tr fr p7_0 (by decide)
  refine lv_aload_n hx hb dX11_bride_19 rfl (lv_at hl 0 rfl) ?_
  refine lv_iconst (v := 0) hx hb dX11_bride_20 (by decide) ?_
  refine p_655 cx hw ha0 (iv_w (⟨by decide, by decide⟩ : Iv 0 0 0) (by decide)) k_f_X11_108 dX11_bride_21 (fun σ8 H locs eσ8 hw => ?_)
  have fr := oFr_i fr eσ8 (by decide)
  refine lv_iconst (v := 0) hx hb dX11_bride_24 (by decide) ?_
  refine lv_istore_n (lv' := [(1, .int 0), (0, .ref a0)]) hx hb dX11_bride_25 rfl hl (by decide) rfl (fun ls hl => ?_)
  refine lv_aload_n hx hb dX11_bride_26 rfl (lv_at hl 1 rfl) ?_
  have z9 : (σ8.1 663 a0).toInt = ((σ6.1 663 a0) : Int32).toInt := congrArg Int32.toInt (show σ8.1 663 a0 = (σ6.1 663 a0) from ((kp_i eσ8 (by decide)).trans rfl))
  refine o_ci hw (oRunV cx hA hw q_X11_fine k_m_X11_126 rfl ha0 (by decide) (As := []) (c_X11_fine a0 ha0) (by decide) rfl hl.1 rfl (Nat.le_of_ble_eq_true rfl) dX11_bride_27 (by decide)) (fun v11 σ10 H locs hp hw => ?_)
  obtain ⟨p11_0, p11_1, p11_2⟩ := hp
  rw [p11_0] at hw
  have i12 : Iv v11 1 1 := (by have := (p11_1).1; have := (p11_1).2; have := (p7_2).1; have := (p7_2).2; have := (p7_3).1; have := (p7_3).2; have := (p7_4).1; have := (p7_4).2; have := (p7_5).1; have := (p7_5).2; have := (hf655).1; have := (hf655).2; have := (i4).1; have := (i4).2; have := (i5).1; have := (i5).2; have : (σ8.1 658 a0).toInt = (0 : Int32).toInt := congrArg Int32.toInt (show σ8.1 658 a0 = 0 from ((kp_i eσ8 (by decide)).trans ((kp_c p7_0 (by decide)).trans (kp_s eσ1)))); have : (σ8.1 660 a0).toInt = ((σ6.1 660 a0) : Int32).toInt := congrArg Int32.toInt (show σ8.1 660 a0 = (σ6.1 660 a0) from ((kp_i eσ8 (by decide)).trans rfl)); have : (σ8.1 661 a0).toInt = ((σ6.1 661 a0) : Int32).toInt := congrArg Int32.toInt (show σ8.1 661 a0 = (σ6.1 661 a0) from ((kp_i eσ8 (by decide)).trans rfl)); have : (σ8.1 662 a0).toInt = ((σ6.1 662 a0) : Int32).toInt := congrArg Int32.toInt (show σ8.1 662 a0 = (σ6.1 662 a0) from ((kp_i eσ8 (by decide)).trans rfl)); have : (σ8.1 663 a0).toInt = ((σ6.1 663 a0) : Int32).toInt := congrArg Int32.toInt (show σ8.1 663 a0 = (σ6.1 663 a0) from ((kp_i eσ8 (by decide)).trans rfl)); have : (σ8.1 655 a0).toInt = (0 : Int32).toInt := congrArg Int32.toInt (show σ8.1 655 a0 = 0 from (kp_s eσ8)); have : (0 : Int32).toInt = 0 := (by decide); have : (80 : Int32).toInt = 80 := (by decide); exact ⟨by omega, by omega⟩)
  have frE_103 := fr
  have J_103 : ∀ (j103_1 : Int32) (ij103_1 : Iv j103_1 1 1) (j103_2 : Int32) (ij103_2 : Iv j103_2 0 0), ∀ (σ_103 : oSt) (H : Heap) (locs : List Loc), oI A L τ cy D s.heap σ_103 H locs → oFr τ fs_X11_bride ts_X11_bride σ σ_103 → Iv (σ_103.1 655 a0) 0 0 → Iv (σ_103.1 660 a0) 0 0 → Iv (σ_103.1 661 a0) 0 80 → Iv (σ_103.1 662 a0) 0 0 → Iv (σ_103.1 663 a0) 0 0 → σ_103.2.2.2.2 659 a0 = some v2 → ∀ (ls : Array Slot), lv_has ls 9 [(0, .ref a0), (1, .int j103_1), (2, .int j103_2)] → W p l e ({ frames := 3, cells := 0, slots := 0, locals := 63 } : Room) s m args below meth c H locs 0 0 Q (F0 m 103 ls []) := by
    intro j103_1 ij103_1 j103_2 ij103_2 σ_103 H locs hw fr f103_655_a0 f103_660_a0 f103_661_a0 f103_662_a0 f103_663_a0 r103_659     ls hl
    have fr_103 := fr
    refine lv_aload_n hx hb dX11_bride_103 rfl (lv_at hl 0 rfl) ?_
    refine o_ci hw (oRunV cx hA hw q_X11_fine k_m_X11_126 rfl ha0 (by decide) (As := []) (c_X11_fine a0 ha0) (by decide) rfl hl.1 rfl (Nat.le_of_ble_eq_true rfl) dX11_bride_104 (by decide)) (fun v14 σ13 H locs hp hw => ?_)
    obtain ⟨p14_0, p14_1, p14_2⟩ := hp
    rw [p14_0] at hw
    have i15 : Iv v14 0 0 := (by have := (ij103_1).1; have := (ij103_1).2; have := (ij103_2).1; have := (ij103_2).2; have := (p14_1).1; have := (p14_1).2; have := (f103_660_a0).1; have := (f103_660_a0).2; have := (f103_661_a0).1; have := (f103_661_a0).2; have := (f103_655_a0).1; have := (f103_655_a0).2; have := (f103_662_a0).1; have := (f103_662_a0).2; have := (f103_663_a0).1; have := (f103_663_a0).2; have := (hf655).1; have := (hf655).2; have := (i4).1; have := (i4).2; have := (i5).1; have := (i5).2; have := (p7_2).1; have := (p7_2).2; have := (p7_3).1; have := (p7_3).2; have := (p7_4).1; have := (p7_4).2; have := (p7_5).1; have := (p7_5).2; have := (i12).1; have := (i12).2; have : (80 : Int32).toInt = 80 := (by decide); exact ⟨by omega, by omega⟩)
    refine lv_if_ne (tgt := 117) hx hb dX11_bride_107 (by decide) (fun c16 => ?_) (fun c16 => ?_)
    · --
      exact iv_no (iv_ne1 c16 i15 (⟨by decide, by decide⟩ : Iv 0 0 0) (by decide)) (by decide)
    · --
      refine lv_iconst (v := (-1)) hx hb dX11_bride_110 (by decide) ?_
      refine lv_aload_n hx hb dX11_bride_111 rfl (lv_at hl 0 rfl) ?_
      refine g_663 cx hw ha0 k_f_X11_123 dX11_bride_112 (fun v17 e17 i17 => ?_)
      rw [show v17 = (σ_103.1 663 a0) from e17.trans rfl]
      refine lv_isub hx hb dX11_bride_115 ?_
      refine lv_topi (fun v18 e18 => ?_)
      have i18 : Iv v18 (-1) (-1) := iv_sub e18 (⟨by decide, by decide⟩ : Iv (-1) (-1) (-1)) f103_663_a0 (by decide)
      have x18 : v18.toInt = (-1) - (σ_103.1 663 a0).toInt := by have q9 := ex_sub e18 (⟨by decide, by decide⟩ : Iv (-1) (-1) (-1)) f103_663_a0 (by decide); rw [show ((-1) : Int32).toInt = (-1) from by decide] at q9; exact q9
      rw [← hQ]
      exact o_ri cx rx hw dX11_bride_116 ⟨fr, (iv_w i18 (by decide)), (kn_iv (rfl) (iv_w f103_655_a0 (by decide)))⟩
  refine lv_if_eq (tgt := 103) hx hb dX11_bride_30 (by decide) (fun c19 => ?_) (fun c19 => ?_)
  · --
    exact iv_no (iv_eq1 (lo := 1) (hi := 0) c19 i12 (⟨by decide, by decide⟩ : Iv 0 0 0) (by decide)) (by decide)
  · --
    refine lv_iload_n hx hb dX11_bride_33 rfl (lv_at hl 0 rfl) ?_
    have J_48 : ∀ n48 : Nat, ∀ (H : Heap) (locs : List Loc), oI A L τ cy D s.heap σ8 H locs → 0 < n48 → ∀ (ls : Array Slot), lv_has ls 9 [(0, .ref a0), (1, .int 0)] → W p l e ({ frames := 3, cells := 0, slots := 0, locals := 63 } : Room) s m args below meth c H locs 0 0 Q (F0 m 48 ls []) := by
      intro n48
      induction n48 with
      | zero => intro  H locs hw  hn_48   ls hl; exact absurd hn_48 (Nat.not_lt_zero _)
      | succ n48 ih_48 =>
        intro  H locs hw  hn_48   ls hl
        refine lv_iload_n hx hb dX11_bride_48 rfl (lv_at hl 1 rfl) ?_
        refine lv_bipush (v := 12) hx hb dX11_bride_49 (by decide) ?_
        refine lv_icmp_ne (tgt := 65) hx hb dX11_bride_51 (by decide) (fun c20 => ?_) (fun c20 => ?_)
        · --
          refine lv_aload_n hx hb dX11_bride_65 rfl (lv_at hl 0 rfl) ?_
          refine lv_bipush (v := 97) hx hb dX11_bride_66 (by decide) ?_
          refine lv_aload_n hx hb dX11_bride_68 rfl (lv_at hl 0 rfl) ?_
          refine g_641 cx hw ha0 k_f_X11_99 dX11_bride_69 (fun v21 e21 i21 => ?_)
          have z22 : (σ8.1 662 a0).toInt = ((σ6.1 662 a0) : Int32).toInt := congrArg Int32.toInt (show σ8.1 662 a0 = (σ6.1 662 a0) from ((kp_i eσ8 (by decide)).trans rfl))
          have z23 : (σ8.1 660 a0).toInt = ((σ6.1 660 a0) : Int32).toInt := congrArg Int32.toInt (show σ8.1 660 a0 = (σ6.1 660 a0) from ((kp_i eσ8 (by decide)).trans rfl))
          have z24 : (σ8.1 663 a0).toInt = ((σ6.1 663 a0) : Int32).toInt := congrArg Int32.toInt (show σ8.1 663 a0 = (σ6.1 663 a0) from ((kp_i eσ8 (by decide)).trans rfl))
          have z25 : (σ8.1 661 a0).toInt = ((σ6.1 661 a0) : Int32).toInt := congrArg Int32.toInt (show σ8.1 661 a0 = (σ6.1 661 a0) from ((kp_i eσ8 (by decide)).trans rfl))
          have z26 : (σ8.1 662 a0).toInt = 0 := (by have := (p7_2).1; have := (p7_2).2; have := (p7_3).1; have := (p7_3).2; have := (p7_4).1; have := (p7_4).2; have := (p7_5).1; have := (p7_5).2; have := (i21).1; have := (i21).2; have := (hf655).1; have := (hf655).2; have := (i4).1; have := (i4).2; have := (i5).1; have := (i5).2; have := (i12).1; have := (i12).2; have : (σ8.1 658 a0).toInt = (0 : Int32).toInt := congrArg Int32.toInt (show σ8.1 658 a0 = 0 from ((kp_i eσ8 (by decide)).trans ((kp_c p7_0 (by decide)).trans (kp_s eσ1)))); have : (σ8.1 660 a0).toInt = ((σ6.1 660 a0) : Int32).toInt := congrArg Int32.toInt (show σ8.1 660 a0 = (σ6.1 660 a0) from ((kp_i eσ8 (by decide)).trans rfl)); have : (σ8.1 661 a0).toInt = ((σ6.1 661 a0) : Int32).toInt := congrArg Int32.toInt (show σ8.1 661 a0 = (σ6.1 661 a0) from ((kp_i eσ8 (by decide)).trans rfl)); have : (σ8.1 662 a0).toInt = ((σ6.1 662 a0) : Int32).toInt := congrArg Int32.toInt (show σ8.1 662 a0 = (σ6.1 662 a0) from ((kp_i eσ8 (by decide)).trans rfl)); have : (σ8.1 663 a0).toInt = ((σ6.1 663 a0) : Int32).toInt := congrArg Int32.toInt (show σ8.1 663 a0 = (σ6.1 663 a0) from ((kp_i eσ8 (by decide)).trans rfl)); have : (σ8.1 655 a0).toInt = (0 : Int32).toInt := congrArg Int32.toInt (show σ8.1 655 a0 = 0 from (kp_s eσ8)); have : (σ8.1 641 a0).toInt = (v21 : Int32).toInt := congrArg Int32.toInt (show σ8.1 641 a0 = v21 from e21.symm); have : (0 : Int32).toInt = 0 := (by decide); have : (80 : Int32).toInt = 80 := (by decide); have : (97 : Int32).toInt = 97 := (by decide); omega)
          have z27 : (σ8.1 663 a0).toInt = (-1) := (by have := (p7_2).1; have := (p7_2).2; have := (p7_3).1; have := (p7_3).2; have := (p7_4).1; have := (p7_4).2; have := (p7_5).1; have := (p7_5).2; have := (i21).1; have := (i21).2; have := (hf655).1; have := (hf655).2; have := (i4).1; have := (i4).2; have := (i5).1; have := (i5).2; have := (i12).1; have := (i12).2; have : (σ8.1 658 a0).toInt = (0 : Int32).toInt := congrArg Int32.toInt (show σ8.1 658 a0 = 0 from ((kp_i eσ8 (by decide)).trans ((kp_c p7_0 (by decide)).trans (kp_s eσ1)))); have : (σ8.1 660 a0).toInt = ((σ6.1 660 a0) : Int32).toInt := congrArg Int32.toInt (show σ8.1 660 a0 = (σ6.1 660 a0) from ((kp_i eσ8 (by decide)).trans rfl)); have : (σ8.1 661 a0).toInt = ((σ6.1 661 a0) : Int32).toInt := congrArg Int32.toInt (show σ8.1 661 a0 = (σ6.1 661 a0) from ((kp_i eσ8 (by decide)).trans rfl)); have : (σ8.1 662 a0).toInt = ((σ6.1 662 a0) : Int32).toInt := congrArg Int32.toInt (show σ8.1 662 a0 = (σ6.1 662 a0) from ((kp_i eσ8 (by decide)).trans rfl)); have : (σ8.1 663 a0).toInt = ((σ6.1 663 a0) : Int32).toInt := congrArg Int32.toInt (show σ8.1 663 a0 = (σ6.1 663 a0) from ((kp_i eσ8 (by decide)).trans rfl)); have : (σ8.1 655 a0).toInt = (0 : Int32).toInt := congrArg Int32.toInt (show σ8.1 655 a0 = 0 from (kp_s eσ8)); have : (σ8.1 641 a0).toInt = (v21 : Int32).toInt := congrArg Int32.toInt (show σ8.1 641 a0 = v21 from e21.symm); have : (0 : Int32).toInt = 0 := (by decide); have : (80 : Int32).toInt = 80 := (by decide); have : (97 : Int32).toInt = 97 := (by decide); omega)
          refine o_ci hw (oRunV cx hA hw q_X11_oneOf k_m_X11_171 rfl ha0 (by decide) (As := [.int 97, .int v21]) (c_X11_oneOfT a0 ha0 97 (iv_w (⟨by decide, by decide⟩ : Iv 97 97 97) (by decide)) v21 (iv_w i21 (by decide)) v2 (((kr_i eσ8).trans p7_1)) h2 (kn_iv (((kp_i eσ8 (by decide)).trans rfl)) (iv_w p7_2 (by decide)))) (by decide) rfl hl.1 rfl (Nat.le_of_ble_eq_true rfl) dX11_bride_72 (by decide)) (fun v29 σ28 H locs hp hw => ?_)
          obtain ⟨p29_0, p29_1, p29_2, p29_3, p29_4, p29_5, p29_6, p29_7⟩ := hp
          have fr := oFr_tr fr p29_0 (by decide)
          have i30 : Iv (σ28.1 662 a0) 0 200 := o_fb (j := 662) hw ha0 rfl
          have i31 : Iv (σ28.1 663 a0) (-1) 200 := o_fb (j := 663) hw ha0 rfl
          have i32 : Iv v29 0 0 := iv_lt0 p29_2 i21 (by decide)
          have on33 := p29_4 (by have := (i32).1; have := (i32).2; have := (p7_2).1; have := (p7_2).2; have := (p7_3).1; have := (p7_3).2; have := (i21).1; have := (i21).2; have := (i30).1; have := (i30).2; have := (i31).1; have := (i31).2; have := (hf655).1; have := (hf655).2; have := (i4).1; have := (i4).2; have := (i5).1; have := (i5).2; have := (p7_4).1; have := (p7_4).2; have := (p7_5).1; have := (p7_5).2; have := (i12).1; have := (i12).2; have : (σ28.1 658 a0).toInt = (0 : Int32).toInt := congrArg Int32.toInt (show σ28.1 658 a0 = 0 from ((kp_c p29_0 (by decide)).trans ((kp_i eσ8 (by decide)).trans ((kp_c p7_0 (by decide)).trans (kp_s eσ1))))); have : (σ28.1 660 a0).toInt = ((σ6.1 660 a0) : Int32).toInt := congrArg Int32.toInt (show σ28.1 660 a0 = (σ6.1 660 a0) from ((kp_c p29_0 (by decide)).trans ((kp_i eσ8 (by decide)).trans rfl))); have : (σ28.1 661 a0).toInt = ((σ6.1 661 a0) : Int32).toInt := congrArg Int32.toInt (show σ28.1 661 a0 = (σ6.1 661 a0) from ((kp_c p29_0 (by decide)).trans ((kp_i eσ8 (by decide)).trans rfl))); have : (σ28.1 655 a0).toInt = (0 : Int32).toInt := congrArg Int32.toInt (show σ28.1 655 a0 = 0 from ((kp_c p29_0 (by decide)).trans (kp_s eσ8))); have : (σ28.1 641 a0).toInt = (v21 : Int32).toInt := congrArg Int32.toInt (show σ28.1 641 a0 = v21 from ((kp_c p29_0 (by decide)).trans e21.symm)); have : (0 : Int32).toInt = 0 := (by decide); have : (80 : Int32).toInt = 80 := (by decide); have : (97 : Int32).toInt = 97 := (by decide); omega)
          have i34 : Iv (σ28.1 663 a0) 0 0 := (by have := (i32).1; have := (i32).2; have := (p7_2).1; have := (p7_2).2; have := (p7_3).1; have := (p7_3).2; have := (i21).1; have := (i21).2; have := (i30).1; have := (i30).2; have := (i31).1; have := (i31).2; have := (hf655).1; have := (hf655).2; have := (i4).1; have := (i4).2; have := (i5).1; have := (i5).2; have := (p7_4).1; have := (p7_4).2; have := (p7_5).1; have := (p7_5).2; have := (i12).1; have := (i12).2; have : (σ28.1 658 a0).toInt = (0 : Int32).toInt := congrArg Int32.toInt (show σ28.1 658 a0 = 0 from ((kp_c p29_0 (by decide)).trans ((kp_i eσ8 (by decide)).trans ((kp_c p7_0 (by decide)).trans (kp_s eσ1))))); have : (σ28.1 660 a0).toInt = ((σ6.1 660 a0) : Int32).toInt := congrArg Int32.toInt (show σ28.1 660 a0 = (σ6.1 660 a0) from ((kp_c p29_0 (by decide)).trans ((kp_i eσ8 (by decide)).trans rfl))); have : (σ28.1 661 a0).toInt = ((σ6.1 661 a0) : Int32).toInt := congrArg Int32.toInt (show σ28.1 661 a0 = (σ6.1 661 a0) from ((kp_c p29_0 (by decide)).trans ((kp_i eσ8 (by decide)).trans rfl))); have : (σ28.1 655 a0).toInt = (0 : Int32).toInt := congrArg Int32.toInt (show σ28.1 655 a0 = 0 from ((kp_c p29_0 (by decide)).trans (kp_s eσ8))); have : (σ28.1 641 a0).toInt = (v21 : Int32).toInt := congrArg Int32.toInt (show σ28.1 641 a0 = v21 from ((kp_c p29_0 (by decide)).trans e21.symm)); have : (0 : Int32).toInt = 0 := (by decide); have : (80 : Int32).toInt = 80 := (by decide); have : (97 : Int32).toInt = 97 := (by decide); exact ⟨by omega, by omega⟩)
          have i35 : Iv (σ28.1 662 a0) 0 0 := (by have := (i32).1; have := (i32).2; have := (p7_2).1; have := (p7_2).2; have := (p7_3).1; have := (p7_3).2; have := (i21).1; have := (i21).2; have := (i30).1; have := (i30).2; have := (i34).1; have := (i34).2; have := (hf655).1; have := (hf655).2; have := (i4).1; have := (i4).2; have := (i5).1; have := (i5).2; have := (p7_4).1; have := (p7_4).2; have := (p7_5).1; have := (p7_5).2; have := (i12).1; have := (i12).2; have : (σ28.1 658 a0).toInt = (0 : Int32).toInt := congrArg Int32.toInt (show σ28.1 658 a0 = 0 from ((kp_c p29_0 (by decide)).trans ((kp_i eσ8 (by decide)).trans ((kp_c p7_0 (by decide)).trans (kp_s eσ1))))); have : (σ28.1 660 a0).toInt = ((σ6.1 660 a0) : Int32).toInt := congrArg Int32.toInt (show σ28.1 660 a0 = (σ6.1 660 a0) from ((kp_c p29_0 (by decide)).trans ((kp_i eσ8 (by decide)).trans rfl))); have : (σ28.1 661 a0).toInt = ((σ6.1 661 a0) : Int32).toInt := congrArg Int32.toInt (show σ28.1 661 a0 = (σ6.1 661 a0) from ((kp_c p29_0 (by decide)).trans ((kp_i eσ8 (by decide)).trans rfl))); have : (σ28.1 655 a0).toInt = (0 : Int32).toInt := congrArg Int32.toInt (show σ28.1 655 a0 = 0 from ((kp_c p29_0 (by decide)).trans (kp_s eσ8))); have : (σ28.1 641 a0).toInt = (v21 : Int32).toInt := congrArg Int32.toInt (show σ28.1 641 a0 = v21 from ((kp_c p29_0 (by decide)).trans e21.symm)); have : (0 : Int32).toInt = 0 := (by decide); have : (80 : Int32).toInt = 80 := (by decide); have : (97 : Int32).toInt = 97 := (by decide); exact ⟨by omega, by omega⟩)
          refine lv_istore_n (lv' := [(2, .int v29), (0, .ref a0), (1, .int 0)]) hx hb dX11_bride_75 rfl hl (by decide) rfl (fun ls hl => ?_)
          refine lv_aload_n hx hb dX11_bride_76 rfl (lv_at hl 1 rfl) ?_
          refine g_680 cx hw ha0 k_f_X11_76 dX11_bride_77 (fun v36 e36 h36 => ?_)
          refine lv_iload_n hx hb dX11_bride_80 rfl (lv_at hl 2 rfl) ?_
          refine lv_bipush (v := 8) hx hb dX11_bride_81 (by decide) ?_
          refine lv_aload_n hx hb dX11_bride_83 rfl (lv_at hl 1 rfl) ?_
          refine lv_bipush (v := 49) hx hb dX11_bride_84 (by decide) ?_
          refine lv_aload_n hx hb dX11_bride_86 rfl (lv_at hl 1 rfl) ?_
          refine g_642 cx hw ha0 k_f_X11_102 dX11_bride_87 (fun v37 e37 i37 => ?_)
          have z38 : (σ28.1 660 a0).toInt = ((σ6.1 660 a0) : Int32).toInt := congrArg Int32.toInt (show σ28.1 660 a0 = (σ6.1 660 a0) from ((kp_c p29_0 (by decide)).trans ((kp_i eσ8 (by decide)).trans rfl)))
          have z39 : (σ28.1 661 a0).toInt = ((σ6.1 661 a0) : Int32).toInt := congrArg Int32.toInt (show σ28.1 661 a0 = (σ6.1 661 a0) from ((kp_c p29_0 (by decide)).trans ((kp_i eσ8 (by decide)).trans rfl)))
          have z40 : (σ28.1 662 a0).toInt = 0 := (by have := (i32).1; have := (i32).2; have := (p7_2).1; have := (p7_2).2; have := (p7_3).1; have := (p7_3).2; have := (i21).1; have := (i21).2; have := (i35).1; have := (i35).2; have := (i34).1; have := (i34).2; have := (i37).1; have := (i37).2; have := (hf655).1; have := (hf655).2; have := (i4).1; have := (i4).2; have := (i5).1; have := (i5).2; have := (p7_4).1; have := (p7_4).2; have := (p7_5).1; have := (p7_5).2; have := (i12).1; have := (i12).2; have : (σ28.1 658 a0).toInt = (0 : Int32).toInt := congrArg Int32.toInt (show σ28.1 658 a0 = 0 from ((kp_c p29_0 (by decide)).trans ((kp_i eσ8 (by decide)).trans ((kp_c p7_0 (by decide)).trans (kp_s eσ1))))); have : (σ28.1 660 a0).toInt = ((σ6.1 660 a0) : Int32).toInt := congrArg Int32.toInt (show σ28.1 660 a0 = (σ6.1 660 a0) from ((kp_c p29_0 (by decide)).trans ((kp_i eσ8 (by decide)).trans rfl))); have : (σ28.1 661 a0).toInt = ((σ6.1 661 a0) : Int32).toInt := congrArg Int32.toInt (show σ28.1 661 a0 = (σ6.1 661 a0) from ((kp_c p29_0 (by decide)).trans ((kp_i eσ8 (by decide)).trans rfl))); have : (σ28.1 655 a0).toInt = (0 : Int32).toInt := congrArg Int32.toInt (show σ28.1 655 a0 = 0 from ((kp_c p29_0 (by decide)).trans (kp_s eσ8))); have : (σ28.1 641 a0).toInt = (v21 : Int32).toInt := congrArg Int32.toInt (show σ28.1 641 a0 = v21 from ((kp_c p29_0 (by decide)).trans e21.symm)); have : (σ28.1 642 a0).toInt = (v37 : Int32).toInt := congrArg Int32.toInt (show σ28.1 642 a0 = v37 from e37.symm); have : (0 : Int32).toInt = 0 := (by decide); have : (49 : Int32).toInt = 49 := (by decide); have : (8 : Int32).toInt = 8 := (by decide); have : (80 : Int32).toInt = 80 := (by decide); have : (97 : Int32).toInt = 97 := (by decide); omega)
          have z41 : (σ28.1 663 a0).toInt = 0 := (by have := (i32).1; have := (i32).2; have := (p7_2).1; have := (p7_2).2; have := (p7_3).1; have := (p7_3).2; have := (i21).1; have := (i21).2; have := (i35).1; have := (i35).2; have := (i34).1; have := (i34).2; have := (i37).1; have := (i37).2; have := (hf655).1; have := (hf655).2; have := (i4).1; have := (i4).2; have := (i5).1; have := (i5).2; have := (p7_4).1; have := (p7_4).2; have := (p7_5).1; have := (p7_5).2; have := (i12).1; have := (i12).2; have : (σ28.1 658 a0).toInt = (0 : Int32).toInt := congrArg Int32.toInt (show σ28.1 658 a0 = 0 from ((kp_c p29_0 (by decide)).trans ((kp_i eσ8 (by decide)).trans ((kp_c p7_0 (by decide)).trans (kp_s eσ1))))); have : (σ28.1 660 a0).toInt = ((σ6.1 660 a0) : Int32).toInt := congrArg Int32.toInt (show σ28.1 660 a0 = (σ6.1 660 a0) from ((kp_c p29_0 (by decide)).trans ((kp_i eσ8 (by decide)).trans rfl))); have : (σ28.1 661 a0).toInt = ((σ6.1 661 a0) : Int32).toInt := congrArg Int32.toInt (show σ28.1 661 a0 = (σ6.1 661 a0) from ((kp_c p29_0 (by decide)).trans ((kp_i eσ8 (by decide)).trans rfl))); have : (σ28.1 655 a0).toInt = (0 : Int32).toInt := congrArg Int32.toInt (show σ28.1 655 a0 = 0 from ((kp_c p29_0 (by decide)).trans (kp_s eσ8))); have : (σ28.1 641 a0).toInt = (v21 : Int32).toInt := congrArg Int32.toInt (show σ28.1 641 a0 = v21 from ((kp_c p29_0 (by decide)).trans e21.symm)); have : (σ28.1 642 a0).toInt = (v37 : Int32).toInt := congrArg Int32.toInt (show σ28.1 642 a0 = v37 from e37.symm); have : (0 : Int32).toInt = 0 := (by decide); have : (49 : Int32).toInt = 49 := (by decide); have : (8 : Int32).toInt = 8 := (by decide); have : (80 : Int32).toInt = 80 := (by decide); have : (97 : Int32).toInt = 97 := (by decide); omega)
          refine o_ci hw (oRunV cx hA hw q_X11_oneOf k_m_X11_171 rfl ha0 (by decide) (As := [.int 49, .int v37]) (c_X11_oneOfT a0 ha0 49 (iv_w (⟨by decide, by decide⟩ : Iv 49 49 49) (by decide)) v37 (iv_w i37 (by decide)) v2 (((kr_c p29_0 (by decide)).trans ((kr_i eσ8).trans p7_1))) h2 (kn_iv (((kp_c p29_0 (by decide)).trans ((kp_i eσ8 (by decide)).trans rfl))) (iv_w p7_2 (by decide)))) (by decide) rfl hl.1 rfl (Nat.le_of_ble_eq_true rfl) dX11_bride_90 (by decide)) (fun v43 σ42 H locs hp hw => ?_)
          obtain ⟨p43_0, p43_1, p43_2, p43_3, p43_4, p43_5, p43_6, p43_7⟩ := hp
          have fr := oFr_tr fr p43_0 (by decide)
          have i44 : Iv (σ42.1 662 a0) 0 200 := o_fb (j := 662) hw ha0 rfl
          have i45 : Iv (σ42.1 663 a0) (-1) 200 := o_fb (j := 663) hw ha0 rfl
          have i46 : Iv v43 0 0 := iv_lt0 p43_2 i37 (by decide)
          have on47 := p43_3 (by have := (i32).1; have := (i32).2; have := (i46).1; have := (i46).2; have := (p7_2).1; have := (p7_2).2; have := (p7_3).1; have := (p7_3).2; have := (i21).1; have := (i21).2; have := (i37).1; have := (i37).2; have := (i44).1; have := (i44).2; have := (i45).1; have := (i45).2; have := (hf655).1; have := (hf655).2; have := (i4).1; have := (i4).2; have := (i5).1; have := (i5).2; have := (p7_4).1; have := (p7_4).2; have := (p7_5).1; have := (p7_5).2; have := (i12).1; have := (i12).2; have := (i35).1; have := (i35).2; have := (i34).1; have := (i34).2; have : (σ42.1 658 a0).toInt = (0 : Int32).toInt := congrArg Int32.toInt (show σ42.1 658 a0 = 0 from ((kp_c p43_0 (by decide)).trans ((kp_c p29_0 (by decide)).trans ((kp_i eσ8 (by decide)).trans ((kp_c p7_0 (by decide)).trans (kp_s eσ1)))))); have : (σ42.1 660 a0).toInt = ((σ6.1 660 a0) : Int32).toInt := congrArg Int32.toInt (show σ42.1 660 a0 = (σ6.1 660 a0) from ((kp_c p43_0 (by decide)).trans ((kp_c p29_0 (by decide)).trans ((kp_i eσ8 (by decide)).trans rfl)))); have : (σ42.1 661 a0).toInt = ((σ6.1 661 a0) : Int32).toInt := congrArg Int32.toInt (show σ42.1 661 a0 = (σ6.1 661 a0) from ((kp_c p43_0 (by decide)).trans ((kp_c p29_0 (by decide)).trans ((kp_i eσ8 (by decide)).trans rfl)))); have : (σ42.1 655 a0).toInt = (0 : Int32).toInt := congrArg Int32.toInt (show σ42.1 655 a0 = 0 from ((kp_c p43_0 (by decide)).trans ((kp_c p29_0 (by decide)).trans (kp_s eσ8)))); have : (σ42.1 641 a0).toInt = (v21 : Int32).toInt := congrArg Int32.toInt (show σ42.1 641 a0 = v21 from ((kp_c p43_0 (by decide)).trans ((kp_c p29_0 (by decide)).trans e21.symm))); have : (σ42.1 642 a0).toInt = (v37 : Int32).toInt := congrArg Int32.toInt (show σ42.1 642 a0 = v37 from ((kp_c p43_0 (by decide)).trans e37.symm)); have : (0 : Int32).toInt = 0 := (by decide); have : (49 : Int32).toInt = 49 := (by decide); have : (8 : Int32).toInt = 8 := (by decide); have : (80 : Int32).toInt = 80 := (by decide); have : (97 : Int32).toInt = 97 := (by decide); omega)
          have i48 : Iv (σ42.1 663 a0) 0 0 := (by have := (i32).1; have := (i32).2; have := (i46).1; have := (i46).2; have := (p7_2).1; have := (p7_2).2; have := (p7_3).1; have := (p7_3).2; have := (i21).1; have := (i21).2; have := (i37).1; have := (i37).2; have := (i44).1; have := (i44).2; have := (i45).1; have := (i45).2; have := (hf655).1; have := (hf655).2; have := (i4).1; have := (i4).2; have := (i5).1; have := (i5).2; have := (p7_4).1; have := (p7_4).2; have := (p7_5).1; have := (p7_5).2; have := (i12).1; have := (i12).2; have := (i35).1; have := (i35).2; have := (i34).1; have := (i34).2; have : (σ42.1 658 a0).toInt = (0 : Int32).toInt := congrArg Int32.toInt (show σ42.1 658 a0 = 0 from ((kp_c p43_0 (by decide)).trans ((kp_c p29_0 (by decide)).trans ((kp_i eσ8 (by decide)).trans ((kp_c p7_0 (by decide)).trans (kp_s eσ1)))))); have : (σ42.1 660 a0).toInt = ((σ6.1 660 a0) : Int32).toInt := congrArg Int32.toInt (show σ42.1 660 a0 = (σ6.1 660 a0) from ((kp_c p43_0 (by decide)).trans ((kp_c p29_0 (by decide)).trans ((kp_i eσ8 (by decide)).trans rfl)))); have : (σ42.1 661 a0).toInt = ((σ6.1 661 a0) : Int32).toInt := congrArg Int32.toInt (show σ42.1 661 a0 = (σ6.1 661 a0) from ((kp_c p43_0 (by decide)).trans ((kp_c p29_0 (by decide)).trans ((kp_i eσ8 (by decide)).trans rfl)))); have : (σ42.1 655 a0).toInt = (0 : Int32).toInt := congrArg Int32.toInt (show σ42.1 655 a0 = 0 from ((kp_c p43_0 (by decide)).trans ((kp_c p29_0 (by decide)).trans (kp_s eσ8)))); have : (σ42.1 641 a0).toInt = (v21 : Int32).toInt := congrArg Int32.toInt (show σ42.1 641 a0 = v21 from ((kp_c p43_0 (by decide)).trans ((kp_c p29_0 (by decide)).trans e21.symm))); have : (σ42.1 642 a0).toInt = (v37 : Int32).toInt := congrArg Int32.toInt (show σ42.1 642 a0 = v37 from ((kp_c p43_0 (by decide)).trans e37.symm)); have : (0 : Int32).toInt = 0 := (by decide); have : (49 : Int32).toInt = 49 := (by decide); have : (8 : Int32).toInt = 8 := (by decide); have : (80 : Int32).toInt = 80 := (by decide); have : (97 : Int32).toInt = 97 := (by decide); exact ⟨by omega, by omega⟩)
          have i49 : Iv (σ42.1 662 a0) 0 0 := (by have := (i32).1; have := (i32).2; have := (i46).1; have := (i46).2; have := (p7_2).1; have := (p7_2).2; have := (p7_3).1; have := (p7_3).2; have := (i21).1; have := (i21).2; have := (i37).1; have := (i37).2; have := (i44).1; have := (i44).2; have := (i48).1; have := (i48).2; have := (hf655).1; have := (hf655).2; have := (i4).1; have := (i4).2; have := (i5).1; have := (i5).2; have := (p7_4).1; have := (p7_4).2; have := (p7_5).1; have := (p7_5).2; have := (i12).1; have := (i12).2; have := (i35).1; have := (i35).2; have := (i34).1; have := (i34).2; have : (σ42.1 658 a0).toInt = (0 : Int32).toInt := congrArg Int32.toInt (show σ42.1 658 a0 = 0 from ((kp_c p43_0 (by decide)).trans ((kp_c p29_0 (by decide)).trans ((kp_i eσ8 (by decide)).trans ((kp_c p7_0 (by decide)).trans (kp_s eσ1)))))); have : (σ42.1 660 a0).toInt = ((σ6.1 660 a0) : Int32).toInt := congrArg Int32.toInt (show σ42.1 660 a0 = (σ6.1 660 a0) from ((kp_c p43_0 (by decide)).trans ((kp_c p29_0 (by decide)).trans ((kp_i eσ8 (by decide)).trans rfl)))); have : (σ42.1 661 a0).toInt = ((σ6.1 661 a0) : Int32).toInt := congrArg Int32.toInt (show σ42.1 661 a0 = (σ6.1 661 a0) from ((kp_c p43_0 (by decide)).trans ((kp_c p29_0 (by decide)).trans ((kp_i eσ8 (by decide)).trans rfl)))); have : (σ42.1 655 a0).toInt = (0 : Int32).toInt := congrArg Int32.toInt (show σ42.1 655 a0 = 0 from ((kp_c p43_0 (by decide)).trans ((kp_c p29_0 (by decide)).trans (kp_s eσ8)))); have : (σ42.1 641 a0).toInt = (v21 : Int32).toInt := congrArg Int32.toInt (show σ42.1 641 a0 = v21 from ((kp_c p43_0 (by decide)).trans ((kp_c p29_0 (by decide)).trans e21.symm))); have : (σ42.1 642 a0).toInt = (v37 : Int32).toInt := congrArg Int32.toInt (show σ42.1 642 a0 = v37 from ((kp_c p43_0 (by decide)).trans e37.symm)); have : (0 : Int32).toInt = 0 := (by decide); have : (49 : Int32).toInt = 49 := (by decide); have : (8 : Int32).toInt = 8 := (by decide); have : (80 : Int32).toInt = 80 := (by decide); have : (97 : Int32).toInt = 97 := (by decide); exact ⟨by omega, by omega⟩)
          refine lv_imul hx hb dX11_bride_93 ?_
          refine lv_topi (fun v50 e50 => ?_)
          have i50 : Iv v50 0 0 := iv_mul e50 (⟨by decide, by decide⟩ : Iv 8 8 8) i46 (by decide)
          refine lv_iload_n hx hb dX11_bride_94 rfl (lv_at hl 0 rfl) ?_
          refine lv_iadd hx hb dX11_bride_95 ?_
          refine lv_topi (fun v51 e51 => ?_)
          have i51 : Iv v51 0 0 := iv_add e51 i50 i32 (by decide)
          have x51 : v51.toInt = v50.toInt + v29.toInt := ex_add e51 i50 i32 (by decide)
          refine o_iast cx hw h36 (by decide) rfl (iv_in (⟨by decide, by decide⟩ : Iv 0 0 0) (by decide)) (iv_w i51 (by decide)) dX11_bride_96 (fun σ52 H locs eσ52 hw => ?_)
          have fr := oFr_p fr eσ52 h36 (by decide)
          refine lv_iinc (v := 1) (lv' := [(1, .int 1), (2, .int v29), (0, .ref a0)]) hx hb dX11_bride_97 hl (k := 2) rfl (by decide) (by decide) rfl (fun ls hl => ?_)
          refine lv_goto (tgt := 26) hx hb dX11_bride_100 (by decide) ?_
          refine lv_aload_n hx hb dX11_bride_26 rfl (lv_at hl 2 rfl) ?_
          have z54 : (σ52.1 663 a0).toInt = ((σ42.1 663 a0) : Int32).toInt := congrArg Int32.toInt (show σ52.1 663 a0 = (σ42.1 663 a0) from ((kp_p eσ52).trans rfl))
          refine o_ci hw (oRunV cx hA hw q_X11_fine k_m_X11_126 rfl ha0 (by decide) (As := []) (c_X11_fine a0 ha0) (by decide) rfl hl.1 rfl (Nat.le_of_ble_eq_true rfl) dX11_bride_27 (by decide)) (fun v56 σ55 H locs hp hw => ?_)
          obtain ⟨p56_0, p56_1, p56_2⟩ := hp
          rw [p56_0] at hw
          have i57 : Iv v56 0 0 := (by have := (i32).1; have := (i32).2; have := (p56_1).1; have := (p56_1).2; have := (p7_2).1; have := (p7_2).2; have := (p7_3).1; have := (p7_3).2; have := (i21).1; have := (i21).2; have := (i37).1; have := (i37).2; have := (i49).1; have := (i49).2; have := (i48).1; have := (i48).2; have := (hf655).1; have := (hf655).2; have := (i4).1; have := (i4).2; have := (i5).1; have := (i5).2; have := (p7_4).1; have := (p7_4).2; have := (p7_5).1; have := (p7_5).2; have := (i12).1; have := (i12).2; have := (i35).1; have := (i35).2; have := (i34).1; have := (i34).2; have := (i46).1; have := (i46).2; have := (i50).1; have := (i50).2; have := (i51).1; have := (i51).2; have : (σ52.1 658 a0).toInt = (0 : Int32).toInt := congrArg Int32.toInt (show σ52.1 658 a0 = 0 from ((kp_p eσ52).trans ((kp_c p43_0 (by decide)).trans ((kp_c p29_0 (by decide)).trans ((kp_i eσ8 (by decide)).trans ((kp_c p7_0 (by decide)).trans (kp_s eσ1))))))); have : (σ52.1 660 a0).toInt = ((σ6.1 660 a0) : Int32).toInt := congrArg Int32.toInt (show σ52.1 660 a0 = (σ6.1 660 a0) from ((kp_p eσ52).trans ((kp_c p43_0 (by decide)).trans ((kp_c p29_0 (by decide)).trans ((kp_i eσ8 (by decide)).trans rfl))))); have : (σ52.1 661 a0).toInt = ((σ6.1 661 a0) : Int32).toInt := congrArg Int32.toInt (show σ52.1 661 a0 = (σ6.1 661 a0) from ((kp_p eσ52).trans ((kp_c p43_0 (by decide)).trans ((kp_c p29_0 (by decide)).trans ((kp_i eσ8 (by decide)).trans rfl))))); have : (σ52.1 655 a0).toInt = (0 : Int32).toInt := congrArg Int32.toInt (show σ52.1 655 a0 = 0 from ((kp_p eσ52).trans ((kp_c p43_0 (by decide)).trans ((kp_c p29_0 (by decide)).trans (kp_s eσ8))))); have : (σ52.1 641 a0).toInt = (v21 : Int32).toInt := congrArg Int32.toInt (show σ52.1 641 a0 = v21 from ((kp_p eσ52).trans ((kp_c p43_0 (by decide)).trans ((kp_c p29_0 (by decide)).trans e21.symm)))); have : (σ52.1 642 a0).toInt = (v37 : Int32).toInt := congrArg Int32.toInt (show σ52.1 642 a0 = v37 from ((kp_p eσ52).trans ((kp_c p43_0 (by decide)).trans e37.symm))); have : (σ52.1 662 a0).toInt = ((σ42.1 662 a0) : Int32).toInt := congrArg Int32.toInt (show σ52.1 662 a0 = (σ42.1 662 a0) from ((kp_p eσ52).trans rfl)); have : (σ52.1 663 a0).toInt = ((σ42.1 663 a0) : Int32).toInt := congrArg Int32.toInt (show σ52.1 663 a0 = (σ42.1 663 a0) from ((kp_p eσ52).trans rfl)); have : (0 : Int32).toInt = 0 := (by decide); have : (1 : Int32).toInt = 1 := (by decide); have : (49 : Int32).toInt = 49 := (by decide); have : (80 : Int32).toInt = 80 := (by decide); have : (97 : Int32).toInt = 97 := (by decide); exact ⟨by omega, by omega⟩)
          refine lv_if_eq (tgt := 103) hx hb dX11_bride_30 (by decide) (fun c58 => ?_) (fun c58 => ?_)
          · --
            exact J_103 1 (⟨by decide, by decide⟩ : Iv 1 1 1) v29 i32 σ52 _ _ hw fr (kn_iv (((kp_p eσ52).trans ((kp_c p43_0 (by decide)).trans ((kp_c p29_0 (by decide)).trans (kp_s eσ8))))) (iv_w (⟨by decide, by decide⟩ : Iv 0 0 0) (by decide))) (kn_iv (((kp_p eσ52).trans ((kp_c p43_0 (by decide)).trans ((kp_c p29_0 (by decide)).trans ((kp_i eσ8 (by decide)).trans rfl))))) (iv_w p7_2 (by decide))) (kn_iv (((kp_p eσ52).trans ((kp_c p43_0 (by decide)).trans ((kp_c p29_0 (by decide)).trans ((kp_i eσ8 (by decide)).trans rfl))))) (iv_w p7_3 (by decide))) (kn_iv (((kp_p eσ52).trans rfl)) (iv_w i49 (by decide))) (kn_iv (((kp_p eσ52).trans rfl)) (iv_w i48 (by decide))) (((kr_p eσ52).trans ((kr_c p43_0 (by decide)).trans ((kr_c p29_0 (by decide)).trans ((kr_i eσ8).trans p7_1))))) _ (lv_sub hl [2, 0, 1] rfl)
          · --
            exact iv_no (iv_ne1 c58 i57 (⟨by decide, by decide⟩ : Iv 0 0 0) (by decide)) (by decide)
        · --
          exact iv_no (iv_eq1 (lo := 12) (hi := 0) c20 (⟨by decide, by decide⟩ : Iv 0 0 0) (⟨by decide, by decide⟩ : Iv 12 12 12) (by decide)) (by decide)
    refine lv_if_eq (tgt := 48) hx hb dX11_bride_34 (by decide) (fun c59 => ?_) (fun c59 => ?_)
    · --
      exact J_48 _ _ _ hw (Nat.lt_succ_self _) _ (lv_sub hl [1, 0] rfl)
    · --
      exact absurd rfl c59
abbrev fs_X11_lost_ : List Nat := [658]
abbrev ts_X11_lost_ : List Nat := []
set_option maxHeartbeats 4000000 in
set_option maxRecDepth 100000 in
theorem c_X11_lost_ (a0 : Nat) (ha0 : oA L τ a0 10) (a1 : Int32) (a2 : Int32) (a3 : Int32) : oMet l A L τ cy D K yX11_lost_ cX11_lost_ 6 (some .int) 2 43 [.ref a0, .int a1, .int a2, .int a3] σ (va_Qi (fun r σ1 => oFr τ fs_X11_lost_ ts_X11_lost_ σ σ1 ∧ Iv r (-1) (-1)) (oPo A L τ cy D) A) := by
  refine oMk (by decide) (Nat.le_of_ble_eq_true rfl) rfl ?_
  intro p e s m args below meth c ls cx rx hA hw hl
  generalize hQ : MQ below _ args s 0 0 A = Q
  have hx := cx.1.1
  have hb := cx.1.2.1
  have hml := cx.1.2.2.1
  have hown := cx.1.2.2.2.1
  have hts := cx.1.2.2.2.2
  have hl : lv_has ls 6 [(0, .ref a0), (1, .int a1), (2, .int a2), (3, .int a3)] := hl
  have fr : oFr τ fs_X11_lost_ ts_X11_lost_ σ σ := oFr_rf
  refine lv_aload_n hx hb dX11_lost__0 rfl (lv_at hl 0 rfl) ?_
  refine lv_iconst (v := 0) hx hb dX11_lost__1 (by decide) ?_
  refine p_658 cx hw ha0 k_f_X11_89 dX11_lost__2 (fun σ1 H locs eσ1 hw => ?_)
  have fr := oFr_i fr eσ1 (by decide)
  refine lv_aload_n hx hb dX11_lost__5 rfl (lv_at hl 0 rfl) ?_
  refine lv_iload_n hx hb dX11_lost__6 rfl (lv_at hl 1 rfl) ?_
  have i2 : Iv (σ1.1 641 a0) 0 0 := o_fb (j := 641) hw ha0 rfl
  have i3 : Iv (σ1.1 642 a0) 0 0 := o_fb (j := 642) hw ha0 rfl
  refine o_ci hw (oRunV cx hA hw q_X11_isCell k_m_X11_157 rfl ha0 (by decide) (As := [.int a1]) (c_X11_isCell a0 ha0 a1) (by decide) rfl hl.1 rfl (Nat.le_of_ble_eq_true rfl) dX11_lost__7 (by decide)) (fun v5 σ4 H locs hp hw => ?_)
  obtain ⟨p5_0, p5_1, p5_2, p5_3⟩ := hp
  rw [p5_0] at hw
  refine lv_if_eq (tgt := 43) hx hb dX11_lost__10 (by decide) (fun c6 => ?_) (fun c6 => ?_)
  · --
    refine lv_iconst (v := (-1)) hx hb dX11_lost__43 (by decide) ?_
    rw [← hQ]
    exact o_ri cx rx hw dX11_lost__44 ⟨fr, (iv_w (⟨by decide, by decide⟩ : Iv (-1) (-1) (-1)) (by decide))⟩
  · --
    exact iv_no (iv_ne1 c6 p5_1 (⟨by decide, by decide⟩ : Iv 0 0 0) (by decide)) (by decide)
abbrev fs_X11_letter : List Nat := [658]
abbrev ts_X11_letter : List Nat := []
set_option maxHeartbeats 4000000 in
set_option maxRecDepth 100000 in
theorem c_X11_letter (a0 : Nat) (ha0 : oA L τ a0 10) (a1 : Int32) : oMet l A L τ cy D K yX11_letter cX11_letter 4 (some .int) 2 43 [.ref a0, .int a1] σ (va_Qi (fun r σ1 => oFr τ fs_X11_letter ts_X11_letter σ σ1 ∧ Iv r (-1) (-1)) (oPo A L τ cy D) A) := by
  refine oMk (by decide) (Nat.le_of_ble_eq_true rfl) rfl ?_
  intro p e s m args below meth c ls cx rx hA hw hl
  generalize hQ : MQ below _ args s 0 0 A = Q
  have hx := cx.1.1
  have hb := cx.1.2.1
  have hml := cx.1.2.2.1
  have hown := cx.1.2.2.2.1
  have hts := cx.1.2.2.2.2
  have hl : lv_has ls 4 [(0, .ref a0), (1, .int a1)] := hl
  have fr : oFr τ fs_X11_letter ts_X11_letter σ σ := oFr_rf
  refine lv_aload_n hx hb dX11_letter_0 rfl (lv_at hl 0 rfl) ?_
  refine lv_iconst (v := 0) hx hb dX11_letter_1 (by decide) ?_
  refine p_658 cx hw ha0 k_f_X11_89 dX11_letter_2 (fun σ1 H locs eσ1 hw => ?_)
  have fr := oFr_i fr eσ1 (by decide)
  refine lv_aload_n hx hb dX11_letter_5 rfl (lv_at hl 0 rfl) ?_
  refine lv_iload_n hx hb dX11_letter_6 rfl (lv_at hl 1 rfl) ?_
  have i2 : Iv (σ1.1 641 a0) 0 0 := o_fb (j := 641) hw ha0 rfl
  have i3 : Iv (σ1.1 642 a0) 0 0 := o_fb (j := 642) hw ha0 rfl
  refine o_ci hw (oRunV cx hA hw q_X11_isCell k_m_X11_157 rfl ha0 (by decide) (As := [.int a1]) (c_X11_isCell a0 ha0 a1) (by decide) rfl hl.1 rfl (Nat.le_of_ble_eq_true rfl) dX11_letter_7 (by decide)) (fun v5 σ4 H locs hp hw => ?_)
  obtain ⟨p5_0, p5_1, p5_2, p5_3⟩ := hp
  rw [p5_0] at hw
  refine lv_if_ne (tgt := 15) hx hb dX11_letter_10 (by decide) (fun c6 => ?_) (fun c6 => ?_)
  · --
    exact iv_no (iv_ne1 c6 p5_1 (⟨by decide, by decide⟩ : Iv 0 0 0) (by decide)) (by decide)
  · --
    refine lv_iconst (v := (-1)) hx hb dX11_letter_13 (by decide) ?_
    rw [← hQ]
    exact o_ri cx rx hw dX11_letter_14 ⟨fr, (iv_w (⟨by decide, by decide⟩ : Iv (-1) (-1) (-1)) (by decide))⟩
abbrev fs_X11_snow : List Nat := [652, 653, 658]
abbrev ts_X11_snow : List Nat := []
set_option maxHeartbeats 4000000 in
set_option maxRecDepth 100000 in
theorem c_X11_snow (a0 : Nat) (ha0 : oA L τ a0 10) : oMet l A L τ cy D K yX11_snow cX11_snow 1 (some .int) 3 67 [.ref a0] σ (va_Qi (fun r σ1 => oFr τ fs_X11_snow ts_X11_snow σ σ1 ∧ Iv r 0 0) (oPo A L τ cy D) A) := by
  refine oMk (by decide) (Nat.le_of_ble_eq_true rfl) rfl ?_
  intro p e s m args below meth c ls cx rx hA hw hl
  generalize hQ : MQ below _ args s 0 0 A = Q
  have hx := cx.1.1
  have hb := cx.1.2.1
  have hml := cx.1.2.2.1
  have hown := cx.1.2.2.2.1
  have hts := cx.1.2.2.2.2
  have hl : lv_has ls 1 [(0, .ref a0)] := hl
  have fr : oFr τ fs_X11_snow ts_X11_snow σ σ := oFr_rf
  refine lv_aload_n hx hb dX11_snow_0 rfl (lv_at hl 0 rfl) ?_
  refine lv_iconst (v := 0) hx hb dX11_snow_1 (by decide) ?_
  refine p_658 cx hw ha0 k_f_X11_89 dX11_snow_2 (fun σ1 H locs eσ1 hw => ?_)
  have fr := oFr_i fr eσ1 (by decide)
  refine lv_aload_n hx hb dX11_snow_5 rfl (lv_at hl 0 rfl) ?_
  refine lv_aload_n hx hb dX11_snow_6 rfl (lv_at hl 0 rfl) ?_
  refine lv_aload_n hx hb dX11_snow_7 rfl (lv_at hl 0 rfl) ?_
  refine g_640 cx hw ha0 k_f_X11_9 dX11_snow_8 (fun v2 e2 h2 => ?_)
  refine o_cl hw (oRunV cx hA hw q_X11_roadOf k_m_X11_313 rfl ha0 (by decide) (As := [.ref v2]) (c_X11_roadOf a0 ha0 v2 h2) (by decide) rfl hl.1 rfl (Nat.le_of_ble_eq_true rfl) dX11_snow_11 (by decide)) (fun v4 σ3 H locs hp hw => ?_)
  obtain ⟨p4_0, p4_1⟩ := hp
  rw [p4_0] at hw
  rw [p4_1]
  refine p_652 cx hw ha0 k_f_X11_377 dX11_snow_14 (fun σ5 H locs eσ5 hw => ?_)
  have fr := oFr_l fr eσ5 (by decide)
  refine lv_aload_n hx hb dX11_snow_17 rfl (lv_at hl 0 rfl) ?_
  refine lv_iconst (v := 1) hx hb dX11_snow_18 (by decide) ?_
  refine p_653 cx hw ha0 (iv_w (⟨by decide, by decide⟩ : Iv 1 1 1) (by decide)) k_f_X11_164 dX11_snow_19 (fun σ6 H locs eσ6 hw => ?_)
  have fr := oFr_i fr eσ6 (by decide)
  refine lv_aload_n hx hb dX11_snow_22 rfl (lv_at hl 0 rfl) ?_
  refine g_652 cx hw ha0 k_f_X11_377 dX11_snow_23 (fun v7 e7 => ?_)
  rw [show v7 = 0 from e7.trans ((((kl_i eσ6).trans rfl)).trans (kl_s eσ5))]
  refine o_ci hw (oRunS cx hA hw q_J13_bitCount_95d88 k_m_X11_321 (As := [.long 0]) (c_J13_bitCount_95d88Z 0 rfl) (by decide) rfl hl.1 rfl (Nat.le_of_ble_eq_true rfl) dX11_snow_26 (by decide)) (fun v9 σ8 H locs hp hw => ?_)
  obtain ⟨p9_0, p9_1⟩ := hp
  rw [p9_0] at hw
  rw [← hQ]
  exact o_ri cx rx hw dX11_snow_29 ⟨fr, (iv_w p9_1 (by decide))⟩
abbrev fs_X11_thaw : List Nat := [658]
abbrev ts_X11_thaw : List Nat := []
set_option maxHeartbeats 4000000 in
set_option maxRecDepth 100000 in
theorem c_X11_thaw (a0 : Nat) (ha0 : oA L τ a0 10) (hf653 : Iv (σ.1 653 a0) 0 0) : oMet l A L τ cy D K yX11_thaw cX11_thaw 3 (some .int) 0 0 [.ref a0] σ (va_Qi (fun r σ1 => oFr τ fs_X11_thaw ts_X11_thaw σ σ1 ∧ Iv r (-2) (-2)) (oPo A L τ cy D) A) := by
  refine oMk (by decide) (Nat.le_of_ble_eq_true rfl) rfl ?_
  intro p e s m args below meth c ls cx rx hA hw hl
  generalize hQ : MQ below _ args s 0 0 A = Q
  have hx := cx.1.1
  have hb := cx.1.2.1
  have hml := cx.1.2.2.1
  have hown := cx.1.2.2.2.1
  have hts := cx.1.2.2.2.2
  have hl : lv_has ls 3 [(0, .ref a0)] := hl
  have fr : oFr τ fs_X11_thaw ts_X11_thaw σ σ := oFr_rf
  refine lv_aload_n hx hb dX11_thaw_0 rfl (lv_at hl 0 rfl) ?_
  refine lv_iconst (v := 0) hx hb dX11_thaw_1 (by decide) ?_
  refine p_658 cx hw ha0 k_f_X11_89 dX11_thaw_2 (fun σ1 H locs eσ1 hw => ?_)
  have fr := oFr_i fr eσ1 (by decide)
  refine lv_aload_n hx hb dX11_thaw_5 rfl (lv_at hl 0 rfl) ?_
  refine g_653 cx hw ha0 k_f_X11_164 dX11_thaw_6 (fun v2 e2 => ?_)
  rw [show v2 = (σ.1 653 a0) from e2.trans ((kp_i eσ1 (by decide)).trans rfl)]
  refine lv_if_ne (tgt := 15) hx hb dX11_thaw_9 (by decide) (fun c3 => ?_) (fun c3 => ?_)
  · --
    exact iv_no (iv_ne1 c3 hf653 (⟨by decide, by decide⟩ : Iv 0 0 0) (by decide)) (by decide)
  · --
    refine lv_bipush (v := (-2)) hx hb dX11_thaw_12 (by decide) ?_
    rw [← hQ]
    exact o_ri cx rx hw dX11_thaw_14 ⟨fr, (iv_w (⟨by decide, by decide⟩ : Iv (-2) (-2) (-2)) (by decide))⟩
abbrev fs_X11_season : List Nat := [658]
abbrev ts_X11_season : List Nat := []
set_option maxHeartbeats 4000000 in
set_option maxRecDepth 100000 in
theorem c_X11_season (a0 : Nat) (ha0 : oA L τ a0 10) (a1 : Int32) (a2 : Int32) : oMet l A L τ cy D K yX11_season cX11_season 9 (some .int) 1 22 [.ref a0, .int a1, .int a2] σ (va_Qi (fun r σ1 => oFr τ fs_X11_season ts_X11_season σ σ1 ∧ Iv r (-1) (-1)) (oPo A L τ cy D) A) := by
  refine oMk (by decide) (Nat.le_of_ble_eq_true rfl) rfl ?_
  intro p e s m args below meth c ls cx rx hA hw hl
  generalize hQ : MQ below _ args s 0 0 A = Q
  have hx := cx.1.1
  have hb := cx.1.2.1
  have hml := cx.1.2.2.1
  have hown := cx.1.2.2.2.1
  have hts := cx.1.2.2.2.2
  have hl : lv_has ls 9 [(0, .ref a0), (1, .int a1), (2, .int a2)] := hl
  have fr : oFr τ fs_X11_season ts_X11_season σ σ := oFr_rf
  refine lv_aload_n hx hb dX11_season_0 rfl (lv_at hl 0 rfl) ?_
  refine lv_iconst (v := 0) hx hb dX11_season_1 (by decide) ?_
  refine p_658 cx hw ha0 k_f_X11_89 dX11_season_2 (fun σ1 H locs eσ1 hw => ?_)
  have fr := oFr_i fr eσ1 (by decide)
  refine lv_iload_n hx hb dX11_season_5 rfl (lv_at hl 2 rfl) ?_
  refine lv_iconst (v := 1) hx hb dX11_season_6 (by decide) ?_
  refine lv_bipush (v := 60) hx hb dX11_season_7 (by decide) ?_
  refine o_ci hw (oRunS cx hA hw q_X11_in k_m_X11_95 (As := [.int a2, .int 1, .int 60]) (c_X11_in a2 1 60) (by decide) rfl hl.1 rfl (Nat.le_of_ble_eq_true rfl) dX11_season_9 (by decide)) (fun v3 σ2 H locs hp hw => ?_)
  obtain ⟨p3_0, p3_1, p3_2, p3_3, p3_4⟩ := hp
  rw [p3_0] at hw
  refine lv_if_eq (tgt := 22) hx hb dX11_season_12 (by decide) (fun c4 => ?_) (fun c4 => ?_)
  · --
    have i5 : Iv v3 0 0 := iv_eq1 c4 p3_1 (⟨by decide, by decide⟩ : Iv 0 0 0) (by decide)
    refine lv_iconst (v := (-1)) hx hb dX11_season_22 (by decide) ?_
    rw [← hQ]
    exact o_ri cx rx hw dX11_season_23 ⟨fr, (iv_w (⟨by decide, by decide⟩ : Iv (-1) (-1) (-1)) (by decide))⟩
  · --
    have i6 : Iv v3 1 1 := iv_ne1 c4 p3_1 (⟨by decide, by decide⟩ : Iv 0 0 0) (by decide)
    have i7 : Iv a2 1 60 := (fun h => iv_rel (p3_2 h) (⟨by decide, by decide⟩ : Iv 1 1 1) (⟨by decide, by decide⟩ : Iv 60 60 60)) c4
    refine lv_aload_n hx hb dX11_season_15 rfl (lv_at hl 0 rfl) ?_
    refine g_641 cx hw ha0 k_f_X11_99 dX11_season_16 (fun v8 e8 i8 => ?_)
    refine lv_if_ne (tgt := 24) hx hb dX11_season_19 (by decide) (fun c9 => ?_) (fun c9 => ?_)
    · --
      exact iv_no (iv_ne1 c9 i8 (⟨by decide, by decide⟩ : Iv 0 0 0) (by decide)) (by decide)
    · --
      refine lv_iconst (v := (-1)) hx hb dX11_season_22 (by decide) ?_
      rw [← hQ]
      exact o_ri cx rx hw dX11_season_23 ⟨fr, (iv_w (⟨by decide, by decide⟩ : Iv (-1) (-1) (-1)) (by decide))⟩
abbrev fs_X11_keep : List Nat := [658]
abbrev ts_X11_keep : List Nat := [59, 60, 61]
set_option maxHeartbeats 4000000 in
set_option maxRecDepth 100000 in
theorem c_X11_keep (a0 : Nat) (ha0 : oA L τ a0 10) (a1 : Int32) : oMet l A L τ cy D K yX11_keep cX11_keep 2 (some .boolean) 1 23 [.ref a0, .int a1] σ (va_Qi (fun r σ1 => oFr τ fs_X11_keep ts_X11_keep σ σ1 ∧ Iv r 0 1 ∧ ((0 ≤ a1.toInt ∧ a1.toInt ≤ 1 ∧ r.toInt = 1) ∨ ((a1.toInt < 0 ∨ 1 < a1.toInt) ∧ r.toInt = 0))) (oPo A L τ cy D) A) := by
  refine oMk (by decide) (Nat.le_of_ble_eq_true rfl) rfl ?_
  intro p e s m args below meth c ls cx rx hA hw hl
  generalize hQ : MQ below _ args s 0 0 A = Q
  have hx := cx.1.1
  have hb := cx.1.2.1
  have hml := cx.1.2.2.1
  have hown := cx.1.2.2.2.1
  have hts := cx.1.2.2.2.2
  have hl : lv_has ls 2 [(0, .ref a0), (1, .int a1)] := hl
  have fr : oFr τ fs_X11_keep ts_X11_keep σ σ := oFr_rf
  refine lv_aload_n hx hb dX11_keep_0 rfl (lv_at hl 0 rfl) ?_
  refine lv_iconst (v := 0) hx hb dX11_keep_1 (by decide) ?_
  refine p_658 cx hw ha0 k_f_X11_89 dX11_keep_2 (fun σ1 H locs eσ1 hw => ?_)
  have fr := oFr_i fr eσ1 (by decide)
  refine lv_iload_n hx hb dX11_keep_5 rfl (lv_at hl 1 rfl) ?_
  refine lv_iconst (v := 0) hx hb dX11_keep_6 (by decide) ?_
  refine lv_iconst (v := 1) hx hb dX11_keep_7 (by decide) ?_
  refine o_ci hw (oRunS cx hA hw q_X11_in k_m_X11_95 (As := [.int a1, .int 0, .int 1]) (c_X11_in a1 0 1) (by decide) rfl hl.1 rfl (Nat.le_of_ble_eq_true rfl) dX11_keep_8 (by decide)) (fun v3 σ2 H locs hp hw => ?_)
  obtain ⟨p3_0, p3_1, p3_2, p3_3, p3_4⟩ := hp
  rw [p3_0] at hw
  refine lv_if_ne (tgt := 16) hx hb dX11_keep_11 (by decide) (fun c4 => ?_) (fun c4 => ?_)
  · --
    have i5 : Iv v3 1 1 := iv_ne1 c4 p3_1 (⟨by decide, by decide⟩ : Iv 0 0 0) (by decide)
    have i6 : Iv a1 0 1 := (fun h => iv_rel (p3_2 h) (⟨by decide, by decide⟩ : Iv 0 0 0) (⟨by decide, by decide⟩ : Iv 1 1 1)) c4
    refine lv_aload_n hx hb dX11_keep_16 rfl (lv_at hl 0 rfl) ?_
    refine g_683 cx hw ha0 k_f_X11_82 dX11_keep_17 (fun v7 e7 h7 => ?_)
    refine lv_iload_n hx hb dX11_keep_20 rfl (lv_at hl 1 rfl) ?_
    refine lv_iconst (v := 1) hx hb dX11_keep_21 (by decide) ?_
    refine o_zast cx hw h7 (by decide) rfl (iv_in i6 (by decide)) trivial dX11_keep_22 (fun σ8 H locs eσ8 hw => ?_)
    have fr := oFr_p fr eσ8 h7 (by decide)
    refine lv_aload_n hx hb dX11_keep_23 rfl (lv_at hl 0 rfl) ?_
    refine g_684 cx hw ha0 k_f_X11_86 dX11_keep_24 (fun v9 e9 h9 => ?_)
    refine lv_iload_n hx hb dX11_keep_27 rfl (lv_at hl 1 rfl) ?_
    refine lv_aload_n hx hb dX11_keep_28 rfl (lv_at hl 0 rfl) ?_
    refine g_681 cx hw ha0 k_f_X11_182 dX11_keep_29 (fun v10 e10 => ?_)
    have z10 : v10.toInt = (σ8.1 681 a0).toInt := congrArg Int32.toInt e10
    refine o_iast cx hw h9 (by decide) rfl (iv_in i6 (by decide)) trivial dX11_keep_32 (fun σ11 H locs eσ11 hw => ?_)
    have fr := oFr_p fr eσ11 h9 (by decide)
    refine lv_aload_n hx hb dX11_keep_33 rfl (lv_at hl 0 rfl) ?_
    refine g_640 cx hw ha0 k_f_X11_9 dX11_keep_34 (fun v12 e12 h12 => ?_)
    refine lv_aload_n hx hb dX11_keep_37 rfl (lv_at hl 0 rfl) ?_
    refine g_682 cx hw ha0 k_f_X11_79 dX11_keep_38 (fun v13 e13 h13 => ?_)
    refine lv_sipush (v := 334) hx hb dX11_keep_41 (by decide) ?_
    refine lv_iload_n hx hb dX11_keep_44 rfl (lv_at hl 1 rfl) ?_
    refine lv_imul hx hb dX11_keep_45 ?_
    refine lv_topi (fun v14 e14 => ?_)
    have i14 : Iv v14 0 334 := iv_mul e14 (⟨by decide, by decide⟩ : Iv 334 334 334) i6 (by decide)
    refine o_cv hw (oRunS cx hA hw q_X11_lay k_m_X11_251 (As := [.ref v12, .ref v13, .int v14]) (c_X11_layK v12 h12 v13 h13 v14 (iv_w i14 (by decide)) (by have q2 := ex_mul e14 (⟨by decide, by decide⟩ : Iv 334 334 334) i6 (by decide); have q3 : (334 : Int32).toInt = 334 := (by decide); rw [q3] at q2; omega)) (by decide) rfl hl.1 rfl (Nat.le_of_ble_eq_true rfl) dX11_keep_46 (by decide)) (fun σ15 H locs hp hw => ?_)
    have p16_0 := hp
    have fr := oFr_tr fr p16_0 (by decide)
    refine lv_iconst (v := 1) hx hb dX11_keep_49 (by decide) ?_
    rw [← hQ]
    exact o_rz cx rx hw (iv_nz01 (iv_w (⟨by decide, by decide⟩ : Iv 1 1 1) (by decide))) dX11_keep_50 ⟨fr, (iv_w (⟨by decide, by decide⟩ : Iv 1 1 1) (by decide)), (by exact (by have := (i6).1; have := (i6).2; have := (i5).1; have := (i5).2; have := (i14).1; have := (i14).2; have : (σ15.1 658 a0).toInt = (0 : Int32).toInt := congrArg Int32.toInt (show σ15.1 658 a0 = 0 from ((kp_c p16_0 (by decide)).trans ((kp_p eσ11).trans ((kp_p eσ8).trans (kp_s eσ1))))); have : (σ15.1 681 a0).toInt = (v10 : Int32).toInt := congrArg Int32.toInt (show σ15.1 681 a0 = v10 from ((kp_c p16_0 (by decide)).trans ((kp_p eσ11).trans e10.symm))); have : (0 : Int32).toInt = 0 := (by decide); have : (1 : Int32).toInt = 1 := (by decide); omega))⟩
  · --
    have i17 : Iv v3 0 0 := iv_eq1 c4 p3_1 (⟨by decide, by decide⟩ : Iv 0 0 0) (by decide)
    refine lv_iconst (v := 0) hx hb dX11_keep_14 (by decide) ?_
    rw [← hQ]
    exact o_rz cx rx hw (iv_nz01 (iv_w (⟨by decide, by decide⟩ : Iv 0 0 0) (by decide))) dX11_keep_15 ⟨fr, (iv_w (⟨by decide, by decide⟩ : Iv 0 0 0) (by decide)), (by exact (by have := (i17).1; have := (i17).2; have : (σ1.1 658 a0).toInt = (0 : Int32).toInt := congrArg Int32.toInt (show σ1.1 658 a0 = 0 from (kp_s eσ1)); have : (v3 : Int32).toInt = (0 : Int32).toInt := congrArg Int32.toInt c4; have : (0 : Int32).toInt = 0 := (by decide); have : (1 : Int32).toInt = 1 := (by decide); omega))⟩
abbrev fs_X11_again : List Nat := [658]
abbrev ts_X11_again : List Nat := []
set_option maxHeartbeats 4000000 in
set_option maxRecDepth 100000 in
theorem c_X11_again (a0 : Nat) (ha0 : oA L τ a0 10) (a1 : Int32) (hk0 : ∀ b, σ.2.2.2.2 683 a0 = some b → ∀ i, i < 2 → σ.2.2.1 b i = 0) : oMet l A L τ cy D K yX11_again cX11_again 3 (some .boolean) 1 22 [.ref a0, .int a1] σ (va_Qi (fun r σ1 => oFr τ fs_X11_again ts_X11_again σ σ1 ∧ Iv r 0 0) (oPo A L τ cy D) A) := by
  refine oMk (by decide) (Nat.le_of_ble_eq_true rfl) rfl ?_
  intro p e s m args below meth c ls cx rx hA hw hl
  generalize hQ : MQ below _ args s 0 0 A = Q
  have hx := cx.1.1
  have hb := cx.1.2.1
  have hml := cx.1.2.2.1
  have hown := cx.1.2.2.2.1
  have hts := cx.1.2.2.2.2
  have hl : lv_has ls 3 [(0, .ref a0), (1, .int a1)] := hl
  have fr : oFr τ fs_X11_again ts_X11_again σ σ := oFr_rf
  obtain ⟨b683, hF683, hb683⟩ := hw.2.2.2.2.2 683 a0 60 (by rw [ha0.2]; rfl) ha0.1
  refine lv_aload_n hx hb dX11_again_0 rfl (lv_at hl 0 rfl) ?_
  refine lv_iconst (v := 0) hx hb dX11_again_1 (by decide) ?_
  refine p_658 cx hw ha0 k_f_X11_89 dX11_again_2 (fun σ1 H locs eσ1 hw => ?_)
  have fr := oFr_i fr eσ1 (by decide)
  refine lv_iload_n hx hb dX11_again_5 rfl (lv_at hl 1 rfl) ?_
  refine lv_iconst (v := 0) hx hb dX11_again_6 (by decide) ?_
  refine lv_iconst (v := 1) hx hb dX11_again_7 (by decide) ?_
  refine o_ci hw (oRunS cx hA hw q_X11_in k_m_X11_95 (As := [.int a1, .int 0, .int 1]) (c_X11_in a1 0 1) (by decide) rfl hl.1 rfl (Nat.le_of_ble_eq_true rfl) dX11_again_8 (by decide)) (fun v3 σ2 H locs hp hw => ?_)
  obtain ⟨p3_0, p3_1, p3_2, p3_3, p3_4⟩ := hp
  rw [p3_0] at hw
  refine lv_if_eq (tgt := 36) hx hb dX11_again_11 (by decide) (fun c4 => ?_) (fun c4 => ?_)
  · --
    have i5 : Iv v3 0 0 := iv_eq1 c4 p3_1 (⟨by decide, by decide⟩ : Iv 0 0 0) (by decide)
    refine lv_iconst (v := 0) hx hb dX11_again_36 (by decide) ?_
    rw [← hQ]
    exact o_rz cx rx hw (iv_nz01 (iv_w (⟨by decide, by decide⟩ : Iv 0 0 0) (by decide))) dX11_again_37 ⟨fr, (iv_w (⟨by decide, by decide⟩ : Iv 0 0 0) (by decide))⟩
  · --
    have i6 : Iv v3 1 1 := iv_ne1 c4 p3_1 (⟨by decide, by decide⟩ : Iv 0 0 0) (by decide)
    have i7 : Iv a1 0 1 := (fun h => iv_rel (p3_2 h) (⟨by decide, by decide⟩ : Iv 0 0 0) (⟨by decide, by decide⟩ : Iv 1 1 1)) c4
    refine lv_aload_n hx hb dX11_again_14 rfl (lv_at hl 0 rfl) ?_
    refine g_683 cx hw ha0 k_f_X11_82 dX11_again_15 (fun v8 e8 h8 => ?_)
    rw [show v8 = b683 from Option.some.inj (e8.symm.trans (((kr_i eσ1).trans hF683)))]
    refine lv_iload_n hx hb dX11_again_18 rfl (lv_at hl 1 rfl) ?_
    refine o_zald cx hw hb683 (by decide) rfl (iv_in i7 (by decide)) dX11_again_19 (fun v9 e9 b9 => ?_)
    have i9 : Iv v9 0 0 := (by rw [show v9 = σ1.2.2.1 b683 a1.toNatClampNeg from e9, show σ1.2.2.1 b683 = σ.2.2.1 b683 from ((rw_i eσ1).trans rfl), hk0 b683 hF683 _ (vp_lt (n := 2) (iv_in i7 (by decide)))]; exact ⟨by decide, by decide⟩)
    refine lv_if_eq (tgt := 36) hx hb dX11_again_20 (by decide) (fun c10 => ?_) (fun c10 => ?_)
    · --
      refine lv_iconst (v := 0) hx hb dX11_again_36 (by decide) ?_
      rw [← hQ]
      exact o_rz cx rx hw (iv_nz01 (iv_w (⟨by decide, by decide⟩ : Iv 0 0 0) (by decide))) dX11_again_37 ⟨fr, (iv_w (⟨by decide, by decide⟩ : Iv 0 0 0) (by decide))⟩
    · --
      exact iv_no (iv_ne1 c10 i9 (⟨by decide, by decide⟩ : Iv 0 0 0) (by decide)) (by decide)
abbrev fs_X11_count : List Nat := [658]
abbrev ts_X11_count : List Nat := []
set_option maxHeartbeats 4000000 in
set_option maxRecDepth 100000 in
theorem c_X11_count (a0 : Nat) (ha0 : oA L τ a0 10) (a1 : Int32) (hn0 : ∀ b, σ.2.2.2.2 640 a0 = some b → ∀ i, i < 334 → σ.2.2.1 b i = 0) (hf650 : Iv (σ.1 650 a0) 12 12) (hf651 : Iv (σ.1 651 a0) 6 6) (hf672 : Iv (σ.1 672 a0) 0 0) (hf657 : Iv (σ.1 657 a0) 0 0) (hf655 : Iv (σ.1 655 a0) 0 0) : oMet l A L τ cy D K yX11_count cX11_count 4 (some .int) 0 0 [.ref a0, .int a1] σ (va_Qi (fun r σ1 => oFr τ fs_X11_count ts_X11_count σ σ1 ∧ Iv r (-1) 12 ∧ ((a1.toInt = 7 ∧ r.toInt = 12) ∨ (a1.toInt = 8 ∧ r.toInt = 6) ∨ ((0 ≤ a1.toInt ∧ a1.toInt ≤ 12 ∧ a1.toInt ≠ 7 ∧ a1.toInt ≠ 8) ∧ r.toInt = 0) ∨ ((a1.toInt < 0 ∨ 12 < a1.toInt) ∧ r.toInt = -1))) (oPo A L τ cy D) A) := by
  refine oMk (by decide) (Nat.le_of_ble_eq_true rfl) rfl ?_
  intro p e s m args below meth c ls cx rx hA hw hl
  generalize hQ : MQ below _ args s 0 0 A = Q
  have hx := cx.1.1
  have hb := cx.1.2.1
  have hml := cx.1.2.2.1
  have hown := cx.1.2.2.2.1
  have hts := cx.1.2.2.2.2
  have hl : lv_has ls 4 [(0, .ref a0), (1, .int a1)] := hl
  have fr : oFr τ fs_X11_count ts_X11_count σ σ := oFr_rf
  obtain ⟨b640, hF640, hb640⟩ := hw.2.2.2.2.2 640 a0 48 (by rw [ha0.2]; rfl) ha0.1
  refine lv_aload_n hx hb dX11_count_0 rfl (lv_at hl 0 rfl) ?_
  refine lv_iconst (v := 0) hx hb dX11_count_1 (by decide) ?_
  refine p_658 cx hw ha0 k_f_X11_89 dX11_count_2 (fun σ1 H locs eσ1 hw => ?_)
  have fr := oFr_i fr eσ1 (by decide)
  refine lv_iconst (v := 0) hx hb dX11_count_5 (by decide) ?_
  refine lv_istore_n (lv' := [(2, .int 0), (0, .ref a0), (1, .int a1)]) hx hb dX11_count_6 rfl hl (by decide) rfl (fun ls hl => ?_)
  refine lv_iload_n hx hb dX11_count_7 rfl (lv_at hl 2 rfl) ?_
  by_cases q2 : a1 = 0
  · --
    refine lv_tableIn (tgt := 76) hx hb dX11_count_8 (by rw [q2]; decide) (by rw [q2]; decide) (by rw [q2]; rfl) (by decide) ?_
    have i3 : Iv a1 0 0 := iv_eq1 q2 (iv_top a1) (⟨by decide, by decide⟩ : Iv 0 0 0) (by decide)
    refine lv_aload_n hx hb dX11_count_76 rfl (lv_at hl 1 rfl) ?_
    refine g_641 cx hw ha0 k_f_X11_99 dX11_count_77 (fun v4 e4 i4 => ?_)
    have z4 : v4.toInt = (σ1.1 641 a0).toInt := congrArg Int32.toInt e4
    rw [← hQ]
    exact o_ri cx rx hw dX11_count_80 ⟨fr, (iv_w i4 (by decide)), (by exact (by have := (i3).1; have := (i3).2; have := (i4).1; have := (i4).2; have := (hf650).1; have := (hf650).2; have := (hf651).1; have := (hf651).2; have := (hf672).1; have := (hf672).2; have := (hf657).1; have := (hf657).2; have := (hf655).1; have := (hf655).2; have : (σ1.1 650 a0).toInt = ((σ.1 650 a0) : Int32).toInt := congrArg Int32.toInt (show σ1.1 650 a0 = (σ.1 650 a0) from ((kp_i eσ1 (by decide)).trans rfl)); have : (σ1.1 651 a0).toInt = ((σ.1 651 a0) : Int32).toInt := congrArg Int32.toInt (show σ1.1 651 a0 = (σ.1 651 a0) from ((kp_i eσ1 (by decide)).trans rfl)); have : (σ1.1 672 a0).toInt = ((σ.1 672 a0) : Int32).toInt := congrArg Int32.toInt (show σ1.1 672 a0 = (σ.1 672 a0) from ((kp_i eσ1 (by decide)).trans rfl)); have : (σ1.1 657 a0).toInt = ((σ.1 657 a0) : Int32).toInt := congrArg Int32.toInt (show σ1.1 657 a0 = (σ.1 657 a0) from ((kp_i eσ1 (by decide)).trans rfl)); have : (σ1.1 655 a0).toInt = ((σ.1 655 a0) : Int32).toInt := congrArg Int32.toInt (show σ1.1 655 a0 = (σ.1 655 a0) from ((kp_i eσ1 (by decide)).trans rfl)); have : (σ1.1 658 a0).toInt = (0 : Int32).toInt := congrArg Int32.toInt (show σ1.1 658 a0 = 0 from (kp_s eσ1)); have : (σ1.1 641 a0).toInt = (v4 : Int32).toInt := congrArg Int32.toInt (show σ1.1 641 a0 = v4 from e4.symm); have : (0 : Int32).toInt = 0 := (by decide); omega))⟩
  by_cases q5 : a1 = 1
  · --
    refine lv_tableIn (tgt := 81) hx hb dX11_count_8 (by rw [q5]; decide) (by rw [q5]; decide) (by rw [q5]; rfl) (by decide) ?_
    have i6 : Iv a1 1 1 := iv_eq1 q5 (iv_top a1) (⟨by decide, by decide⟩ : Iv 1 1 1) (by decide)
    refine lv_aload_n hx hb dX11_count_81 rfl (lv_at hl 1 rfl) ?_
    refine g_642 cx hw ha0 k_f_X11_102 dX11_count_82 (fun v7 e7 i7 => ?_)
    have z7 : v7.toInt = (σ1.1 642 a0).toInt := congrArg Int32.toInt e7
    rw [← hQ]
    exact o_ri cx rx hw dX11_count_85 ⟨fr, (iv_w i7 (by decide)), (by exact (by have := (i6).1; have := (i6).2; have := (i7).1; have := (i7).2; have := (hf650).1; have := (hf650).2; have := (hf651).1; have := (hf651).2; have := (hf672).1; have := (hf672).2; have := (hf657).1; have := (hf657).2; have := (hf655).1; have := (hf655).2; have : (σ1.1 650 a0).toInt = ((σ.1 650 a0) : Int32).toInt := congrArg Int32.toInt (show σ1.1 650 a0 = (σ.1 650 a0) from ((kp_i eσ1 (by decide)).trans rfl)); have : (σ1.1 651 a0).toInt = ((σ.1 651 a0) : Int32).toInt := congrArg Int32.toInt (show σ1.1 651 a0 = (σ.1 651 a0) from ((kp_i eσ1 (by decide)).trans rfl)); have : (σ1.1 672 a0).toInt = ((σ.1 672 a0) : Int32).toInt := congrArg Int32.toInt (show σ1.1 672 a0 = (σ.1 672 a0) from ((kp_i eσ1 (by decide)).trans rfl)); have : (σ1.1 657 a0).toInt = ((σ.1 657 a0) : Int32).toInt := congrArg Int32.toInt (show σ1.1 657 a0 = (σ.1 657 a0) from ((kp_i eσ1 (by decide)).trans rfl)); have : (σ1.1 655 a0).toInt = ((σ.1 655 a0) : Int32).toInt := congrArg Int32.toInt (show σ1.1 655 a0 = (σ.1 655 a0) from ((kp_i eσ1 (by decide)).trans rfl)); have : (σ1.1 658 a0).toInt = (0 : Int32).toInt := congrArg Int32.toInt (show σ1.1 658 a0 = 0 from (kp_s eσ1)); have : (σ1.1 642 a0).toInt = (v7 : Int32).toInt := congrArg Int32.toInt (show σ1.1 642 a0 = v7 from e7.symm); have : (0 : Int32).toInt = 0 := (by decide); omega))⟩
  by_cases q8 : a1 = 2
  · --
    refine lv_tableIn (tgt := 86) hx hb dX11_count_8 (by rw [q8]; decide) (by rw [q8]; decide) (by rw [q8]; rfl) (by decide) ?_
    have i9 : Iv a1 2 2 := iv_eq1 q8 (iv_top a1) (⟨by decide, by decide⟩ : Iv 2 2 2) (by decide)
    refine lv_aload_n hx hb dX11_count_86 rfl (lv_at hl 1 rfl) ?_
    refine g_645 cx hw ha0 k_f_X11_154 dX11_count_87 (fun v10 e10 i10 => ?_)
    have z10 : v10.toInt = (σ1.1 645 a0).toInt := congrArg Int32.toInt e10
    rw [← hQ]
    exact o_ri cx rx hw dX11_count_90 ⟨fr, (iv_w i10 (by decide)), (by exact (by have := (i9).1; have := (i9).2; have := (i10).1; have := (i10).2; have := (hf650).1; have := (hf650).2; have := (hf651).1; have := (hf651).2; have := (hf672).1; have := (hf672).2; have := (hf657).1; have := (hf657).2; have := (hf655).1; have := (hf655).2; have : (σ1.1 650 a0).toInt = ((σ.1 650 a0) : Int32).toInt := congrArg Int32.toInt (show σ1.1 650 a0 = (σ.1 650 a0) from ((kp_i eσ1 (by decide)).trans rfl)); have : (σ1.1 651 a0).toInt = ((σ.1 651 a0) : Int32).toInt := congrArg Int32.toInt (show σ1.1 651 a0 = (σ.1 651 a0) from ((kp_i eσ1 (by decide)).trans rfl)); have : (σ1.1 672 a0).toInt = ((σ.1 672 a0) : Int32).toInt := congrArg Int32.toInt (show σ1.1 672 a0 = (σ.1 672 a0) from ((kp_i eσ1 (by decide)).trans rfl)); have : (σ1.1 657 a0).toInt = ((σ.1 657 a0) : Int32).toInt := congrArg Int32.toInt (show σ1.1 657 a0 = (σ.1 657 a0) from ((kp_i eσ1 (by decide)).trans rfl)); have : (σ1.1 655 a0).toInt = ((σ.1 655 a0) : Int32).toInt := congrArg Int32.toInt (show σ1.1 655 a0 = (σ.1 655 a0) from ((kp_i eσ1 (by decide)).trans rfl)); have : (σ1.1 658 a0).toInt = (0 : Int32).toInt := congrArg Int32.toInt (show σ1.1 658 a0 = 0 from (kp_s eσ1)); have : (σ1.1 645 a0).toInt = (v10 : Int32).toInt := congrArg Int32.toInt (show σ1.1 645 a0 = v10 from e10.symm); have : (0 : Int32).toInt = 0 := (by decide); omega))⟩
  by_cases q11 : a1 = 3
  · --
    refine lv_tableIn (tgt := 91) hx hb dX11_count_8 (by rw [q11]; decide) (by rw [q11]; decide) (by rw [q11]; rfl) (by decide) ?_
    have i12 : Iv a1 3 3 := iv_eq1 q11 (iv_top a1) (⟨by decide, by decide⟩ : Iv 3 3 3) (by decide)
    refine lv_aload_n hx hb dX11_count_91 rfl (lv_at hl 1 rfl) ?_
    refine g_640 cx hw ha0 k_f_X11_9 dX11_count_92 (fun v13 e13 h13 => ?_)
    rw [show v13 = b640 from Option.some.inj (e13.symm.trans (((kr_i eσ1).trans hF640)))]
    refine lv_sipush (v := 332) hx hb dX11_count_95 (by decide) ?_
    refine o_iald cx hw hb640 (by decide) rfl (iv_in (⟨by decide, by decide⟩ : Iv 332 332 332) (by decide)) dX11_count_98 (fun v14 e14 b14 => ?_)
    have i14 : Iv v14 0 0 := (by rw [show v14 = σ1.2.2.1 b640 (332 : Int32).toNatClampNeg from e14, show σ1.2.2.1 b640 = σ.2.2.1 b640 from ((rw_i eσ1).trans rfl), hn0 b640 hF640 _ (vp_lt (n := 334) (iv_in (⟨by decide, by decide⟩ : Iv 332 332 332) (by decide)))]; exact ⟨by decide, by decide⟩)
    rw [← hQ]
    exact o_ri cx rx hw dX11_count_99 ⟨fr, (iv_w i14 (by decide)), (by exact (by have := (i12).1; have := (i12).2; have := (i14).1; have := (i14).2; have := (hf650).1; have := (hf650).2; have := (hf651).1; have := (hf651).2; have := (hf672).1; have := (hf672).2; have := (hf657).1; have := (hf657).2; have := (hf655).1; have := (hf655).2; have : (σ1.1 650 a0).toInt = ((σ.1 650 a0) : Int32).toInt := congrArg Int32.toInt (show σ1.1 650 a0 = (σ.1 650 a0) from ((kp_i eσ1 (by decide)).trans rfl)); have : (σ1.1 651 a0).toInt = ((σ.1 651 a0) : Int32).toInt := congrArg Int32.toInt (show σ1.1 651 a0 = (σ.1 651 a0) from ((kp_i eσ1 (by decide)).trans rfl)); have : (σ1.1 672 a0).toInt = ((σ.1 672 a0) : Int32).toInt := congrArg Int32.toInt (show σ1.1 672 a0 = (σ.1 672 a0) from ((kp_i eσ1 (by decide)).trans rfl)); have : (σ1.1 657 a0).toInt = ((σ.1 657 a0) : Int32).toInt := congrArg Int32.toInt (show σ1.1 657 a0 = (σ.1 657 a0) from ((kp_i eσ1 (by decide)).trans rfl)); have : (σ1.1 655 a0).toInt = ((σ.1 655 a0) : Int32).toInt := congrArg Int32.toInt (show σ1.1 655 a0 = (σ.1 655 a0) from ((kp_i eσ1 (by decide)).trans rfl)); have : (σ1.1 658 a0).toInt = (0 : Int32).toInt := congrArg Int32.toInt (show σ1.1 658 a0 = 0 from (kp_s eσ1)); have : (0 : Int32).toInt = 0 := (by decide); omega))⟩
  by_cases q15 : a1 = 4
  · --
    refine lv_tableIn (tgt := 100) hx hb dX11_count_8 (by rw [q15]; decide) (by rw [q15]; decide) (by rw [q15]; rfl) (by decide) ?_
    have i16 : Iv a1 4 4 := iv_eq1 q15 (iv_top a1) (⟨by decide, by decide⟩ : Iv 4 4 4) (by decide)
    refine lv_aload_n hx hb dX11_count_100 rfl (lv_at hl 1 rfl) ?_
    refine g_647 cx hw ha0 k_f_X11_105 dX11_count_101 (fun v17 e17 i17 => ?_)
    have z17 : v17.toInt = (σ1.1 647 a0).toInt := congrArg Int32.toInt e17
    rw [← hQ]
    exact o_ri cx rx hw dX11_count_104 ⟨fr, (iv_w i17 (by decide)), (by exact (by have := (i16).1; have := (i16).2; have := (i17).1; have := (i17).2; have := (hf650).1; have := (hf650).2; have := (hf651).1; have := (hf651).2; have := (hf672).1; have := (hf672).2; have := (hf657).1; have := (hf657).2; have := (hf655).1; have := (hf655).2; have : (σ1.1 650 a0).toInt = ((σ.1 650 a0) : Int32).toInt := congrArg Int32.toInt (show σ1.1 650 a0 = (σ.1 650 a0) from ((kp_i eσ1 (by decide)).trans rfl)); have : (σ1.1 651 a0).toInt = ((σ.1 651 a0) : Int32).toInt := congrArg Int32.toInt (show σ1.1 651 a0 = (σ.1 651 a0) from ((kp_i eσ1 (by decide)).trans rfl)); have : (σ1.1 672 a0).toInt = ((σ.1 672 a0) : Int32).toInt := congrArg Int32.toInt (show σ1.1 672 a0 = (σ.1 672 a0) from ((kp_i eσ1 (by decide)).trans rfl)); have : (σ1.1 657 a0).toInt = ((σ.1 657 a0) : Int32).toInt := congrArg Int32.toInt (show σ1.1 657 a0 = (σ.1 657 a0) from ((kp_i eσ1 (by decide)).trans rfl)); have : (σ1.1 655 a0).toInt = ((σ.1 655 a0) : Int32).toInt := congrArg Int32.toInt (show σ1.1 655 a0 = (σ.1 655 a0) from ((kp_i eσ1 (by decide)).trans rfl)); have : (σ1.1 658 a0).toInt = (0 : Int32).toInt := congrArg Int32.toInt (show σ1.1 658 a0 = 0 from (kp_s eσ1)); have : (σ1.1 647 a0).toInt = (v17 : Int32).toInt := congrArg Int32.toInt (show σ1.1 647 a0 = v17 from e17.symm); have : (0 : Int32).toInt = 0 := (by decide); omega))⟩
  by_cases q18 : a1 = 5
  · --
    refine lv_tableIn (tgt := 105) hx hb dX11_count_8 (by rw [q18]; decide) (by rw [q18]; decide) (by rw [q18]; rfl) (by decide) ?_
    have i19 : Iv a1 5 5 := iv_eq1 q18 (iv_top a1) (⟨by decide, by decide⟩ : Iv 5 5 5) (by decide)
    refine lv_iconst (v := 0) hx hb dX11_count_105 (by decide) ?_
    refine lv_istore_n (lv' := [(3, .int 0), (2, .int 0), (0, .ref a0), (1, .int a1)]) hx hb dX11_count_106 rfl hl (by decide) rfl (fun ls hl => ?_)
    have J_107 : ∀ n107 : Nat, ∀ (H : Heap) (locs : List Loc), oI A L τ cy D s.heap σ1 H locs → 0 < n107 → ∀ (ls : Array Slot), lv_has ls 4 [(0, .ref a0), (1, .int a1), (2, .int 0), (3, .int 0)] → W p l e ({ frames := 0, cells := 0, slots := 0, locals := 0 } : Room) s m args below meth c H locs 0 0 Q (F0 m 107 ls []) := by
      intro n107
      induction n107 with
      | zero => intro  H locs hw  hn_107   ls hl; exact absurd hn_107 (Nat.not_lt_zero _)
      | succ n107 ih_107 =>
        intro  H locs hw  hn_107   ls hl
        refine lv_iload_n hx hb dX11_count_107 rfl (lv_at hl 3 rfl) ?_
        refine lv_aload_n hx hb dX11_count_108 rfl (lv_at hl 0 rfl) ?_
        refine g_647 cx hw ha0 k_f_X11_105 dX11_count_109 (fun v20 e20 i20 => ?_)
        have z20 : v20.toInt = (σ1.1 647 a0).toInt := congrArg Int32.toInt e20
        refine lv_icmp_ge (tgt := 136) hx hb dX11_count_112 (by decide) (fun c21 => ?_) (fun c21 => ?_)
        · --
          refine lv_iload_n hx hb dX11_count_136 rfl (lv_at hl 2 rfl) ?_
          rw [← hQ]
          exact o_ri cx rx hw dX11_count_137 ⟨fr, (iv_w (⟨by decide, by decide⟩ : Iv 0 0 0) (by decide)), (by exact (by have := (i19).1; have := (i19).2; have := (hf650).1; have := (hf650).2; have := (hf651).1; have := (hf651).2; have := (hf672).1; have := (hf672).2; have := (hf657).1; have := (hf657).2; have := (hf655).1; have := (hf655).2; have := (i20).1; have := (i20).2; have : (σ1.1 650 a0).toInt = ((σ.1 650 a0) : Int32).toInt := congrArg Int32.toInt (show σ1.1 650 a0 = (σ.1 650 a0) from ((kp_i eσ1 (by decide)).trans rfl)); have : (σ1.1 651 a0).toInt = ((σ.1 651 a0) : Int32).toInt := congrArg Int32.toInt (show σ1.1 651 a0 = (σ.1 651 a0) from ((kp_i eσ1 (by decide)).trans rfl)); have : (σ1.1 672 a0).toInt = ((σ.1 672 a0) : Int32).toInt := congrArg Int32.toInt (show σ1.1 672 a0 = (σ.1 672 a0) from ((kp_i eσ1 (by decide)).trans rfl)); have : (σ1.1 657 a0).toInt = ((σ.1 657 a0) : Int32).toInt := congrArg Int32.toInt (show σ1.1 657 a0 = (σ.1 657 a0) from ((kp_i eσ1 (by decide)).trans rfl)); have : (σ1.1 655 a0).toInt = ((σ.1 655 a0) : Int32).toInt := congrArg Int32.toInt (show σ1.1 655 a0 = (σ.1 655 a0) from ((kp_i eσ1 (by decide)).trans rfl)); have : (σ1.1 658 a0).toInt = (0 : Int32).toInt := congrArg Int32.toInt (show σ1.1 658 a0 = 0 from (kp_s eσ1)); have : (σ1.1 647 a0).toInt = (v20 : Int32).toInt := congrArg Int32.toInt (show σ1.1 647 a0 = v20 from e20.symm); have : (v20 : Int32).toInt ≤ (0 : Int32).toInt := iv_le.mp c21; have : (0 : Int32).toInt = 0 := (by decide); omega))⟩
        · --
          exact iv_no (iv_lt1 (b' := (-1)) (iv_nle c21) (⟨by decide, by decide⟩ : Iv 0 0 0) i20 (by decide)) (by decide)
    exact J_107 _ _ _ hw (Nat.lt_succ_self _) _ (lv_sub hl [2, 3, 1, 0] rfl)
  by_cases q22 : a1 = 6
  · --
    refine lv_tableIn (tgt := 138) hx hb dX11_count_8 (by rw [q22]; decide) (by rw [q22]; decide) (by rw [q22]; rfl) (by decide) ?_
    have i23 : Iv a1 6 6 := iv_eq1 q22 (iv_top a1) (⟨by decide, by decide⟩ : Iv 6 6 6) (by decide)
    refine lv_aload_n hx hb dX11_count_138 rfl (lv_at hl 1 rfl) ?_
    refine g_640 cx hw ha0 k_f_X11_9 dX11_count_139 (fun v24 e24 h24 => ?_)
    rw [show v24 = b640 from Option.some.inj (e24.symm.trans (((kr_i eσ1).trans hF640)))]
    refine lv_sipush (v := 333) hx hb dX11_count_142 (by decide) ?_
    refine o_iald cx hw hb640 (by decide) rfl (iv_in (⟨by decide, by decide⟩ : Iv 333 333 333) (by decide)) dX11_count_145 (fun v25 e25 b25 => ?_)
    have i25 : Iv v25 0 0 := (by rw [show v25 = σ1.2.2.1 b640 (333 : Int32).toNatClampNeg from e25, show σ1.2.2.1 b640 = σ.2.2.1 b640 from ((rw_i eσ1).trans rfl), hn0 b640 hF640 _ (vp_lt (n := 334) (iv_in (⟨by decide, by decide⟩ : Iv 333 333 333) (by decide)))]; exact ⟨by decide, by decide⟩)
    rw [← hQ]
    exact o_ri cx rx hw dX11_count_146 ⟨fr, (iv_w i25 (by decide)), (by exact (by have := (i23).1; have := (i23).2; have := (i25).1; have := (i25).2; have := (hf650).1; have := (hf650).2; have := (hf651).1; have := (hf651).2; have := (hf672).1; have := (hf672).2; have := (hf657).1; have := (hf657).2; have := (hf655).1; have := (hf655).2; have : (σ1.1 650 a0).toInt = ((σ.1 650 a0) : Int32).toInt := congrArg Int32.toInt (show σ1.1 650 a0 = (σ.1 650 a0) from ((kp_i eσ1 (by decide)).trans rfl)); have : (σ1.1 651 a0).toInt = ((σ.1 651 a0) : Int32).toInt := congrArg Int32.toInt (show σ1.1 651 a0 = (σ.1 651 a0) from ((kp_i eσ1 (by decide)).trans rfl)); have : (σ1.1 672 a0).toInt = ((σ.1 672 a0) : Int32).toInt := congrArg Int32.toInt (show σ1.1 672 a0 = (σ.1 672 a0) from ((kp_i eσ1 (by decide)).trans rfl)); have : (σ1.1 657 a0).toInt = ((σ.1 657 a0) : Int32).toInt := congrArg Int32.toInt (show σ1.1 657 a0 = (σ.1 657 a0) from ((kp_i eσ1 (by decide)).trans rfl)); have : (σ1.1 655 a0).toInt = ((σ.1 655 a0) : Int32).toInt := congrArg Int32.toInt (show σ1.1 655 a0 = (σ.1 655 a0) from ((kp_i eσ1 (by decide)).trans rfl)); have : (σ1.1 658 a0).toInt = (0 : Int32).toInt := congrArg Int32.toInt (show σ1.1 658 a0 = 0 from (kp_s eσ1)); have : (0 : Int32).toInt = 0 := (by decide); omega))⟩
  by_cases q26 : a1 = 7
  · --
    refine lv_tableIn (tgt := 147) hx hb dX11_count_8 (by rw [q26]; decide) (by rw [q26]; decide) (by rw [q26]; rfl) (by decide) ?_
    have i27 : Iv a1 7 7 := iv_eq1 q26 (iv_top a1) (⟨by decide, by decide⟩ : Iv 7 7 7) (by decide)
    refine lv_aload_n hx hb dX11_count_147 rfl (lv_at hl 1 rfl) ?_
    refine g_650 cx hw ha0 k_f_X11_25 dX11_count_148 (fun v28 e28 => ?_)
    rw [show v28 = (σ.1 650 a0) from e28.trans ((kp_i eσ1 (by decide)).trans rfl)]
    rw [← hQ]
    exact o_ri cx rx hw dX11_count_151 ⟨fr, (iv_w hf650 (by decide)), (by exact (by have := (i27).1; have := (i27).2; have := (hf650).1; have := (hf650).2; have := (hf651).1; have := (hf651).2; have := (hf672).1; have := (hf672).2; have := (hf657).1; have := (hf657).2; have := (hf655).1; have := (hf655).2; have : (σ1.1 650 a0).toInt = ((σ.1 650 a0) : Int32).toInt := congrArg Int32.toInt (show σ1.1 650 a0 = (σ.1 650 a0) from ((kp_i eσ1 (by decide)).trans rfl)); have : (σ1.1 651 a0).toInt = ((σ.1 651 a0) : Int32).toInt := congrArg Int32.toInt (show σ1.1 651 a0 = (σ.1 651 a0) from ((kp_i eσ1 (by decide)).trans rfl)); have : (σ1.1 672 a0).toInt = ((σ.1 672 a0) : Int32).toInt := congrArg Int32.toInt (show σ1.1 672 a0 = (σ.1 672 a0) from ((kp_i eσ1 (by decide)).trans rfl)); have : (σ1.1 657 a0).toInt = ((σ.1 657 a0) : Int32).toInt := congrArg Int32.toInt (show σ1.1 657 a0 = (σ.1 657 a0) from ((kp_i eσ1 (by decide)).trans rfl)); have : (σ1.1 655 a0).toInt = ((σ.1 655 a0) : Int32).toInt := congrArg Int32.toInt (show σ1.1 655 a0 = (σ.1 655 a0) from ((kp_i eσ1 (by decide)).trans rfl)); have : (σ1.1 658 a0).toInt = (0 : Int32).toInt := congrArg Int32.toInt (show σ1.1 658 a0 = 0 from (kp_s eσ1)); have : (0 : Int32).toInt = 0 := (by decide); omega))⟩
  by_cases q29 : a1 = 8
  · --
    refine lv_tableIn (tgt := 152) hx hb dX11_count_8 (by rw [q29]; decide) (by rw [q29]; decide) (by rw [q29]; rfl) (by decide) ?_
    have i30 : Iv a1 8 8 := iv_eq1 q29 (iv_top a1) (⟨by decide, by decide⟩ : Iv 8 8 8) (by decide)
    refine lv_aload_n hx hb dX11_count_152 rfl (lv_at hl 1 rfl) ?_
    refine g_651 cx hw ha0 k_f_X11_29 dX11_count_153 (fun v31 e31 i31 => ?_)
    rw [show v31 = (σ.1 651 a0) from e31.trans ((kp_i eσ1 (by decide)).trans rfl)]
    rw [← hQ]
    exact o_ri cx rx hw dX11_count_156 ⟨fr, (iv_w hf651 (by decide)), (by exact (by have := (i30).1; have := (i30).2; have := (hf651).1; have := (hf651).2; have := (hf650).1; have := (hf650).2; have := (hf672).1; have := (hf672).2; have := (hf657).1; have := (hf657).2; have := (hf655).1; have := (hf655).2; have : (σ1.1 650 a0).toInt = ((σ.1 650 a0) : Int32).toInt := congrArg Int32.toInt (show σ1.1 650 a0 = (σ.1 650 a0) from ((kp_i eσ1 (by decide)).trans rfl)); have : (σ1.1 651 a0).toInt = ((σ.1 651 a0) : Int32).toInt := congrArg Int32.toInt (show σ1.1 651 a0 = (σ.1 651 a0) from ((kp_i eσ1 (by decide)).trans rfl)); have : (σ1.1 672 a0).toInt = ((σ.1 672 a0) : Int32).toInt := congrArg Int32.toInt (show σ1.1 672 a0 = (σ.1 672 a0) from ((kp_i eσ1 (by decide)).trans rfl)); have : (σ1.1 657 a0).toInt = ((σ.1 657 a0) : Int32).toInt := congrArg Int32.toInt (show σ1.1 657 a0 = (σ.1 657 a0) from ((kp_i eσ1 (by decide)).trans rfl)); have : (σ1.1 655 a0).toInt = ((σ.1 655 a0) : Int32).toInt := congrArg Int32.toInt (show σ1.1 655 a0 = (σ.1 655 a0) from ((kp_i eσ1 (by decide)).trans rfl)); have : (σ1.1 658 a0).toInt = (0 : Int32).toInt := congrArg Int32.toInt (show σ1.1 658 a0 = 0 from (kp_s eσ1)); have : (0 : Int32).toInt = 0 := (by decide); omega))⟩
  by_cases q32 : a1 = 9
  · --
    refine lv_tableIn (tgt := 157) hx hb dX11_count_8 (by rw [q32]; decide) (by rw [q32]; decide) (by rw [q32]; rfl) (by decide) ?_
    have i33 : Iv a1 9 9 := iv_eq1 q32 (iv_top a1) (⟨by decide, by decide⟩ : Iv 9 9 9) (by decide)
    refine lv_iconst (v := 0) hx hb dX11_count_157 (by decide) ?_
    refine lv_istore_n (lv' := [(3, .int 0), (2, .int 0), (0, .ref a0), (1, .int a1)]) hx hb dX11_count_158 rfl hl (by decide) rfl (fun ls hl => ?_)
    have J_159 : ∀ n159 : Nat, ∀ (j159_2 : Int32) (ij159_2 : Iv j159_2 0 0) (j159_3 : Int32) (ij159_3 : Iv j159_3 0 64), ∀ (H : Heap) (locs : List Loc), oI A L τ cy D s.heap σ1 H locs → (64 - j159_3.toInt).toNat < n159 → ∀ (ls : Array Slot), lv_has ls 4 [(0, .ref a0), (1, .int a1), (2, .int j159_2), (3, .int j159_3)] → W p l e ({ frames := 0, cells := 0, slots := 0, locals := 0 } : Room) s m args below meth c H locs 0 0 Q (F0 m 159 ls []) := by
      intro n159
      induction n159 with
      | zero => intro j159_2 ij159_2 j159_3 ij159_3 H locs hw  hn_159   ls hl; exact absurd hn_159 (Nat.not_lt_zero _)
      | succ n159 ih_159 =>
        intro j159_2 ij159_2 j159_3 ij159_3 H locs hw  hn_159   ls hl
        refine lv_iload_n hx hb dX11_count_159 rfl (lv_at hl 3 rfl) ?_
        refine lv_bipush (v := 64) hx hb dX11_count_160 (by decide) ?_
        refine lv_icmp_ge (tgt := 182) hx hb dX11_count_162 (by decide) (fun c34 => ?_) (fun c34 => ?_)
        · --
          have i35 : Iv j159_3 64 64 := iv_le2 c34 (⟨by decide, by decide⟩ : Iv 64 64 64) ij159_3 (by decide)
          refine lv_iload_n hx hb dX11_count_182 rfl (lv_at hl 2 rfl) ?_
          rw [← hQ]
          exact o_ri cx rx hw dX11_count_183 ⟨fr, (iv_w ij159_2 (by decide)), (by exact (by have := (i33).1; have := (i33).2; have := (ij159_2).1; have := (ij159_2).2; have := (i35).1; have := (i35).2; have := (hf650).1; have := (hf650).2; have := (hf651).1; have := (hf651).2; have := (hf672).1; have := (hf672).2; have := (hf657).1; have := (hf657).2; have := (hf655).1; have := (hf655).2; have : (σ1.1 650 a0).toInt = ((σ.1 650 a0) : Int32).toInt := congrArg Int32.toInt (show σ1.1 650 a0 = (σ.1 650 a0) from ((kp_i eσ1 (by decide)).trans rfl)); have : (σ1.1 651 a0).toInt = ((σ.1 651 a0) : Int32).toInt := congrArg Int32.toInt (show σ1.1 651 a0 = (σ.1 651 a0) from ((kp_i eσ1 (by decide)).trans rfl)); have : (σ1.1 672 a0).toInt = ((σ.1 672 a0) : Int32).toInt := congrArg Int32.toInt (show σ1.1 672 a0 = (σ.1 672 a0) from ((kp_i eσ1 (by decide)).trans rfl)); have : (σ1.1 657 a0).toInt = ((σ.1 657 a0) : Int32).toInt := congrArg Int32.toInt (show σ1.1 657 a0 = (σ.1 657 a0) from ((kp_i eσ1 (by decide)).trans rfl)); have : (σ1.1 655 a0).toInt = ((σ.1 655 a0) : Int32).toInt := congrArg Int32.toInt (show σ1.1 655 a0 = (σ.1 655 a0) from ((kp_i eσ1 (by decide)).trans rfl)); have : (σ1.1 658 a0).toInt = (0 : Int32).toInt := congrArg Int32.toInt (show σ1.1 658 a0 = 0 from (kp_s eσ1)); have : (64 : Int32).toInt ≤ (j159_3 : Int32).toInt := iv_le.mp c34; have : (0 : Int32).toInt = 0 := (by decide); have : (64 : Int32).toInt = 64 := (by decide); omega))⟩
        · --
          have i36 : Iv j159_3 0 63 := iv_lt1 (iv_nle c34) ij159_3 (⟨by decide, by decide⟩ : Iv 64 64 64) (by decide)
          refine lv_iload_n hx hb dX11_count_165 rfl (lv_at hl 2 rfl) ?_
          refine lv_aload_n hx hb dX11_count_166 rfl (lv_at hl 0 rfl) ?_
          refine g_640 cx hw ha0 k_f_X11_9 dX11_count_167 (fun v37 e37 h37 => ?_)
          rw [show v37 = b640 from Option.some.inj (e37.symm.trans (((kr_i eσ1).trans hF640)))]
          refine lv_iconst (v := 0) hx hb dX11_count_170 (by decide) ?_
          refine lv_iload_n hx hb dX11_count_171 rfl (lv_at hl 3 rfl) ?_
          refine lv_iadd hx hb dX11_count_172 ?_
          refine lv_topi (fun v38 e38 => ?_)
          have i38 : Iv v38 0 63 := iv_add e38 (⟨by decide, by decide⟩ : Iv 0 0 0) i36 (by decide)
          have x38 : v38.toInt = j159_3.toInt + 0 := (ex_add e38 (⟨by decide, by decide⟩ : Iv 0 0 0) i36 (by decide)).trans (Int.add_comm _ _)
          refine o_iald cx hw hb640 (by decide) rfl (iv_in i38 (by decide)) dX11_count_173 (fun v39 e39 b39 => ?_)
          have i39 : Iv v39 0 0 := (by rw [show v39 = σ1.2.2.1 b640 v38.toNatClampNeg from e39, show σ1.2.2.1 b640 = σ.2.2.1 b640 from ((rw_i eσ1).trans rfl), hn0 b640 hF640 _ (vp_lt (n := 334) (iv_in i38 (by decide)))]; exact ⟨by decide, by decide⟩)
          refine lv_iadd hx hb dX11_count_174 ?_
          refine lv_topi (fun v40 e40 => ?_)
          have i40 : Iv v40 0 0 := iv_add e40 ij159_2 i39 (by decide)
          have x40 : v40.toInt = j159_2.toInt + v39.toInt := ex_add e40 ij159_2 i39 (by decide)
          refine lv_istore_n (lv' := [(2, .int v40), (0, .ref a0), (1, .int a1), (3, .int j159_3)]) hx hb dX11_count_175 rfl hl (by decide) rfl (fun ls hl => ?_)
          obtain ⟨v41, e41⟩ : ∃ y : Int32, y = j159_3 + 1 := ⟨_, rfl⟩
          have i41 : Iv v41 1 64 := iv_add e41 i36 (⟨by decide, by decide⟩ : Iv 1 1 1) (by decide)
          have x41 : v41.toInt = j159_3.toInt + 1 := ex_add e41 i36 (⟨by decide, by decide⟩ : Iv 1 1 1) (by decide)
          refine lv_iinc (v := v41) (lv' := [(3, .int v41), (2, .int v40), (0, .ref a0), (1, .int a1)]) hx hb dX11_count_176 hl (k := 3) rfl (by rw [e41]; rfl) (by decide) rfl (fun ls hl => ?_)
          refine lv_goto (tgt := 159) hx hb dX11_count_179 (by decide) ?_
          exact ih_159 v40 i40 v41 (iv_w i41 (by decide)) _ _ hw (ms_up x41 (by decide) (iv_w (a' := 0) (b' := 64) i41 (by decide)).2 hn_159) _ (lv_sub hl [2, 3, 1, 0] rfl)
    exact J_159 _ 0 (⟨by decide, by decide⟩ : Iv 0 0 0) 0 (iv_w (⟨by decide, by decide⟩ : Iv 0 0 0) (by decide)) _ _ hw (Nat.lt_succ_self _) _ (lv_sub hl [2, 3, 1, 0] rfl)
  by_cases q42 : a1 = 10
  · --
    refine lv_tableIn (tgt := 184) hx hb dX11_count_8 (by rw [q42]; decide) (by rw [q42]; decide) (by rw [q42]; rfl) (by decide) ?_
    have i43 : Iv a1 10 10 := iv_eq1 q42 (iv_top a1) (⟨by decide, by decide⟩ : Iv 10 10 10) (by decide)
    refine lv_aload_n hx hb dX11_count_184 rfl (lv_at hl 1 rfl) ?_
    refine g_672 cx hw ha0 k_f_X11_168 dX11_count_185 (fun v44 e44 i44 => ?_)
    rw [show v44 = (σ.1 672 a0) from e44.trans ((kp_i eσ1 (by decide)).trans rfl)]
    rw [← hQ]
    exact o_ri cx rx hw dX11_count_188 ⟨fr, (iv_w hf672 (by decide)), (by exact (by have := (i43).1; have := (i43).2; have := (hf672).1; have := (hf672).2; have := (hf650).1; have := (hf650).2; have := (hf651).1; have := (hf651).2; have := (hf657).1; have := (hf657).2; have := (hf655).1; have := (hf655).2; have : (σ1.1 650 a0).toInt = ((σ.1 650 a0) : Int32).toInt := congrArg Int32.toInt (show σ1.1 650 a0 = (σ.1 650 a0) from ((kp_i eσ1 (by decide)).trans rfl)); have : (σ1.1 651 a0).toInt = ((σ.1 651 a0) : Int32).toInt := congrArg Int32.toInt (show σ1.1 651 a0 = (σ.1 651 a0) from ((kp_i eσ1 (by decide)).trans rfl)); have : (σ1.1 672 a0).toInt = ((σ.1 672 a0) : Int32).toInt := congrArg Int32.toInt (show σ1.1 672 a0 = (σ.1 672 a0) from ((kp_i eσ1 (by decide)).trans rfl)); have : (σ1.1 657 a0).toInt = ((σ.1 657 a0) : Int32).toInt := congrArg Int32.toInt (show σ1.1 657 a0 = (σ.1 657 a0) from ((kp_i eσ1 (by decide)).trans rfl)); have : (σ1.1 655 a0).toInt = ((σ.1 655 a0) : Int32).toInt := congrArg Int32.toInt (show σ1.1 655 a0 = (σ.1 655 a0) from ((kp_i eσ1 (by decide)).trans rfl)); have : (σ1.1 658 a0).toInt = (0 : Int32).toInt := congrArg Int32.toInt (show σ1.1 658 a0 = 0 from (kp_s eσ1)); have : (0 : Int32).toInt = 0 := (by decide); omega))⟩
  by_cases q45 : a1 = 11
  · --
    refine lv_tableIn (tgt := 189) hx hb dX11_count_8 (by rw [q45]; decide) (by rw [q45]; decide) (by rw [q45]; rfl) (by decide) ?_
    have i46 : Iv a1 11 11 := iv_eq1 q45 (iv_top a1) (⟨by decide, by decide⟩ : Iv 11 11 11) (by decide)
    refine lv_aload_n hx hb dX11_count_189 rfl (lv_at hl 1 rfl) ?_
    refine g_657 cx hw ha0 k_f_X11_92 dX11_count_190 (fun v47 e47 i47 => ?_)
    rw [show v47 = (σ.1 657 a0) from e47.trans ((kp_i eσ1 (by decide)).trans rfl)]
    rw [← hQ]
    exact o_ri cx rx hw dX11_count_193 ⟨fr, (iv_w hf657 (by decide)), (by exact (by have := (i46).1; have := (i46).2; have := (hf657).1; have := (hf657).2; have := (hf650).1; have := (hf650).2; have := (hf651).1; have := (hf651).2; have := (hf672).1; have := (hf672).2; have := (hf655).1; have := (hf655).2; have : (σ1.1 650 a0).toInt = ((σ.1 650 a0) : Int32).toInt := congrArg Int32.toInt (show σ1.1 650 a0 = (σ.1 650 a0) from ((kp_i eσ1 (by decide)).trans rfl)); have : (σ1.1 651 a0).toInt = ((σ.1 651 a0) : Int32).toInt := congrArg Int32.toInt (show σ1.1 651 a0 = (σ.1 651 a0) from ((kp_i eσ1 (by decide)).trans rfl)); have : (σ1.1 672 a0).toInt = ((σ.1 672 a0) : Int32).toInt := congrArg Int32.toInt (show σ1.1 672 a0 = (σ.1 672 a0) from ((kp_i eσ1 (by decide)).trans rfl)); have : (σ1.1 657 a0).toInt = ((σ.1 657 a0) : Int32).toInt := congrArg Int32.toInt (show σ1.1 657 a0 = (σ.1 657 a0) from ((kp_i eσ1 (by decide)).trans rfl)); have : (σ1.1 655 a0).toInt = ((σ.1 655 a0) : Int32).toInt := congrArg Int32.toInt (show σ1.1 655 a0 = (σ.1 655 a0) from ((kp_i eσ1 (by decide)).trans rfl)); have : (σ1.1 658 a0).toInt = (0 : Int32).toInt := congrArg Int32.toInt (show σ1.1 658 a0 = 0 from (kp_s eσ1)); have : (0 : Int32).toInt = 0 := (by decide); omega))⟩
  by_cases q48 : a1 = 12
  · --
    refine lv_tableIn (tgt := 194) hx hb dX11_count_8 (by rw [q48]; decide) (by rw [q48]; decide) (by rw [q48]; rfl) (by decide) ?_
    have i49 : Iv a1 12 12 := iv_eq1 q48 (iv_top a1) (⟨by decide, by decide⟩ : Iv 12 12 12) (by decide)
    refine lv_aload_n hx hb dX11_count_194 rfl (lv_at hl 1 rfl) ?_
    refine g_655 cx hw ha0 k_f_X11_108 dX11_count_195 (fun v50 e50 i50 => ?_)
    rw [show v50 = (σ.1 655 a0) from e50.trans ((kp_i eσ1 (by decide)).trans rfl)]
    rw [← hQ]
    exact o_ri cx rx hw dX11_count_198 ⟨fr, (iv_w hf655 (by decide)), (by exact (by have := (i49).1; have := (i49).2; have := (hf655).1; have := (hf655).2; have := (hf650).1; have := (hf650).2; have := (hf651).1; have := (hf651).2; have := (hf672).1; have := (hf672).2; have := (hf657).1; have := (hf657).2; have : (σ1.1 650 a0).toInt = ((σ.1 650 a0) : Int32).toInt := congrArg Int32.toInt (show σ1.1 650 a0 = (σ.1 650 a0) from ((kp_i eσ1 (by decide)).trans rfl)); have : (σ1.1 651 a0).toInt = ((σ.1 651 a0) : Int32).toInt := congrArg Int32.toInt (show σ1.1 651 a0 = (σ.1 651 a0) from ((kp_i eσ1 (by decide)).trans rfl)); have : (σ1.1 672 a0).toInt = ((σ.1 672 a0) : Int32).toInt := congrArg Int32.toInt (show σ1.1 672 a0 = (σ.1 672 a0) from ((kp_i eσ1 (by decide)).trans rfl)); have : (σ1.1 657 a0).toInt = ((σ.1 657 a0) : Int32).toInt := congrArg Int32.toInt (show σ1.1 657 a0 = (σ.1 657 a0) from ((kp_i eσ1 (by decide)).trans rfl)); have : (σ1.1 655 a0).toInt = ((σ.1 655 a0) : Int32).toInt := congrArg Int32.toInt (show σ1.1 655 a0 = (σ.1 655 a0) from ((kp_i eσ1 (by decide)).trans rfl)); have : (σ1.1 658 a0).toInt = (0 : Int32).toInt := congrArg Int32.toInt (show σ1.1 658 a0 = 0 from (kp_s eσ1)); have : (0 : Int32).toInt = 0 := (by decide); omega))⟩
  have q2 := iv_nt q2 (k := 0) (by decide)
  have q5 := iv_nt q5 (k := 1) (by decide)
  have q8 := iv_nt q8 (k := 2) (by decide)
  have q11 := iv_nt q11 (k := 3) (by decide)
  have q15 := iv_nt q15 (k := 4) (by decide)
  have q18 := iv_nt q18 (k := 5) (by decide)
  have q22 := iv_nt q22 (k := 6) (by decide)
  have q26 := iv_nt q26 (k := 7) (by decide)
  have q29 := iv_nt q29 (k := 8) (by decide)
  have q32 := iv_nt q32 (k := 9) (by decide)
  have q42 := iv_nt q42 (k := 10) (by decide)
  have q45 := iv_nt q45 (k := 11) (by decide)
  have q48 := iv_nt q48 (k := 12) (by decide)
  refine lv_tableOut (tgt := 199) hx hb dX11_count_8 (by omega) (by decide) ?_
  refine lv_iconst (v := (-1)) hx hb dX11_count_199 (by decide) ?_
  rw [← hQ]
  exact o_ri cx rx hw dX11_count_200 ⟨fr, (iv_w (⟨by decide, by decide⟩ : Iv (-1) (-1) (-1)) (by decide)), (by exact (by have := (hf650).1; have := (hf650).2; have := (hf651).1; have := (hf651).2; have := (hf672).1; have := (hf672).2; have := (hf657).1; have := (hf657).2; have := (hf655).1; have := (hf655).2; have : (σ1.1 650 a0).toInt = ((σ.1 650 a0) : Int32).toInt := congrArg Int32.toInt (show σ1.1 650 a0 = (σ.1 650 a0) from ((kp_i eσ1 (by decide)).trans rfl)); have : (σ1.1 651 a0).toInt = ((σ.1 651 a0) : Int32).toInt := congrArg Int32.toInt (show σ1.1 651 a0 = (σ.1 651 a0) from ((kp_i eσ1 (by decide)).trans rfl)); have : (σ1.1 672 a0).toInt = ((σ.1 672 a0) : Int32).toInt := congrArg Int32.toInt (show σ1.1 672 a0 = (σ.1 672 a0) from ((kp_i eσ1 (by decide)).trans rfl)); have : (σ1.1 657 a0).toInt = ((σ.1 657 a0) : Int32).toInt := congrArg Int32.toInt (show σ1.1 657 a0 = (σ.1 657 a0) from ((kp_i eσ1 (by decide)).trans rfl)); have : (σ1.1 655 a0).toInt = ((σ.1 655 a0) : Int32).toInt := congrArg Int32.toInt (show σ1.1 655 a0 = (σ.1 655 a0) from ((kp_i eσ1 (by decide)).trans rfl)); have : (σ1.1 658 a0).toInt = (0 : Int32).toInt := congrArg Int32.toInt (show σ1.1 658 a0 = 0 from (kp_s eσ1)); have : ((-1) : Int32).toInt = (-1) := (by decide); have : (0 : Int32).toInt = 0 := (by decide); omega))⟩
abbrev fs_X11_row : List Nat := [658]
abbrev ts_X11_row : List Nat := []
set_option maxHeartbeats 4000000 in
set_option maxRecDepth 100000 in
theorem c_X11_row (a0 : Nat) (ha0 : oA L τ a0 10) (a1 : Int32) (hf657 : Iv (σ.1 657 a0) 0 0) : oMet l A L τ cy D K yX11_row cX11_row 2 (some .long) 1 22 [.ref a0, .int a1] σ (va_Ql (fun r σ1 => oFr τ fs_X11_row ts_X11_row σ σ1 ∧ Iv (σ1.1 658 a0) 1 1) (oPo A L τ cy D) A) := by
  refine oMk (by decide) (Nat.le_of_ble_eq_true rfl) rfl ?_
  intro p e s m args below meth c ls cx rx hA hw hl
  generalize hQ : MQ below _ args s 0 0 A = Q
  have hx := cx.1.1
  have hb := cx.1.2.1
  have hml := cx.1.2.2.1
  have hown := cx.1.2.2.2.1
  have hts := cx.1.2.2.2.2
  have hl : lv_has ls 2 [(0, .ref a0), (1, .int a1)] := hl
  have fr : oFr τ fs_X11_row ts_X11_row σ σ := oFr_rf
  refine lv_aload_n hx hb dX11_row_0 rfl (lv_at hl 0 rfl) ?_
  refine lv_iconst (v := 0) hx hb dX11_row_1 (by decide) ?_
  refine p_658 cx hw ha0 k_f_X11_89 dX11_row_2 (fun σ1 H locs eσ1 hw => ?_)
  have fr := oFr_i fr eσ1 (by decide)
  refine lv_iload_n hx hb dX11_row_5 rfl (lv_at hl 1 rfl) ?_
  refine lv_iconst (v := 0) hx hb dX11_row_6 (by decide) ?_
  refine lv_aload_n hx hb dX11_row_7 rfl (lv_at hl 0 rfl) ?_
  refine g_657 cx hw ha0 k_f_X11_92 dX11_row_8 (fun v2 e2 i2 => ?_)
  rw [show v2 = (σ.1 657 a0) from e2.trans ((kp_i eσ1 (by decide)).trans rfl)]
  refine lv_iconst (v := 1) hx hb dX11_row_11 (by decide) ?_
  refine lv_isub hx hb dX11_row_12 ?_
  refine lv_topi (fun v3 e3 => ?_)
  have i3 : Iv v3 (-1) (-1) := iv_sub e3 hf657 (⟨by decide, by decide⟩ : Iv 1 1 1) (by decide)
  have x3 : v3.toInt = (σ.1 657 a0).toInt + (-1) := ex_sub e3 hf657 (⟨by decide, by decide⟩ : Iv 1 1 1) (by decide)
  refine o_ci hw (oRunS cx hA hw q_X11_in k_m_X11_95 (As := [.int a1, .int 0, .int v3]) (c_X11_in a1 0 v3) (by decide) rfl hl.1 rfl (Nat.le_of_ble_eq_true rfl) dX11_row_13 (by decide)) (fun v5 σ4 H locs hp hw => ?_)
  obtain ⟨p5_0, p5_1, p5_2, p5_3, p5_4⟩ := hp
  rw [p5_0] at hw
  have i6 : Iv v5 0 0 := (by have := (p5_1).1; have := (p5_1).2; have := (hf657).1; have := (hf657).2; have := (i3).1; have := (i3).2; have : (σ1.1 657 a0).toInt = ((σ.1 657 a0) : Int32).toInt := congrArg Int32.toInt (show σ1.1 657 a0 = (σ.1 657 a0) from ((kp_i eσ1 (by decide)).trans rfl)); have : (σ1.1 658 a0).toInt = (0 : Int32).toInt := congrArg Int32.toInt (show σ1.1 658 a0 = 0 from (kp_s eσ1)); have : (0 : Int32).toInt = 0 := (by decide); exact ⟨by omega, by omega⟩)
  refine lv_if_eq (tgt := 28) hx hb dX11_row_16 (by decide) (fun c7 => ?_) (fun c7 => ?_)
  · --
    refine lv_aload_n hx hb dX11_row_28 rfl (lv_at hl 0 rfl) ?_
    refine o_ci hw (oRunV cx hA hw q_X11_lost k_m_X11_230 rfl ha0 (by decide) (As := []) (c_X11_lost a0 ha0) (by decide) rfl hl.1 rfl (Nat.le_of_ble_eq_true rfl) dX11_row_29 (by decide)) (fun v9 σ8 H locs hp hw => ?_)
    obtain ⟨p9_0, p9_1, p9_2⟩ := hp
    have fr := oFr_tr fr p9_0 (by decide)
    refine lv_i2l hx hb dX11_row_32 rfl ?_
    refine lv_topl (fun v10 e10 => ?_)
    rw [← hQ]
    exact o_rl cx rx hw dX11_row_33 ⟨fr, (kn_iv (rfl) (iv_w p9_2 (by decide)))⟩
  · --
    exact iv_no (iv_ne1 c7 i6 (⟨by decide, by decide⟩ : Iv 0 0 0) (by decide)) (by decide)
end OM
