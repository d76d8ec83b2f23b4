section OM
variable {l : Launch} {A : Nat → Prop} {L : List Nat} {τ : Nat → Nat} {cy : Nat → ClassId} {D : va_G} {K : (Nat → Nat) × (Nat → Nat)} {σ : oSt}
abbrev fs_X10_remembered : List Nat := [129, 130, 327, 328, 329, 330, 331]
abbrev ts_X10_remembered : List Nat := [32, 33, 34, 70]
set_option maxHeartbeats 4000000 in
set_option maxRecDepth 100000 in
theorem c_X10_remembered (a0 : Nat) (ha0 : oA L τ a0 9) (a1 : Int32) : oMet l A L τ cy D K yX10_remembered cX10_remembered 2 (some .int) 3 102 [.ref a0, .int a1] σ (va_Qi (fun r σ1 => oFr τ fs_X10_remembered ts_X10_remembered σ σ1 ∧ (r = a1)) (oPo A L τ cy D) A) := by
  refine oMk (by decide) (Nat.le_of_ble_eq_true rfl) rfl ?_
  intro p e s m args below meth c ls cx rx hA hw hl
  generalize hQ : MQ below _ args s 0 0 A = Q
  have hx := cx.1.1
  have hb := cx.1.2.1
  have hml := cx.1.2.2.1
  have hown := cx.1.2.2.2.1
  have hts := cx.1.2.2.2.2
  have hl : lv_has ls 2 [(0, .ref a0), (1, .int a1)] := hl
  have fr : oFr τ fs_X10_remembered ts_X10_remembered σ σ := oFr_rf
  refine lv_iload_n hx hb dX10_remembered_0 rfl (lv_at hl 1 rfl) ?_
  refine lv_if_lt (tgt := 15) hx hb dX10_remembered_1 (by decide) (fun c1 => ?_) (fun c1 => ?_)
  · --
    have i2 : Iv a1 (-2147483648) (-1) := iv_lt1 c1 (iv_top a1) (⟨by decide, by decide⟩ : Iv 0 0 0) (by decide)
    refine lv_iload_n hx hb dX10_remembered_15 rfl (lv_at hl 1 rfl) ?_
    rw [← hQ]
    exact o_ri cx rx hw dX10_remembered_16 ⟨fr, (by exact rfl)⟩
  · --
    have i3 : Iv a1 0 2147483647 := iv_le2 (iv_nlt c1) (⟨by decide, by decide⟩ : Iv 0 0 0) (iv_top a1) (by decide)
    refine lv_aload_n hx hb dX10_remembered_4 rfl (lv_at hl 0 rfl) ?_
    refine g_585 cx hw ha0 k_f_X10_75 dX10_remembered_5 (fun v4 e4 h4 => ?_)
    refine lv_aload_n hx hb dX10_remembered_8 rfl (lv_at hl 0 rfl) ?_
    refine g_582 cx hw ha0 k_f_X10_53 dX10_remembered_9 (fun v5 e5 h5 => ?_)
    refine o_cv hw (oRunV cx hA hw q_X3_add k_m_X10_289 rfl h4 (by decide) (As := [.ref v5]) (c_X3_add v4 h4 v5 h5) (by decide) rfl hl.1 rfl (Nat.le_of_ble_eq_true rfl) dX10_remembered_12 (by decide)) (fun σ6 H locs hp hw => ?_)
    have p7_0 := hp
    have fr := oFr_tr fr p7_0 (by decide)
    refine lv_iload_n hx hb dX10_remembered_15 rfl (lv_at hl 1 rfl) ?_
    rw [← hQ]
    exact o_ri cx rx hw dX10_remembered_16 ⟨fr, (by exact rfl)⟩
set_option maxHeartbeats 4000000 in
set_option maxRecDepth 100000 in
theorem c_X10_turn (a0 : Nat) (ha0 : oA L τ a0 9) (a1 : Int32) (a2 : Int32) : oMet l A L τ cy D K yX10_turn cX10_turn 4 (some .int) 0 0 [.ref a0, .int a1, .int a2] σ (va_Qi (fun r σ1 => σ1 = σ ∧ Iv r (-1) (-1)) (oPo A L τ cy D) A) := by
  refine oMk (by decide) (Nat.le_of_ble_eq_true rfl) rfl ?_
  intro p e s m args below meth c ls cx rx hA hw hl
  generalize hQ : MQ below _ args s 0 0 A = Q
  have hx := cx.1.1
  have hb := cx.1.2.1
  have hml := cx.1.2.2.1
  have hown := cx.1.2.2.2.1
  have hts := cx.1.2.2.2.2
  have hl : lv_has ls 4 [(0, .ref a0), (1, .int a1), (2, .int a2)] := hl
  refine lv_iload_n hx hb dX10_turn_0 rfl (lv_at hl 1 rfl) ?_
  refine lv_if_lt (tgt := 15) hx hb dX10_turn_1 (by decide) (fun c1 => ?_) (fun c1 => ?_)
  · --
    have i2 : Iv a1 (-2147483648) (-1) := iv_lt1 c1 (iv_top a1) (⟨by decide, by decide⟩ : Iv 0 0 0) (by decide)
    refine lv_iconst (v := (-1)) hx hb dX10_turn_15 (by decide) ?_
    rw [← hQ]
    exact o_ri cx rx hw dX10_turn_16 ⟨rfl, (iv_w (⟨by decide, by decide⟩ : Iv (-1) (-1) (-1)) (by decide))⟩
  · --
    have i3 : Iv a1 0 2147483647 := iv_le2 (iv_nlt c1) (⟨by decide, by decide⟩ : Iv 0 0 0) (iv_top a1) (by decide)
    refine lv_iload_n hx hb dX10_turn_4 rfl (lv_at hl 1 rfl) ?_
    refine lv_aload_n hx hb dX10_turn_5 rfl (lv_at hl 0 rfl) ?_
    refine g_578 cx hw ha0 k_f_X10_26 dX10_turn_6 (fun v4 e4 h4 => ?_)
    refine g_66 cx hw h4 k_f_X10_306 dX10_turn_9 (fun v5 e5 i5 => ?_)
    refine lv_icmp_lt (tgt := 17) hx hb dX10_turn_12 (by decide) (fun c6 => ?_) (fun c6 => ?_)
    · --
      exact iv_no (iv_lt1 (b' := (-1)) c6 i3 i5 (by decide)) (by decide)
    · --
      refine lv_iconst (v := (-1)) hx hb dX10_turn_15 (by decide) ?_
      rw [← hQ]
      exact o_ri cx rx hw dX10_turn_16 ⟨rfl, (iv_w (⟨by decide, by decide⟩ : Iv (-1) (-1) (-1)) (by decide))⟩
set_option maxHeartbeats 4000000 in
set_option maxRecDepth 100000 in
theorem c_X0_beside (a0 : Int64) : oMet l A L τ cy D K yX0_beside cX0_beside 2 (some .long) 0 0 [.long a0] σ (va_Ql (fun r σ1 => σ1 = σ) (oPo A L τ cy D) A) := by
  refine oMk (by decide) (Nat.le_of_ble_eq_true rfl) rfl ?_
  intro p e s m args below meth c ls cx rx hA hw hl
  generalize hQ : MQ below _ args s 0 0 A = Q
  have hx := cx.1.1
  have hb := cx.1.2.1
  have hml := cx.1.2.2.1
  have hown := cx.1.2.2.2.1
  have hts := cx.1.2.2.2.2
  have hl : lv_has ls 2 [(0, .long a0)] := hl
  refine lv_lload_n hx hb dX0_beside_0 rfl (lv_at hl 0 rfl) ?_
  refine lv_bipush (v := 8) hx hb dX0_beside_1 (by decide) ?_
  refine lv_lushr hx hb dX0_beside_3 rfl ?_
  refine lv_topl (fun v1 e1 => ?_)
  refine lv_lload_n hx hb dX0_beside_4 rfl (lv_at hl 0 rfl) ?_
  refine lv_bipush (v := 8) hx hb dX0_beside_5 (by decide) ?_
  refine lv_lshl hx hb dX0_beside_7 rfl ?_
  refine lv_topl (fun v2 e2 => ?_)
  refine lv_lor hx hb dX0_beside_8 ?_
  refine lv_topl (fun v3 e3 => ?_)
  refine lv_lload_n hx hb dX0_beside_9 rfl (lv_at hl 0 rfl) ?_
  refine lv_ldc2 (v := 9187201950435737471) hx hb hown (hts _ k_k_X0_17) dX0_beside_10 ?_
  refine lv_land hx hb dX0_beside_13 ?_
  refine lv_topl (fun v4 e4 => ?_)
  refine lv_iconst (v := 1) hx hb dX0_beside_14 (by decide) ?_
  refine lv_lshl hx hb dX0_beside_15 rfl ?_
  refine lv_topl (fun v5 e5 => ?_)
  refine lv_lor hx hb dX0_beside_16 ?_
  refine lv_topl (fun v6 e6 => ?_)
  refine lv_lload_n hx hb dX0_beside_17 rfl (lv_at hl 0 rfl) ?_
  refine lv_ldc2 (v := (-72340172838076674)) hx hb hown (hts _ k_k_X0_19) dX0_beside_18 ?_
  refine lv_land hx hb dX0_beside_21 ?_
  refine lv_topl (fun v7 e7 => ?_)
  refine lv_iconst (v := 1) hx hb dX0_beside_22 (by decide) ?_
  refine lv_lushr hx hb dX0_beside_23 rfl ?_
  refine lv_topl (fun v8 e8 => ?_)
  refine lv_lor hx hb dX0_beside_24 ?_
  refine lv_topl (fun v9 e9 => ?_)
  rw [← hQ]
  exact o_rl cx rx hw dX0_beside_25 rfl
set_option maxHeartbeats 4000000 in
set_option maxRecDepth 100000 in
theorem c_X10_chase (a0 : Nat) (ha0 : oA L τ a0 9) (a1 : Int32) (a2 : Int32) (hz : HZ L τ σ) : oMet l A L τ cy D K yX10_chase cX10_chase 6 (some .int) 1 21 [.ref a0, .int a1, .int a2] σ (va_Qi (fun r σ1 => σ1 = σ ∧ Iv r (-1) (-1)) (oPo A L τ cy D) A) := by
  refine oMk (by decide) (Nat.le_of_ble_eq_true rfl) rfl ?_
  intro p e s m args below meth c ls cx rx hA hw hl
  generalize hQ : MQ below _ args s 0 0 A = Q
  have hx := cx.1.1
  have hb := cx.1.2.1
  have hml := cx.1.2.2.1
  have hown := cx.1.2.2.2.1
  have hts := cx.1.2.2.2.2
  have hl : lv_has ls 6 [(0, .ref a0), (1, .int a1), (2, .int a2)] := hl
  refine lv_aload_n hx hb dX10_chase_0 rfl (lv_at hl 0 rfl) ?_
  refine g_581 cx hw ha0 k_f_X10_49 dX10_chase_1 (fun v1 e1 h1 => ?_)
  refine lv_iload_n hx hb dX10_chase_4 rfl (lv_at hl 1 rfl) ?_
  refine o_ci hw (oRunV cx hA hw q_X6_hasHerd k_m_X10_178 rfl h1 (by decide) (As := [.int a1]) (c_X6_hasHerd v1 h1 a1) (by decide) rfl hl.1 rfl (Nat.le_of_ble_eq_true rfl) dX10_chase_5 (by decide)) (fun v3 σ2 H locs hp hw => ?_)
  obtain ⟨p3_0, p3_1, p3_2⟩ := hp
  rw [p3_0] at hw
  refine lv_if_eq (tgt := 22) hx hb dX10_chase_8 (by decide) (fun c4 => ?_) (fun c4 => ?_)
  · --
    refine lv_iconst (v := (-1)) hx hb dX10_chase_22 (by decide) ?_
    rw [← hQ]
    exact o_ri cx rx hw dX10_chase_23 ⟨rfl, (iv_w (⟨by decide, by decide⟩ : Iv (-1) (-1) (-1)) (by decide))⟩
  · --
    exact iv_no (iv_ne1 c4 p3_1 (⟨by decide, by decide⟩ : Iv 0 0 0) (by decide)) (by decide)
abbrev fs_X6_graze : List Nat := []
abbrev ts_X6_graze : List Nat := [32]
set_option maxHeartbeats 4000000 in
set_option maxRecDepth 100000 in
theorem c_X6_graze (a0 : Nat) (ha0 : oA L τ a0 5) (a1 : Int32) (ia1 : Iv a1 0 63) : oMet l A L τ cy D K yX6_graze cX6_graze 2 none 0 0 [.ref a0, .int a1] σ (va_Qv (fun σ1 => oFr τ fs_X6_graze ts_X6_graze σ σ1) (oPo A L τ cy D) A) := by
  refine oMk (by decide) (Nat.le_of_ble_eq_true rfl) rfl ?_
  intro p e s m args below meth c ls cx rx hA hw hl
  generalize hQ : MQ below _ args s 0 0 A = Q
  have hx := cx.1.1
  have hb := cx.1.2.1
  have hml := cx.1.2.2.1
  have hown := cx.1.2.2.2.1
  have hts := cx.1.2.2.2.2
  have hl : lv_has ls 2 [(0, .ref a0), (1, .int a1)] := hl
  have fr : oFr τ fs_X6_graze ts_X6_graze σ σ := oFr_rf
  refine lv_aload_n hx hb dX6_graze_0 rfl (lv_at hl 0 rfl) ?_
  refine g_320 cx hw ha0 k_f_X6_9 dX6_graze_1 (fun v1 e1 h1 => ?_)
  refine lv_iload_n hx hb dX6_graze_4 rfl (lv_at hl 1 rfl) ?_
  refine o_iald cx hw h1 (by decide) rfl (iv_in ia1 (by decide)) dX6_graze_5 (fun v2 e2 b2 => ?_)
  refine lv_if_le (tgt := 22) hx hb dX6_graze_6 (by decide) (fun c3 => ?_) (fun c3 => ?_)
  · --
    have i4 : Iv v2 (-2147483648) 0 := iv_le1 c3 (iv_top v2) (⟨by decide, by decide⟩ : Iv 0 0 0) (by decide)
    refine lv_aload_n hx hb dX6_graze_22 rfl (lv_at hl 0 rfl) ?_
    refine g_321 cx hw ha0 k_f_X6_15 dX6_graze_23 (fun v5 e5 h5 => ?_)
    refine lv_iload_n hx hb dX6_graze_26 rfl (lv_at hl 1 rfl) ?_
    refine o_iald cx hw h5 (by decide) rfl (iv_in ia1 (by decide)) dX6_graze_27 (fun v6 e6 b6 => ?_)
    refine lv_if_le (tgt := 41) hx hb dX6_graze_28 (by decide) (fun c7 => ?_) (fun c7 => ?_)
    · --
      have i8 : Iv v6 (-2147483648) 0 := iv_le1 c7 (iv_top v6) (⟨by decide, by decide⟩ : Iv 0 0 0) (by decide)
      rw [← hQ]
      exact o_rv cx rx hw dX6_graze_41 fr
    · --
      have i9 : Iv v6 1 2147483647 := iv_lt2 (iv_nle c7) (⟨by decide, by decide⟩ : Iv 0 0 0) (iv_top v6) (by decide)
      refine lv_aload_n hx hb dX6_graze_31 rfl (lv_at hl 0 rfl) ?_
      refine g_321 cx hw ha0 k_f_X6_15 dX6_graze_32 (fun v10 e10 h10 => ?_)
      rw [show v10 = v5 from Option.some.inj (e10.symm.trans (e5))]
      refine lv_iload_n hx hb dX6_graze_35 rfl (lv_at hl 1 rfl) ?_
      refine lv_dup2_11 hx hb dX6_graze_36 rfl rfl ?_
      refine o_iald cx hw h5 (by decide) rfl (iv_in ia1 (by decide)) dX6_graze_37 (fun v11 e11 b11 => ?_)
      refine lv_iconst (v := 1) hx hb dX6_graze_38 (by decide) ?_
      refine lv_isub hx hb dX6_graze_39 ?_
      refine lv_topi (fun v12 e12 => ?_)
      refine o_iast cx hw h5 (by decide) rfl (iv_in ia1 (by decide)) trivial dX6_graze_40 (fun σ13 H locs eσ13 hw => ?_)
      have fr := oFr_p fr eσ13 h5 (by decide)
      rw [← hQ]
      exact o_rv cx rx hw dX6_graze_41 fr
  · --
    have i14 : Iv v2 1 2147483647 := iv_lt2 (iv_nle c3) (⟨by decide, by decide⟩ : Iv 0 0 0) (iv_top v2) (by decide)
    refine lv_aload_n hx hb dX6_graze_9 rfl (lv_at hl 0 rfl) ?_
    refine g_320 cx hw ha0 k_f_X6_9 dX6_graze_10 (fun v15 e15 h15 => ?_)
    rw [show v15 = v1 from Option.some.inj (e15.symm.trans (e1))]
    refine lv_iload_n hx hb dX6_graze_13 rfl (lv_at hl 1 rfl) ?_
    refine lv_dup2_11 hx hb dX6_graze_14 rfl rfl ?_
    refine o_iald cx hw h1 (by decide) rfl (iv_in ia1 (by decide)) dX6_graze_15 (fun v16 e16 b16 => ?_)
    refine lv_iconst (v := 1) hx hb dX6_graze_16 (by decide) ?_
    refine lv_isub hx hb dX6_graze_17 ?_
    refine lv_topi (fun v17 e17 => ?_)
    refine o_iast cx hw h1 (by decide) rfl (iv_in ia1 (by decide)) trivial dX6_graze_18 (fun σ18 H locs eσ18 hw => ?_)
    have fr := oFr_p fr eσ18 h1 (by decide)
    refine lv_goto (tgt := 41) hx hb dX6_graze_19 (by decide) ?_
    rw [← hQ]
    exact o_rv cx rx hw dX6_graze_41 fr
set_option maxHeartbeats 4000000 in
set_option maxRecDepth 100000 in
theorem c_X6_herdCells (a0 : Nat) (ha0 : oA L τ a0 5) : oMet l A L τ cy D K yX6_herdCells cX6_herdCells 4 (some .long) 0 0 [.ref a0] σ (va_Ql (fun r σ1 => σ1 = σ ∧ r = 0) (oPo A L τ cy D) A) := by
  refine oMk (by decide) (Nat.le_of_ble_eq_true rfl) rfl ?_
  intro p e s m args below meth c ls cx rx hA hw hl
  generalize hQ : MQ below _ args s 0 0 A = Q
  have hx := cx.1.1
  have hb := cx.1.2.1
  have hml := cx.1.2.2.1
  have hown := cx.1.2.2.2.1
  have hts := cx.1.2.2.2.2
  have hl : lv_has ls 4 [(0, .ref a0)] := hl
  refine lv_lconst (v := 0) hx hb dX6_herdCells_0 (by decide) ?_
  refine lv_lstore_n (lv' := [(1, .long 0), (0, .ref a0)]) hx hb dX6_herdCells_1 rfl hl (by decide) rfl (fun ls hl => ?_)
  refine lv_iconst (v := 0) hx hb dX6_herdCells_2 (by decide) ?_
  refine lv_istore_n (lv' := [(3, .int 0), (1, .long 0), (0, .ref a0)]) hx hb dX6_herdCells_3 rfl hl (by decide) rfl (fun ls hl => ?_)
  have J_4 : ∀ n4 : Nat, ∀ (H : Heap) (locs : List Loc), oI A L τ cy D s.heap σ H locs → 0 < n4 → ∀ (ls : Array Slot), lv_has ls 4 [(0, .ref a0), (1, .long 0), (3, .int 0)] → W p l e ({ frames := 0, cells := 0, slots := 0, locals := 0 } : Room) s m args below meth c H locs 0 0 Q (F0 m 4 ls []) := by
    intro n4
    induction n4 with
    | zero => intro  H locs hw  hn_4   ls hl; exact absurd hn_4 (Nat.not_lt_zero _)
    | succ n4 ih_4 =>
      intro  H locs hw  hn_4   ls hl
      refine lv_iload_n hx hb dX6_herdCells_4 rfl (lv_at hl 2 rfl) ?_
      refine lv_aload_n hx hb dX6_herdCells_5 rfl (lv_at hl 0 rfl) ?_
      refine g_327 cx hw ha0 k_f_X6_39 dX6_herdCells_6 (fun v1 e1 i1 => ?_)
      refine lv_icmp_ge (tgt := 30) hx hb dX6_herdCells_9 (by decide) (fun c2 => ?_) (fun c2 => ?_)
      · --
        refine lv_lload_n hx hb dX6_herdCells_30 rfl (lv_at hl 1 rfl) ?_
        rw [← hQ]
        exact o_rl cx rx hw dX6_herdCells_31 ⟨rfl, rfl⟩
      · --
        exact iv_no (iv_lt1 (b' := (-1)) (iv_nle c2) (⟨by decide, by decide⟩ : Iv 0 0 0) i1 (by decide)) (by decide)
  exact J_4 _ _ _ hw (Nat.lt_succ_self _) _ (lv_sub hl [2, 1, 0] rfl)
set_option maxHeartbeats 4000000 in
set_option maxRecDepth 100000 in
theorem c_X9_grow (a0 : Nat) (ha0 : oA L τ a0 8) (a1 : Nat) (ha1 : oA L τ a1 5) (hz : HZ L τ σ) : oMet l A L τ cy D K yX9_grow cX9_grow 5 none 2 43 [.ref a0, .ref a1] σ (va_Qv (fun σ1 => σ1 = σ) (oPo A L τ cy D) A) := by
  refine oMk (by decide) (Nat.le_of_ble_eq_true rfl) rfl ?_
  intro p e s m args below meth c ls cx rx hA hw hl
  generalize hQ : MQ below _ args s 0 0 A = Q
  have hx := cx.1.1
  have hb := cx.1.2.1
  have hml := cx.1.2.2.1
  have hown := cx.1.2.2.2.1
  have hts := cx.1.2.2.2.2
  have hl : lv_has ls 5 [(0, .ref a0), (1, .ref a1)] := hl
  refine lv_aload_n hx hb dX9_grow_0 rfl (lv_at hl 1 rfl) ?_
  refine o_cl hw (oRunV cx hA hw q_X6_herdCells k_m_X9_132 rfl ha1 (by decide) (As := []) (c_X6_herdCells a1 ha1) (by decide) rfl hl.1 rfl (Nat.le_of_ble_eq_true rfl) dX9_grow_1 (by decide)) (fun v2 σ1 H locs hp hw => ?_)
  obtain ⟨p2_0, p2_1⟩ := hp
  rw [p2_0] at hw
  rw [p2_1]
  refine lv_lstore_n (lv' := [(2, .long 0), (0, .ref a0), (1, .ref a1)]) hx hb dX9_grow_4 rfl hl (by decide) rfl (fun ls hl => ?_)
  refine lv_iconst (v := 0) hx hb dX9_grow_5 (by decide) ?_
  refine lv_istore (lv' := [(4, .int 0), (2, .long 0), (0, .ref a0), (1, .ref a1)]) hx hb dX9_grow_6 hl (by decide) rfl (fun ls hl => ?_)
  have J_8 : ∀ n8 : Nat, ∀ (j8_4 : Int32) (ij8_4 : Iv j8_4 0 64), ∀ (H : Heap) (locs : List Loc), oI A L τ cy D s.heap σ H locs → (64 - j8_4.toInt).toNat < n8 → ∀ (ls : Array Slot), lv_has ls 5 [(0, .ref a0), (1, .ref a1), (2, .long 0), (4, .int j8_4)] → W p l e ({ frames := 2, cells := 0, slots := 0, locals := 43 } : Room) s m args below meth c H locs 0 0 Q (F0 m 8 ls []) := by
    intro n8
    induction n8 with
    | zero => intro j8_4 ij8_4 H locs hw  hn_8   ls hl; exact absurd hn_8 (Nat.not_lt_zero _)
    | succ n8 ih_8 =>
      intro j8_4 ij8_4 H locs hw  hn_8   ls hl
      refine lv_iload hx hb dX9_grow_8 (lv_at hl 3 rfl) ?_
      refine lv_bipush (v := 64) hx hb dX9_grow_10 (by decide) ?_
      refine lv_icmp_ge (tgt := 63) hx hb dX9_grow_12 (by decide) (fun c3 => ?_) (fun c3 => ?_)
      · --
        have i4 : Iv j8_4 64 64 := iv_le2 c3 (⟨by decide, by decide⟩ : Iv 64 64 64) ij8_4 (by decide)
        rw [← hQ]
        exact o_rv cx rx hw dX9_grow_63 rfl
      · --
        have i5 : Iv j8_4 0 63 := iv_lt1 (iv_nle c3) ij8_4 (⟨by decide, by decide⟩ : Iv 64 64 64) (by decide)
        refine lv_aload_n hx hb dX9_grow_15 rfl (lv_at hl 0 rfl) ?_
        refine g_512 cx hw ha0 k_f_X9_24 dX9_grow_16 (fun v6 e6 h6 => ?_)
        refine lv_iload hx hb dX9_grow_19 (lv_at hl 3 rfl) ?_
        refine o_ci hw (oRunV cx hA hw q_X2_isPlain k_m_X9_136 rfl h6 (by decide) (As := [.int j8_4]) (c_X2_isPlain v6 h6 j8_4 hz) (by decide) rfl hl.1 rfl (Nat.le_of_ble_eq_true rfl) dX9_grow_21 (by decide)) (fun v8 σ7 H locs hp hw => ?_)
        obtain ⟨p8_0, p8_1⟩ := hp
        rw [p8_0] at hw
        have J_57 : ∀ (H : Heap) (locs : List Loc), oI A L τ cy D s.heap σ H locs → ∀ (ls : Array Slot), lv_has ls 5 [(0, .ref a0), (1, .ref a1), (2, .long 0), (4, .int j8_4)] → W p l e ({ frames := 2, cells := 0, slots := 0, locals := 43 } : Room) s m args below meth c H locs 0 0 Q (F0 m 57 ls []) := by
          intro  H locs hw     ls hl
          obtain ⟨v9, e9⟩ : ∃ y : Int32, y = j8_4 + 1 := ⟨_, rfl⟩
          have i9 : Iv v9 1 64 := iv_add e9 i5 (⟨by decide, by decide⟩ : Iv 1 1 1) (by decide)
          have x9 : v9.toInt = j8_4.toInt + 1 := ex_add e9 i5 (⟨by decide, by decide⟩ : Iv 1 1 1) (by decide)
          refine lv_iinc (v := v9) (lv' := [(4, .int v9), (0, .ref a0), (1, .ref a1), (2, .long 0)]) hx hb dX9_grow_57 hl (k := 3) rfl (by rw [e9]; rfl) (by decide) rfl (fun ls hl => ?_)
          refine lv_goto (tgt := 8) hx hb dX9_grow_60 (by decide) ?_
          exact ih_8 v9 (iv_w i9 (by decide)) _ _ hw (ms_up x9 (by decide) (iv_w (a' := 0) (b' := 64) i9 (by decide)).2 hn_8) _ (lv_sub hl [1, 2, 3, 0] rfl)
        refine lv_if_eq (tgt := 57) hx hb dX9_grow_24 (by decide) (fun c10 => ?_) (fun c10 => ?_)
        · --
          exact J_57 _ _ hw _ (lv_sub hl [0, 1, 2, 3] rfl)
        · --
          exact iv_no (iv_ne1 c10 p8_1 (⟨by decide, by decide⟩ : Iv 0 0 0) (by decide)) (by decide)
  exact J_8 _ 0 (iv_w (⟨by decide, by decide⟩ : Iv 0 0 0) (by decide)) _ _ hw (Nat.lt_succ_self _) _ (lv_sub hl [2, 3, 1, 0] rfl)
abbrev fs_X9_pass : List Nat := [331]
abbrev ts_X9_pass : List Nat := []
set_option maxHeartbeats 4000000 in
set_option maxRecDepth 100000 in
theorem c_X9_pass (a0 : Nat) (ha0 : oA L τ a0 8) (a1 : Nat) (ha1 : oA L τ a1 5) (hz : HZ L τ σ) : oMet l A L τ cy D K yX9_pass cX9_pass 8 (some .int) 3 67 [.ref a0, .ref a1] σ (va_Qi (fun r σ1 => oFr τ fs_X9_pass ts_X9_pass σ σ1 ∧ Iv r 0 0) (oPo A L τ cy D) A) := by
  refine oMk (by decide) (Nat.le_of_ble_eq_true rfl) rfl ?_
  intro p e s m args below meth c ls cx rx hA hw hl
  generalize hQ : MQ below _ args s 0 0 A = Q
  have hx := cx.1.1
  have hb := cx.1.2.1
  have hml := cx.1.2.2.1
  have hown := cx.1.2.2.2.1
  have hts := cx.1.2.2.2.2
  have hl : lv_has ls 8 [(0, .ref a0), (1, .ref a1)] := hl
  have fr : oFr τ fs_X9_pass ts_X9_pass σ σ := oFr_rf
  refine lv_aload_n hx hb dX9_pass_0 rfl (lv_at hl 0 rfl) ?_
  refine g_512 cx hw ha0 k_f_X9_24 dX9_pass_1 (fun v1 e1 h1 => ?_)
  refine lv_aload_n hx hb dX9_pass_4 rfl (lv_at hl 1 rfl) ?_
  refine g_330 cx hw ha1 k_f_X9_40 dX9_pass_5 (fun v2 e2 => ?_)
  refine o_cl hw (oRunV cx hA hw q_X2_openTo k_m_X9_45 rfl h1 (by decide) (As := [.int v2]) (c_X2_openTo v1 h1 v2) (by decide) rfl hl.1 rfl (Nat.le_of_ble_eq_true rfl) dX9_pass_8 (by decide)) (fun v4 σ3 H locs hp hw => ?_)
  have p4_0 := hp
  rw [p4_0] at hw
  refine lv_lstore_n (lv' := [(2, .long v4), (0, .ref a0), (1, .ref a1)]) hx hb dX9_pass_11 rfl hl (by decide) rfl (fun ls hl => ?_)
  refine lv_iconst (v := 0) hx hb dX9_pass_12 (by decide) ?_
  refine lv_istore (lv' := [(4, .int 0), (2, .long v4), (0, .ref a0), (1, .ref a1)]) hx hb dX9_pass_13 hl (by decide) rfl (fun ls hl => ?_)
  refine lv_aload_n hx hb dX9_pass_15 rfl (lv_at hl 3 rfl) ?_
  refine lv_dup hx hb dX9_pass_16 rfl ?_
  refine g_331 cx hw ha1 k_f_X9_51 dX9_pass_17 (fun v5 e5 => ?_)
  refine lv_iconst (v := 1) hx hb dX9_pass_20 (by decide) ?_
  refine lv_iadd hx hb dX9_pass_21 ?_
  refine lv_topi (fun v6 e6 => ?_)
  refine p_331 cx hw ha1 k_f_X9_51 dX9_pass_22 (fun σ7 H locs eσ7 hw => ?_)
  have fr := oFr_i fr eσ7 (by decide)
  refine lv_iconst (v := 0) hx hb dX9_pass_25 (by decide) ?_
  refine lv_istore (lv' := [(5, .int 0), (4, .int 0), (2, .long v4), (0, .ref a0), (1, .ref a1)]) hx hb dX9_pass_26 hl (by decide) rfl (fun ls hl => ?_)
  have J_28 : ∀ n28 : Nat, ∀ (H : Heap) (locs : List Loc), oI A L τ cy D s.heap σ7 H locs → 0 < n28 → ∀ (ls : Array Slot), lv_has ls 8 [(0, .ref a0), (1, .ref a1), (2, .long v4), (4, .int 0), (5, .int 0)] → W p l e ({ frames := 3, cells := 0, slots := 0, locals := 67 } : Room) s m args below meth c H locs 0 0 Q (F0 m 28 ls []) := by
    intro n28
    induction n28 with
    | zero => intro  H locs hw  hn_28   ls hl; exact absurd hn_28 (Nat.not_lt_zero _)
    | succ n28 ih_28 =>
      intro  H locs hw  hn_28   ls hl
      refine lv_iload hx hb dX9_pass_28 (lv_at hl 4 rfl) ?_
      refine lv_aload_n hx hb dX9_pass_30 rfl (lv_at hl 1 rfl) ?_
      refine g_327 cx hw ha1 k_f_X9_54 dX9_pass_31 (fun v8 e8 i8 => ?_)
      refine lv_icmp_ge (tgt := 102) hx hb dX9_pass_34 (by decide) (fun c9 => ?_) (fun c9 => ?_)
      · --
        refine lv_aload_n hx hb dX9_pass_102 rfl (lv_at hl 0 rfl) ?_
        refine g_515 cx hw ha0 k_f_X9_15 dX9_pass_103 (fun v10 e10 => ?_)
        refine lv_if_le (tgt := 126) hx hb dX9_pass_106 (by decide) (fun c11 => ?_) (fun c11 => ?_)
        · --
          have i12 : Iv v10 (-2147483648) 0 := iv_le1 c11 (iv_top v10) (⟨by decide, by decide⟩ : Iv 0 0 0) (by decide)
          refine lv_iload hx hb dX9_pass_126 (lv_at hl 3 rfl) ?_
          rw [← hQ]
          exact o_ri cx rx hw dX9_pass_128 ⟨fr, (iv_w (⟨by decide, by decide⟩ : Iv 0 0 0) (by decide))⟩
        · --
          have i13 : Iv v10 1 2147483647 := iv_lt2 (iv_nle c11) (⟨by decide, by decide⟩ : Iv 0 0 0) (iv_top v10) (by decide)
          refine lv_aload_n hx hb dX9_pass_109 rfl (lv_at hl 1 rfl) ?_
          refine g_331 cx hw ha1 k_f_X9_51 dX9_pass_110 (fun v14 e14 => ?_)
          rw [show v14 = v6 from e14.trans (kp_s eσ7)]
          refine lv_aload_n hx hb dX9_pass_113 rfl (lv_at hl 0 rfl) ?_
          refine g_515 cx hw ha0 k_f_X9_15 dX9_pass_114 (fun v15 e15 => ?_)
          rw [show v15 = v10 from e15.trans e10.symm]
          refine lv_irem hx hb dX9_pass_117 (iv_nz i13 (by decide)) ?_
          refine lv_topi (fun v16 e16 => ?_)
          have i16 : Iv v16 (-2147483646) 2147483646 := iv_remA e16 i13 (by decide)
          refine lv_if_ne (tgt := 126) hx hb dX9_pass_118 (by decide) (fun c17 => ?_) (fun c17 => ?_)
          · --
            refine lv_iload hx hb dX9_pass_126 (lv_at hl 3 rfl) ?_
            rw [← hQ]
            exact o_ri cx rx hw dX9_pass_128 ⟨fr, (iv_w (⟨by decide, by decide⟩ : Iv 0 0 0) (by decide))⟩
          · --
            have i18 : Iv v16 0 0 := iv_eq1 c17 i16 (⟨by decide, by decide⟩ : Iv 0 0 0) (by decide)
            refine lv_aload_n hx hb dX9_pass_121 rfl (lv_at hl 0 rfl) ?_
            refine lv_aload_n hx hb dX9_pass_122 rfl (lv_at hl 1 rfl) ?_
            refine o_cv hw (oRunV cx hA hw q_X9_grow k_m_X9_75 rfl ha0 (by decide) (As := [.ref a1]) (c_X9_grow a0 ha0 a1 ha1 (hz_fr hz fr (by decide))) (by decide) rfl hl.1 rfl (Nat.le_of_ble_eq_true rfl) dX9_pass_123 (by decide)) (fun σ19 H locs hp hw => ?_)
            have p20_0 := hp
            rw [p20_0] at hw
            refine lv_iload hx hb dX9_pass_126 (lv_at hl 3 rfl) ?_
            rw [← hQ]
            exact o_ri cx rx hw dX9_pass_128 ⟨fr, (iv_w (⟨by decide, by decide⟩ : Iv 0 0 0) (by decide))⟩
      · --
        exact iv_no (iv_lt1 (b' := (-1)) (iv_nle c9) (⟨by decide, by decide⟩ : Iv 0 0 0) i8 (by decide)) (by decide)
  exact J_28 _ _ _ hw (Nat.lt_succ_self _) _ (lv_sub hl [3, 4, 2, 1, 0] rfl)
abbrev fs_X4_start : List Nat := [193]
abbrev ts_X4_start : List Nat := []
set_option maxHeartbeats 4000000 in
set_option maxRecDepth 100000 in
theorem c_X4_start (a0 : Nat) (ha0 : oA L τ a0 3) : oMet l A L τ cy D K yX4_start cX4_start 1 none 0 0 [.ref a0] σ (va_Qv (fun σ1 => oFr τ fs_X4_start ts_X4_start σ σ1) (oPo A L τ cy D) A) := by
  refine oMk (by decide) (Nat.le_of_ble_eq_true rfl) rfl ?_
  intro p e s m args below meth c ls cx rx hA hw hl
  generalize hQ : MQ below _ args s 0 0 A = Q
  have hx := cx.1.1
  have hb := cx.1.2.1
  have hml := cx.1.2.2.1
  have hown := cx.1.2.2.2.1
  have hts := cx.1.2.2.2.2
  have hl : lv_has ls 1 [(0, .ref a0)] := hl
  have fr : oFr τ fs_X4_start ts_X4_start σ σ := oFr_rf
  refine lv_aload_n hx hb dX4_start_0 rfl (lv_at hl 0 rfl) ?_
  refine lv_iconst (v := 0) hx hb dX4_start_1 (by decide) ?_
  refine p_193 cx hw ha0 (iv_w (⟨by decide, by decide⟩ : Iv 0 0 0) (by decide)) k_f_X4_13 dX4_start_2 (fun σ1 H locs eσ1 hw => ?_)
  have fr := oFr_i fr eσ1 (by decide)
  rw [← hQ]
  exact o_rv cx rx hw dX4_start_5 fr
abbrev fs_X4_put : List Nat := [193]
abbrev ts_X4_put : List Nat := [36]
set_option maxHeartbeats 4000000 in
set_option maxRecDepth 100000 in
theorem c_X4_put (a0 : Nat) (ha0 : oA L τ a0 3) (a1 : Int64) : oMet l A L τ cy D K yX4_put cX4_put 3 none 0 0 [.ref a0, .long a1] σ (va_Qv (fun σ1 => oFr τ fs_X4_put ts_X4_put σ σ1) (oPo A L τ cy D) A) := by
  refine oMk (by decide) (Nat.le_of_ble_eq_true rfl) rfl ?_
  intro p e s m args below meth c ls cx rx hA hw hl
  generalize hQ : MQ below _ args s 0 0 A = Q
  have hx := cx.1.1
  have hb := cx.1.2.1
  have hml := cx.1.2.2.1
  have hown := cx.1.2.2.2.1
  have hts := cx.1.2.2.2.2
  have hl : lv_has ls 3 [(0, .ref a0), (1, .long a1)] := hl
  have fr : oFr τ fs_X4_put ts_X4_put σ σ := oFr_rf
  refine lv_aload_n hx hb dX4_put_0 rfl (lv_at hl 0 rfl) ?_
  refine g_193 cx hw ha0 k_f_X4_13 dX4_put_1 (fun v1 e1 i1 => ?_)
  refine lv_bipush (v := 14) hx hb dX4_put_4 (by decide) ?_
  refine lv_icmp_ge (tgt := 29) hx hb dX4_put_6 (by decide) (fun c2 => ?_) (fun c2 => ?_)
  · --
    have i3 : Iv v1 14 14 := iv_le2 c2 (⟨by decide, by decide⟩ : Iv 14 14 14) i1 (by decide)
    rw [← hQ]
    exact o_rv cx rx hw dX4_put_29 fr
  · --
    have i4 : Iv v1 0 13 := iv_lt1 (iv_nle c2) i1 (⟨by decide, by decide⟩ : Iv 14 14 14) (by decide)
    refine lv_aload_n hx hb dX4_put_9 rfl (lv_at hl 0 rfl) ?_
    refine g_192 cx hw ha0 k_f_X4_9 dX4_put_10 (fun v5 e5 h5 => ?_)
    refine lv_aload_n hx hb dX4_put_13 rfl (lv_at hl 0 rfl) ?_
    refine g_193 cx hw ha0 k_f_X4_13 dX4_put_14 (fun v6 e6 i6 => ?_)
    rw [show v6 = v1 from e6.trans e1.symm]
    refine lv_lload_n hx hb dX4_put_17 rfl (lv_at hl 1 rfl) ?_
    refine o_last cx hw h5 (by decide) rfl (iv_in i4 (by decide)) dX4_put_18 (fun σ7 H locs eσ7 hw => ?_)
    have fr := oFr_q fr eσ7 h5 (by decide)
    refine lv_aload_n hx hb dX4_put_19 rfl (lv_at hl 0 rfl) ?_
    refine lv_dup hx hb dX4_put_20 rfl ?_
    refine g_193 cx hw ha0 k_f_X4_13 dX4_put_21 (fun v8 e8 i8 => ?_)
    rw [show v8 = v1 from e8.trans ((kp_q eσ7).trans e1.symm)]
    refine lv_iconst (v := 1) hx hb dX4_put_24 (by decide) ?_
    refine lv_iadd hx hb dX4_put_25 ?_
    refine lv_topi (fun v9 e9 => ?_)
    have i9 : Iv v9 1 14 := iv_add e9 i4 (⟨by decide, by decide⟩ : Iv 1 1 1) (by decide)
    have x9 : v9.toInt = v1.toInt + 1 := ex_add e9 i4 (⟨by decide, by decide⟩ : Iv 1 1 1) (by decide)
    refine p_193 cx hw ha0 (iv_w i9 (by decide)) k_f_X4_13 dX4_put_26 (fun σ10 H locs eσ10 hw => ?_)
    have fr := oFr_i fr eσ10 (by decide)
    rw [← hQ]
    exact o_rv cx rx hw dX4_put_29 fr
abbrev fs_X10_tellPlaces : List Nat := [193]
abbrev ts_X10_tellPlaces : List Nat := []
set_option maxHeartbeats 4000000 in
set_option maxRecDepth 100000 in
theorem c_X10_tellPlaces (a0 : Nat) (ha0 : oA L τ a0 9) (a1 : Nat) (ha1 : oA L τ a1 5) : oMet l A L τ cy D K yX10_tellPlaces cX10_tellPlaces 3 none 1 20 [.ref a0, .ref a1] σ (va_Qv (fun σ1 => oFr τ fs_X10_tellPlaces ts_X10_tellPlaces σ σ1) (oPo A L τ cy D) A) := by
  refine oMk (by decide) (Nat.le_of_ble_eq_true rfl) rfl ?_
  intro p e s m args below meth c ls cx rx hA hw hl
  generalize hQ : MQ below _ args s 0 0 A = Q
  have hx := cx.1.1
  have hb := cx.1.2.1
  have hml := cx.1.2.2.1
  have hown := cx.1.2.2.2.1
  have hts := cx.1.2.2.2.2
  have hl : lv_has ls 3 [(0, .ref a0), (1, .ref a1)] := hl
  have fr : oFr τ fs_X10_tellPlaces ts_X10_tellPlaces σ σ := oFr_rf
  refine lv_aload_n hx hb dX10_tellPlaces_0 rfl (lv_at hl 0 rfl) ?_
  refine g_577 cx hw ha0 k_f_X10_19 dX10_tellPlaces_1 (fun v1 e1 h1 => ?_)
  refine o_cv hw (oRunV cx hA hw q_X4_start k_m_X10_292 rfl h1 (by decide) (As := []) (c_X4_start v1 h1) (by decide) rfl hl.1 rfl (Nat.le_of_ble_eq_true rfl) dX10_tellPlaces_4 (by decide)) (fun σ2 H locs hp hw => ?_)
  have p3_0 := hp
  have fr := oFr_tr fr p3_0 (by decide)
  refine lv_iconst (v := 0) hx hb dX10_tellPlaces_7 (by decide) ?_
  refine lv_istore_n (lv' := [(2, .int 0), (0, .ref a0), (1, .ref a1)]) hx hb dX10_tellPlaces_8 rfl hl (by decide) rfl (fun ls hl => ?_)
  have J_9 : ∀ n9 : Nat, ∀ (H : Heap) (locs : List Loc), oI A L τ cy D s.heap σ2 H locs → 0 < n9 → ∀ (ls : Array Slot), lv_has ls 3 [(0, .ref a0), (1, .ref a1), (2, .int 0)] → W p l e ({ frames := 1, cells := 0, slots := 0, locals := 20 } : Room) s m args below meth c H locs 0 0 Q (F0 m 9 ls []) := by
    intro n9
    induction n9 with
    | zero => intro  H locs hw  hn_9   ls hl; exact absurd hn_9 (Nat.not_lt_zero _)
    | succ n9 ih_9 =>
      intro  H locs hw  hn_9   ls hl
      refine lv_iload_n hx hb dX10_tellPlaces_9 rfl (lv_at hl 2 rfl) ?_
      refine lv_aload_n hx hb dX10_tellPlaces_10 rfl (lv_at hl 1 rfl) ?_
      refine g_327 cx hw ha1 k_f_X10_206 dX10_tellPlaces_11 (fun v4 e4 i4 => ?_)
      refine lv_icmp_ge (tgt := 37) hx hb dX10_tellPlaces_14 (by decide) (fun c5 => ?_) (fun c5 => ?_)
      · --
        rw [← hQ]
        exact o_rv cx rx hw dX10_tellPlaces_37 fr
      · --
        exact iv_no (iv_lt1 (b' := (-1)) (iv_nle c5) (⟨by decide, by decide⟩ : Iv 0 0 0) i4 (by decide)) (by decide)
  exact J_9 _ _ _ hw (Nat.lt_succ_self _) _ (lv_sub hl [1, 2, 0] rfl)
abbrev fs_X9_passMany : List Nat := [331]
abbrev ts_X9_passMany : List Nat := []
set_option maxHeartbeats 4000000 in
set_option maxRecDepth 100000 in
theorem c_X9_passMany (a0 : Nat) (ha0 : oA L τ a0 8) (a1 : Nat) (ha1 : oA L τ a1 5) (a2 : Int32) (hz : HZ L τ σ) : oMet l A L τ cy D K yX9_passMany cX9_passMany 5 (some .int) 4 94 [.ref a0, .ref a1, .int a2] σ (va_Qi (fun r σ1 => oFr τ fs_X9_passMany ts_X9_passMany σ σ1 ∧ Iv r 0 0) (oPo A L τ cy D) A) := by
  refine oMk (by decide) (Nat.le_of_ble_eq_true rfl) rfl ?_
  intro p e s m args below meth c ls cx rx hA hw hl
  generalize hQ : MQ below _ args s 0 0 A = Q
  have hx := cx.1.1
  have hb := cx.1.2.1
  have hml := cx.1.2.2.1
  have hown := cx.1.2.2.2.1
  have hts := cx.1.2.2.2.2
  have hl : lv_has ls 5 [(0, .ref a0), (1, .ref a1), (2, .int a2)] := hl
  have fr : oFr τ fs_X9_passMany ts_X9_passMany σ σ := oFr_rf
  refine lv_iconst (v := 0) hx hb dX9_passMany_0 (by decide) ?_
  refine lv_istore_n (lv' := [(3, .int 0), (0, .ref a0), (1, .ref a1), (2, .int a2)]) hx hb dX9_passMany_1 rfl hl (by decide) rfl (fun ls hl => ?_)
  refine lv_iconst (v := 0) hx hb dX9_passMany_2 (by decide) ?_
  refine lv_istore (lv' := [(4, .int 0), (3, .int 0), (0, .ref a0), (1, .ref a1), (2, .int a2)]) hx hb dX9_passMany_3 hl (by decide) rfl (fun ls hl => ?_)
  have frE_5 := fr
  have J_5 : ∀ n5 : Nat, ∀ (j5_3 : Int32) (ij5_3 : Iv j5_3 0 0) (j5_4 : Int32) (ij5_4 : Iv j5_4 0 2147483647), ∀ (σ_5 : oSt) (H : Heap) (locs : List Loc), oI A L τ cy D s.heap σ_5 H locs → oFr τ fs_X9_passMany ts_X9_passMany σ σ_5 → (2147483647 - j5_4.toInt).toNat < n5 → ∀ (ls : Array Slot), lv_has ls 5 [(0, .ref a0), (1, .ref a1), (2, .int a2), (3, .int j5_3), (4, .int j5_4)] → W p l e ({ frames := 4, cells := 0, slots := 0, locals := 94 } : Room) s m args below meth c H locs 0 0 Q (F0 m 5 ls []) := by
    intro n5
    induction n5 with
    | zero => intro j5_3 ij5_3 j5_4 ij5_4 σ_5 H locs hw fr   hn_5   ls hl; exact absurd hn_5 (Nat.not_lt_zero _)
    | succ n5 ih_5 =>
      intro j5_3 ij5_3 j5_4 ij5_4 σ_5 H locs hw fr   hn_5   ls hl
      have fr_5 := fr
      refine lv_iload hx hb dX9_passMany_5 (lv_at hl 4 rfl) ?_
      refine lv_iload_n hx hb dX9_passMany_7 rfl (lv_at hl 2 rfl) ?_
      refine lv_icmp_ge (tgt := 25) hx hb dX9_passMany_8 (by decide) (fun c1 => ?_) (fun c1 => ?_)
      · --
        refine lv_iload_n hx hb dX9_passMany_25 rfl (lv_at hl 3 rfl) ?_
        rw [← hQ]
        exact o_ri cx rx hw dX9_passMany_26 ⟨fr, (iv_w ij5_3 (by decide))⟩
      · --
        have i2 : Iv j5_4 0 2147483646 := iv_lt1 (iv_nle c1) ij5_4 (iv_top a2) (by decide)
        have i3 : Iv a2 1 2147483647 := iv_lt2 (iv_nle c1) ij5_4 (iv_top a2) (by decide)
        refine lv_iload_n hx hb dX9_passMany_11 rfl (lv_at hl 3 rfl) ?_
        refine lv_aload_n hx hb dX9_passMany_12 rfl (lv_at hl 0 rfl) ?_
        refine lv_aload_n hx hb dX9_passMany_13 rfl (lv_at hl 1 rfl) ?_
        refine o_ci hw (oRunV cx hA hw q_X9_pass k_m_X9_79 rfl ha0 (by decide) (As := [.ref a1]) (c_X9_pass a0 ha0 a1 ha1 (hz_fr hz fr (by decide))) (by decide) rfl hl.1 rfl (Nat.le_of_ble_eq_true rfl) dX9_passMany_14 (by decide)) (fun v5 σ4 H locs hp hw => ?_)
        obtain ⟨p5_0, p5_1⟩ := hp
        have fr := oFr_tr fr p5_0 (by decide)
        refine lv_iadd hx hb dX9_passMany_17 ?_
        refine lv_topi (fun v6 e6 => ?_)
        have i6 : Iv v6 0 0 := iv_add e6 ij5_3 p5_1 (by decide)
        have x6 : v6.toInt = j5_3.toInt + v5.toInt := ex_add e6 ij5_3 p5_1 (by decide)
        refine lv_istore_n (lv' := [(3, .int v6), (0, .ref a0), (1, .ref a1), (2, .int a2), (4, .int j5_4)]) hx hb dX9_passMany_18 rfl hl (by decide) rfl (fun ls hl => ?_)
        obtain ⟨v7, e7⟩ : ∃ y : Int32, y = j5_4 + 1 := ⟨_, rfl⟩
        have i7 : Iv v7 1 2147483647 := iv_add e7 i2 (⟨by decide, by decide⟩ : Iv 1 1 1) (by decide)
        have x7 : v7.toInt = j5_4.toInt + 1 := ex_add e7 i2 (⟨by decide, by decide⟩ : Iv 1 1 1) (by decide)
        refine lv_iinc (v := v7) (lv' := [(4, .int v7), (3, .int v6), (0, .ref a0), (1, .ref a1), (2, .int a2)]) hx hb dX9_passMany_19 hl (k := 4) rfl (by rw [e7]; rfl) (by decide) rfl (fun ls hl => ?_)
        refine lv_goto (tgt := 5) hx hb dX9_passMany_22 (by decide) ?_
        exact ih_5 v6 i6 v7 (iv_w i7 (by decide)) σ4 _ _ hw fr (ms_up x7 (by decide) (iv_w (a' := 0) (b' := 2147483647) i7 (by decide)).2 hn_5) _ (lv_sub hl [2, 3, 4, 1, 0] rfl)
  exact J_5 _ 0 (⟨by decide, by decide⟩ : Iv 0 0 0) 0 (iv_w (⟨by decide, by decide⟩ : Iv 0 0 0) (by decide)) σ _ _ hw fr (Nat.lt_succ_self _) _ (lv_sub hl [2, 3, 4, 1, 0] rfl)
abbrev fs_X10_faultOfDay : List Nat := [386, 387]
abbrev ts_X10_faultOfDay : List Nat := []
set_option maxHeartbeats 4000000 in
set_option maxRecDepth 100000 in
theorem c_X10_faultOfDay (a0 : Nat) (ha0 : oA L τ a0 9) (hb576_385 : ∀ b, σ.2.2.2.2 576 a0 = some b → Iv (σ.1 385 b) 0 0) : oMet l A L τ cy D K yX10_faultOfDay cX10_faultOfDay 2 (some .int) 2 40 [.ref a0] σ (va_Qi (fun r σ1 => oFr τ fs_X10_faultOfDay ts_X10_faultOfDay σ σ1 ∧ Iv r 0 0) (oPo A L τ cy D) A) := by
  refine oMk (by decide) (Nat.le_of_ble_eq_true rfl) rfl ?_
  intro p e s m args below meth c ls cx rx hA hw hl
  generalize hQ : MQ below _ args s 0 0 A = Q
  have hx := cx.1.1
  have hb := cx.1.2.1
  have hml := cx.1.2.2.1
  have hown := cx.1.2.2.2.1
  have hts := cx.1.2.2.2.2
  have hl : lv_has ls 2 [(0, .ref a0)] := hl
  have fr : oFr τ fs_X10_faultOfDay ts_X10_faultOfDay σ σ := oFr_rf
  obtain ⟨b576, hF576, hb576⟩ := hw.2.2.2.2.2 576 a0 6 (by rw [ha0.2]; rfl) ha0.1
  have zb576_385 := hb576_385 b576 hF576
  refine lv_aload_n hx hb dX10_faultOfDay_0 rfl (lv_at hl 0 rfl) ?_
  refine g_576 cx hw ha0 k_f_X10_10 dX10_faultOfDay_1 (fun v1 e1 h1 => ?_)
  rw [show v1 = b576 from Option.some.inj (e1.symm.trans (hF576))]
  refine lv_bipush (v := 60) hx hb dX10_faultOfDay_4 (by decide) ?_
  refine o_cv hw (oRunV cx hA hw q_X7_begin k_m_X10_220 rfl hb576 (by decide) (As := [.int 60]) (c_X7_begin b576 hb576 60) (by decide) rfl hl.1 rfl (Nat.le_of_ble_eq_true rfl) dX10_faultOfDay_6 (by decide)) (fun σ2 H locs hp hw => ?_)
  obtain ⟨p3_0, p3_1⟩ := hp
  have fr := oFr_tr fr p3_0 (by decide)
  refine lv_aload_n hx hb dX10_faultOfDay_9 rfl (lv_at hl 0 rfl) ?_
  refine g_576 cx hw ha0 k_f_X10_10 dX10_faultOfDay_10 (fun v4 e4 h4 => ?_)
  rw [show v4 = b576 from Option.some.inj (e4.symm.trans (((kr_c p3_0 (by decide)).trans hF576)))]
  have z5 : (σ2.1 385 b576).toInt = ((σ.1 385 b576) : Int32).toInt := congrArg Int32.toInt (show σ2.1 385 b576 = (σ.1 385 b576) from ((kp_c p3_0 (by decide)).trans rfl))
  have te6 : tC (oRw σ2 384 b576) (σ2.1 385 b576).toInt (σ2.1 387 b576).toInt (σ2.1 386 b576).toInt = -1 := tC_e (by have := (zb576_385).1; have := (zb576_385).2; have : (σ2.1 385 b576).toInt = ((σ.1 385 b576) : Int32).toInt := congrArg Int32.toInt (show σ2.1 385 b576 = (σ.1 385 b576) from ((kp_c p3_0 (by decide)).trans rfl)); have : (60 : Int32).toInt = 60 := (by decide); omega)
  refine o_ci hw (oRunV cx hA hw q_X7_isAtEnd k_m_X10_224 rfl hb576 (by decide) (As := []) (c_X7_isAtEnd b576 hb576) (by decide) rfl hl.1 rfl (Nat.le_of_ble_eq_true rfl) dX10_faultOfDay_13 (by decide)) (fun v8 σ7 H locs hp hw => ?_)
  obtain ⟨p8_0, p8_1, p8_2⟩ := hp
  rw [p8_0] at hw
  have i9 : Iv v8 1 1 := (by have := (p8_1).1; have := (p8_1).2; have := (zb576_385).1; have := (zb576_385).2; have : (σ2.1 385 b576).toInt = ((σ.1 385 b576) : Int32).toInt := congrArg Int32.toInt (show σ2.1 385 b576 = (σ.1 385 b576) from ((kp_c p3_0 (by decide)).trans rfl)); have : (60 : Int32).toInt = 60 := (by decide); exact ⟨by omega, by omega⟩)
  refine lv_if_eq (tgt := 21) hx hb dX10_faultOfDay_16 (by decide) (fun c10 => ?_) (fun c10 => ?_)
  · --
    exact iv_no (iv_eq1 (lo := 1) (hi := 0) c10 i9 (⟨by decide, by decide⟩ : Iv 0 0 0) (by decide)) (by decide)
  · --
    refine lv_iconst (v := 0) hx hb dX10_faultOfDay_19 (by decide) ?_
    rw [← hQ]
    exact o_ri cx rx hw dX10_faultOfDay_20 ⟨fr, (iv_w (⟨by decide, by decide⟩ : Iv 0 0 0) (by decide))⟩
abbrev fs_X10_perform : List Nat := [331]
abbrev ts_X10_perform : List Nat := []
set_option maxHeartbeats 4000000 in
set_option maxRecDepth 100000 in
theorem c_X10_perform (a0 : Nat) (ha0 : oA L τ a0 9) (a1 : Int32) (hz : HZ L τ σ) : oMet l A L τ cy D K yX10_perform cX10_perform 4 (some .int) 5 118 [.ref a0, .int a1] σ (va_Qi (fun r σ1 => oFr τ fs_X10_perform ts_X10_perform σ σ1 ∧ Iv r (-1) 0) (oPo A L τ cy D) A) := by
  refine oMk (by decide) (Nat.le_of_ble_eq_true rfl) rfl ?_
  intro p e s m args below meth c ls cx rx hA hw hl
  generalize hQ : MQ below _ args s 0 0 A = Q
  have hx := cx.1.1
  have hb := cx.1.2.1
  have hml := cx.1.2.2.1
  have hown := cx.1.2.2.2.1
  have hts := cx.1.2.2.2.2
  have hl : lv_has ls 4 [(0, .ref a0), (1, .int a1)] := hl
  have fr : oFr τ fs_X10_perform ts_X10_perform σ σ := oFr_rf
  refine lv_iload_n hx hb dX10_perform_0 rfl (lv_at hl 1 rfl) ?_
  refine lv_bipush (v := 6) hx hb dX10_perform_1 (by decide) ?_
  refine lv_ishr hx hb dX10_perform_3 ?_
  refine lv_topi (fun v1 e1 => ?_)
  refine lv_bipush (v := 15) hx hb dX10_perform_4 (by decide) ?_
  refine lv_iand hx hb dX10_perform_6 ?_
  refine lv_topi (fun v2 e2 => ?_)
  have i2 : Iv v2 0 15 := iv_and e2 (⟨by decide, by decide⟩ : Iv 15 15 15) (by decide)
  refine lv_istore_n (lv' := [(2, .int v2), (0, .ref a0), (1, .int a1)]) hx hb dX10_perform_7 rfl hl (by decide) rfl (fun ls hl => ?_)
  refine lv_iload_n hx hb dX10_perform_8 rfl (lv_at hl 2 rfl) ?_
  refine lv_bipush (v := 63) hx hb dX10_perform_9 (by decide) ?_
  refine lv_iand hx hb dX10_perform_11 ?_
  refine lv_topi (fun v3 e3 => ?_)
  have i3 : Iv v3 0 63 := iv_and e3 (⟨by decide, by decide⟩ : Iv 63 63 63) (by decide)
  refine lv_istore_n (lv' := [(3, .int v3), (2, .int v2), (0, .ref a0), (1, .int a1)]) hx hb dX10_perform_12 rfl hl (by decide) rfl (fun ls hl => ?_)
  refine lv_iload_n hx hb dX10_perform_13 rfl (lv_at hl 3 rfl) ?_
  refine lv_bipush (v := 10) hx hb dX10_perform_14 (by decide) ?_
  refine lv_ishr hx hb dX10_perform_16 ?_
  refine lv_topi (fun v4 e4 => ?_)
  by_cases q5 : v4 = 99
  · --
    refine lv_tableIn (tgt := 164) hx hb dX10_perform_17 (by rw [q5]; decide) (by rw [q5]; decide) (by rw [q5]; rfl) (by decide) ?_
    have i6 : Iv v4 99 99 := iv_eq1 q5 (iv_top v4) (⟨by decide, by decide⟩ : Iv 99 99 99) (by decide)
    refine lv_iconst (v := 0) hx hb dX10_perform_164 (by decide) ?_
    refine lv_aload_n hx hb dX10_perform_165 rfl (lv_at hl 2 rfl) ?_
    refine lv_iload_n hx hb dX10_perform_166 rfl (lv_at hl 1 rfl) ?_
    refine lv_iconst (v := 0) hx hb dX10_perform_167 (by decide) ?_
    refine o_ci hw (oRunV cx hA hw q_X10_turn k_m_X10_263 rfl ha0 (by decide) (As := [.int v2, .int 0]) (c_X10_turn a0 ha0 v2 0) (by decide) rfl hl.1 rfl (Nat.le_of_ble_eq_true rfl) dX10_perform_168 (by decide)) (fun v8 σ7 H locs hp hw => ?_)
    obtain ⟨p8_0, p8_1⟩ := hp
    rw [p8_0] at hw
    refine va_mmin hx hb (hml.trans hl.1.symm) hown (hts _ k_m_X10_212) (hts _ k_s_J9_min_7cf53) (hts _ k_i_J9) (hts _ k_code_J9_min_7cf53) (by decide) (Nat.le_of_ble_eq_true rfl) (by decide) (by decide) dX10_perform_171 ?_
    refine lv_topi (fun v9 e9 => ?_)
    have i9 : Iv v9 (-1) (-1) := iv_min e9 (⟨by decide, by decide⟩ : Iv 0 0 0) p8_1 (by decide)
    rw [← hQ]
    exact o_ri cx rx hw dX10_perform_174 ⟨fr, (iv_w i9 (by decide))⟩
  by_cases q10 : v4 = 100
  · --
    refine lv_tableIn (tgt := 175) hx hb dX10_perform_17 (by rw [q10]; decide) (by rw [q10]; decide) (by rw [q10]; rfl) (by decide) ?_
    have i11 : Iv v4 100 100 := iv_eq1 q10 (iv_top v4) (⟨by decide, by decide⟩ : Iv 100 100 100) (by decide)
    refine lv_iconst (v := 0) hx hb dX10_perform_175 (by decide) ?_
    refine lv_aload_n hx hb dX10_perform_176 rfl (lv_at hl 2 rfl) ?_
    refine lv_iload_n hx hb dX10_perform_177 rfl (lv_at hl 1 rfl) ?_
    refine lv_iload_n hx hb dX10_perform_178 rfl (lv_at hl 0 rfl) ?_
    refine o_ci hw (oRunV cx hA hw q_X10_chase k_m_X10_266 rfl ha0 (by decide) (As := [.int v2, .int v3]) (c_X10_chase a0 ha0 v2 v3 hz) (by decide) rfl hl.1 rfl (Nat.le_of_ble_eq_true rfl) dX10_perform_179 (by decide)) (fun v13 σ12 H locs hp hw => ?_)
    obtain ⟨p13_0, p13_1⟩ := hp
    rw [p13_0] at hw
    refine va_mmin hx hb (hml.trans hl.1.symm) hown (hts _ k_m_X10_212) (hts _ k_s_J9_min_7cf53) (hts _ k_i_J9) (hts _ k_code_J9_min_7cf53) (by decide) (Nat.le_of_ble_eq_true rfl) (by decide) (by decide) dX10_perform_182 ?_
    refine lv_topi (fun v14 e14 => ?_)
    have i14 : Iv v14 (-1) (-1) := iv_min e14 (⟨by decide, by decide⟩ : Iv 0 0 0) p13_1 (by decide)
    rw [← hQ]
    exact o_ri cx rx hw dX10_perform_185 ⟨fr, (iv_w i14 (by decide))⟩
  by_cases q15 : v4 = 101
  · --
    refine lv_tableIn (tgt := 186) hx hb dX10_perform_17 (by rw [q15]; decide) (by rw [q15]; decide) (by rw [q15]; rfl) (by decide) ?_
    have i16 : Iv v4 101 101 := iv_eq1 q15 (iv_top v4) (⟨by decide, by decide⟩ : Iv 101 101 101) (by decide)
    refine lv_iconst (v := (-1)) hx hb dX10_perform_186 (by decide) ?_
    rw [← hQ]
    exact o_ri cx rx hw dX10_perform_187 ⟨fr, (iv_w (⟨by decide, by decide⟩ : Iv (-1) (-1) (-1)) (by decide))⟩
  by_cases q17 : v4 = 102
  · --
    refine lv_tableIn (tgt := 186) hx hb dX10_perform_17 (by rw [q17]; decide) (by rw [q17]; decide) (by rw [q17]; rfl) (by decide) ?_
    have i18 : Iv v4 102 102 := iv_eq1 q17 (iv_top v4) (⟨by decide, by decide⟩ : Iv 102 102 102) (by decide)
    refine lv_iconst (v := (-1)) hx hb dX10_perform_186 (by decide) ?_
    rw [← hQ]
    exact o_ri cx rx hw dX10_perform_187 ⟨fr, (iv_w (⟨by decide, by decide⟩ : Iv (-1) (-1) (-1)) (by decide))⟩
  by_cases q19 : v4 = 103
  · --
    refine lv_tableIn (tgt := 186) hx hb dX10_perform_17 (by rw [q19]; decide) (by rw [q19]; decide) (by rw [q19]; rfl) (by decide) ?_
    have i20 : Iv v4 103 103 := iv_eq1 q19 (iv_top v4) (⟨by decide, by decide⟩ : Iv 103 103 103) (by decide)
    refine lv_iconst (v := (-1)) hx hb dX10_perform_186 (by decide) ?_
    rw [← hQ]
    exact o_ri cx rx hw dX10_perform_187 ⟨fr, (iv_w (⟨by decide, by decide⟩ : Iv (-1) (-1) (-1)) (by decide))⟩
  by_cases q21 : v4 = 104
  · --
    refine lv_tableIn (tgt := 104) hx hb dX10_perform_17 (by rw [q21]; decide) (by rw [q21]; decide) (by rw [q21]; rfl) (by decide) ?_
    have i22 : Iv v4 104 104 := iv_eq1 q21 (iv_top v4) (⟨by decide, by decide⟩ : Iv 104 104 104) (by decide)
    refine lv_aload_n hx hb dX10_perform_104 rfl (lv_at hl 2 rfl) ?_
    refine g_580 cx hw ha0 k_f_X10_42 dX10_perform_105 (fun v23 e23 h23 => ?_)
    refine lv_aload_n hx hb dX10_perform_108 rfl (lv_at hl 2 rfl) ?_
    refine g_581 cx hw ha0 k_f_X10_49 dX10_perform_109 (fun v24 e24 h24 => ?_)
    refine lv_iload_n hx hb dX10_perform_112 rfl (lv_at hl 1 rfl) ?_
    refine o_ci hw (oRunV cx hA hw q_X9_passMany k_m_X10_276 rfl h23 (by decide) (As := [.ref v24, .int v2]) (c_X9_passMany v23 h23 v24 h24 v2 hz) (by decide) rfl hl.1 rfl (Nat.le_of_ble_eq_true rfl) dX10_perform_113 (by decide)) (fun v26 σ25 H locs hp hw => ?_)
    obtain ⟨p26_0, p26_1⟩ := hp
    have fr := oFr_tr fr p26_0 (by decide)
    rw [← hQ]
    exact o_ri cx rx hw dX10_perform_116 ⟨fr, (iv_w p26_1 (by decide))⟩
  by_cases q27 : v4 = 105
  · --
    refine lv_tableIn (tgt := 186) hx hb dX10_perform_17 (by rw [q27]; decide) (by rw [q27]; decide) (by rw [q27]; rfl) (by decide) ?_
    have i28 : Iv v4 105 105 := iv_eq1 q27 (iv_top v4) (⟨by decide, by decide⟩ : Iv 105 105 105) (by decide)
    refine lv_iconst (v := (-1)) hx hb dX10_perform_186 (by decide) ?_
    rw [← hQ]
    exact o_ri cx rx hw dX10_perform_187 ⟨fr, (iv_w (⟨by decide, by decide⟩ : Iv (-1) (-1) (-1)) (by decide))⟩
  by_cases q29 : v4 = 106
  · --
    refine lv_tableIn (tgt := 186) hx hb dX10_perform_17 (by rw [q29]; decide) (by rw [q29]; decide) (by rw [q29]; rfl) (by decide) ?_
    have i30 : Iv v4 106 106 := iv_eq1 q29 (iv_top v4) (⟨by decide, by decide⟩ : Iv 106 106 106) (by decide)
    refine lv_iconst (v := (-1)) hx hb dX10_perform_186 (by decide) ?_
    rw [← hQ]
    exact o_ri cx rx hw dX10_perform_187 ⟨fr, (iv_w (⟨by decide, by decide⟩ : Iv (-1) (-1) (-1)) (by decide))⟩
  by_cases q31 : v4 = 107
  · --
    refine lv_tableIn (tgt := 186) hx hb dX10_perform_17 (by rw [q31]; decide) (by rw [q31]; decide) (by rw [q31]; rfl) (by decide) ?_
    have i32 : Iv v4 107 107 := iv_eq1 q31 (iv_top v4) (⟨by decide, by decide⟩ : Iv 107 107 107) (by decide)
    refine lv_iconst (v := (-1)) hx hb dX10_perform_186 (by decide) ?_
    rw [← hQ]
    exact o_ri cx rx hw dX10_perform_187 ⟨fr, (iv_w (⟨by decide, by decide⟩ : Iv (-1) (-1) (-1)) (by decide))⟩
  by_cases q33 : v4 = 108
  · --
    refine lv_tableIn (tgt := 186) hx hb dX10_perform_17 (by rw [q33]; decide) (by rw [q33]; decide) (by rw [q33]; rfl) (by decide) ?_
    have i34 : Iv v4 108 108 := iv_eq1 q33 (iv_top v4) (⟨by decide, by decide⟩ : Iv 108 108 108) (by decide)
    refine lv_iconst (v := (-1)) hx hb dX10_perform_186 (by decide) ?_
    rw [← hQ]
    exact o_ri cx rx hw dX10_perform_187 ⟨fr, (iv_w (⟨by decide, by decide⟩ : Iv (-1) (-1) (-1)) (by decide))⟩
  by_cases q35 : v4 = 109
  · --
    refine lv_tableIn (tgt := 186) hx hb dX10_perform_17 (by rw [q35]; decide) (by rw [q35]; decide) (by rw [q35]; rfl) (by decide) ?_
    have i36 : Iv v4 109 109 := iv_eq1 q35 (iv_top v4) (⟨by decide, by decide⟩ : Iv 109 109 109) (by decide)
    refine lv_iconst (v := (-1)) hx hb dX10_perform_186 (by decide) ?_
    rw [← hQ]
    exact o_ri cx rx hw dX10_perform_187 ⟨fr, (iv_w (⟨by decide, by decide⟩ : Iv (-1) (-1) (-1)) (by decide))⟩
  by_cases q37 : v4 = 110
  · --
    refine lv_tableIn (tgt := 186) hx hb dX10_perform_17 (by rw [q37]; decide) (by rw [q37]; decide) (by rw [q37]; rfl) (by decide) ?_
    have i38 : Iv v4 110 110 := iv_eq1 q37 (iv_top v4) (⟨by decide, by decide⟩ : Iv 110 110 110) (by decide)
    refine lv_iconst (v := (-1)) hx hb dX10_perform_186 (by decide) ?_
    rw [← hQ]
    exact o_ri cx rx hw dX10_perform_187 ⟨fr, (iv_w (⟨by decide, by decide⟩ : Iv (-1) (-1) (-1)) (by decide))⟩
  by_cases q39 : v4 = 111
  · --
    refine lv_tableIn (tgt := 153) hx hb dX10_perform_17 (by rw [q39]; decide) (by rw [q39]; decide) (by rw [q39]; rfl) (by decide) ?_
    have i40 : Iv v4 111 111 := iv_eq1 q39 (iv_top v4) (⟨by decide, by decide⟩ : Iv 111 111 111) (by decide)
    refine lv_iconst (v := 0) hx hb dX10_perform_153 (by decide) ?_
    refine lv_aload_n hx hb dX10_perform_154 rfl (lv_at hl 2 rfl) ?_
    refine lv_iload_n hx hb dX10_perform_155 rfl (lv_at hl 1 rfl) ?_
    refine lv_iconst (v := 1) hx hb dX10_perform_156 (by decide) ?_
    refine o_ci hw (oRunV cx hA hw q_X10_turn k_m_X10_263 rfl ha0 (by decide) (As := [.int v2, .int 1]) (c_X10_turn a0 ha0 v2 1) (by decide) rfl hl.1 rfl (Nat.le_of_ble_eq_true rfl) dX10_perform_157 (by decide)) (fun v42 σ41 H locs hp hw => ?_)
    obtain ⟨p42_0, p42_1⟩ := hp
    rw [p42_0] at hw
    refine va_mmin hx hb (hml.trans hl.1.symm) hown (hts _ k_m_X10_212) (hts _ k_s_J9_min_7cf53) (hts _ k_i_J9) (hts _ k_code_J9_min_7cf53) (by decide) (Nat.le_of_ble_eq_true rfl) (by decide) (by decide) dX10_perform_160 ?_
    refine lv_topi (fun v43 e43 => ?_)
    have i43 : Iv v43 (-1) (-1) := iv_min e43 (⟨by decide, by decide⟩ : Iv 0 0 0) p42_1 (by decide)
    rw [← hQ]
    exact o_ri cx rx hw dX10_perform_163 ⟨fr, (iv_w i43 (by decide))⟩
  by_cases q44 : v4 = 112
  · --
    refine lv_tableIn (tgt := 186) hx hb dX10_perform_17 (by rw [q44]; decide) (by rw [q44]; decide) (by rw [q44]; rfl) (by decide) ?_
    have i45 : Iv v4 112 112 := iv_eq1 q44 (iv_top v4) (⟨by decide, by decide⟩ : Iv 112 112 112) (by decide)
    refine lv_iconst (v := (-1)) hx hb dX10_perform_186 (by decide) ?_
    rw [← hQ]
    exact o_ri cx rx hw dX10_perform_187 ⟨fr, (iv_w (⟨by decide, by decide⟩ : Iv (-1) (-1) (-1)) (by decide))⟩
  by_cases q46 : v4 = 113
  · --
    refine lv_tableIn (tgt := 186) hx hb dX10_perform_17 (by rw [q46]; decide) (by rw [q46]; decide) (by rw [q46]; rfl) (by decide) ?_
    have i47 : Iv v4 113 113 := iv_eq1 q46 (iv_top v4) (⟨by decide, by decide⟩ : Iv 113 113 113) (by decide)
    refine lv_iconst (v := (-1)) hx hb dX10_perform_186 (by decide) ?_
    rw [← hQ]
    exact o_ri cx rx hw dX10_perform_187 ⟨fr, (iv_w (⟨by decide, by decide⟩ : Iv (-1) (-1) (-1)) (by decide))⟩
  by_cases q48 : v4 = 114
  · --
    refine lv_tableIn (tgt := 186) hx hb dX10_perform_17 (by rw [q48]; decide) (by rw [q48]; decide) (by rw [q48]; rfl) (by decide) ?_
    have i49 : Iv v4 114 114 := iv_eq1 q48 (iv_top v4) (⟨by decide, by decide⟩ : Iv 114 114 114) (by decide)
    refine lv_iconst (v := (-1)) hx hb dX10_perform_186 (by decide) ?_
    rw [← hQ]
    exact o_ri cx rx hw dX10_perform_187 ⟨fr, (iv_w (⟨by decide, by decide⟩ : Iv (-1) (-1) (-1)) (by decide))⟩
  by_cases q50 : v4 = 115
  · --
    refine lv_tableIn (tgt := 117) hx hb dX10_perform_17 (by rw [q50]; decide) (by rw [q50]; decide) (by rw [q50]; rfl) (by decide) ?_
    have i51 : Iv v4 115 115 := iv_eq1 q50 (iv_top v4) (⟨by decide, by decide⟩ : Iv 115 115 115) (by decide)
    refine lv_iconst (v := 0) hx hb dX10_perform_117 (by decide) ?_
    refine lv_aload_n hx hb dX10_perform_118 rfl (lv_at hl 2 rfl) ?_
    refine lv_aload_n hx hb dX10_perform_119 rfl (lv_at hl 2 rfl) ?_
    refine g_581 cx hw ha0 k_f_X10_49 dX10_perform_120 (fun v52 e52 h52 => ?_)
    refine g_321 cx hw h52 k_f_X10_148 dX10_perform_123 (fun v53 e53 h53 => ?_)
    refine lv_iload_n hx hb dX10_perform_126 rfl (lv_at hl 0 rfl) ?_
    refine lv_iload_n hx hb dX10_perform_127 rfl (lv_at hl 1 rfl) ?_
    refine o_ci hw (oRunV cx hA hw q_X10_lay k_m_X10_257 rfl ha0 (by decide) (As := [.ref v53, .int v3, .int v2]) (c_X10_lay a0 ha0 v53 h53 v3 v2 hz) (by decide) rfl hl.1 rfl (Nat.le_of_ble_eq_true rfl) dX10_perform_128 (by decide)) (fun v55 σ54 H locs hp hw => ?_)
    obtain ⟨p55_0, p55_1⟩ := hp
    rw [p55_0] at hw
    refine va_mmin hx hb (hml.trans hl.1.symm) hown (hts _ k_m_X10_212) (hts _ k_s_J9_min_7cf53) (hts _ k_i_J9) (hts _ k_code_J9_min_7cf53) (by decide) (Nat.le_of_ble_eq_true rfl) (by decide) (by decide) dX10_perform_131 ?_
    refine lv_topi (fun v56 e56 => ?_)
    have i56 : Iv v56 (-1) (-1) := iv_min e56 (⟨by decide, by decide⟩ : Iv 0 0 0) p55_1 (by decide)
    rw [← hQ]
    exact o_ri cx rx hw dX10_perform_134 ⟨fr, (iv_w i56 (by decide))⟩
  by_cases q57 : v4 = 116
  · --
    refine lv_tableIn (tgt := 135) hx hb dX10_perform_17 (by rw [q57]; decide) (by rw [q57]; decide) (by rw [q57]; rfl) (by decide) ?_
    have i58 : Iv v4 116 116 := iv_eq1 q57 (iv_top v4) (⟨by decide, by decide⟩ : Iv 116 116 116) (by decide)
    refine lv_iconst (v := 0) hx hb dX10_perform_135 (by decide) ?_
    refine lv_aload_n hx hb dX10_perform_136 rfl (lv_at hl 2 rfl) ?_
    refine lv_aload_n hx hb dX10_perform_137 rfl (lv_at hl 2 rfl) ?_
    refine g_581 cx hw ha0 k_f_X10_49 dX10_perform_138 (fun v59 e59 h59 => ?_)
    refine g_322 cx hw h59 k_f_X10_151 dX10_perform_141 (fun v60 e60 h60 => ?_)
    refine lv_iload_n hx hb dX10_perform_144 rfl (lv_at hl 0 rfl) ?_
    refine lv_iload_n hx hb dX10_perform_145 rfl (lv_at hl 1 rfl) ?_
    refine o_ci hw (oRunV cx hA hw q_X10_lay k_m_X10_257 rfl ha0 (by decide) (As := [.ref v60, .int v3, .int v2]) (c_X10_lay a0 ha0 v60 h60 v3 v2 hz) (by decide) rfl hl.1 rfl (Nat.le_of_ble_eq_true rfl) dX10_perform_146 (by decide)) (fun v62 σ61 H locs hp hw => ?_)
    obtain ⟨p62_0, p62_1⟩ := hp
    rw [p62_0] at hw
    refine va_mmin hx hb (hml.trans hl.1.symm) hown (hts _ k_m_X10_212) (hts _ k_s_J9_min_7cf53) (hts _ k_i_J9) (hts _ k_code_J9_min_7cf53) (by decide) (Nat.le_of_ble_eq_true rfl) (by decide) (by decide) dX10_perform_149 ?_
    refine lv_topi (fun v63 e63 => ?_)
    have i63 : Iv v63 (-1) (-1) := iv_min e63 (⟨by decide, by decide⟩ : Iv 0 0 0) p62_1 (by decide)
    rw [← hQ]
    exact o_ri cx rx hw dX10_perform_152 ⟨fr, (iv_w i63 (by decide))⟩
  have q5 := iv_nt q5 (k := 99) (by decide)
  have q10 := iv_nt q10 (k := 100) (by decide)
  have q15 := iv_nt q15 (k := 101) (by decide)
  have q17 := iv_nt q17 (k := 102) (by decide)
  have q19 := iv_nt q19 (k := 103) (by decide)
  have q21 := iv_nt q21 (k := 104) (by decide)
  have q27 := iv_nt q27 (k := 105) (by decide)
  have q29 := iv_nt q29 (k := 106) (by decide)
  have q31 := iv_nt q31 (k := 107) (by decide)
  have q33 := iv_nt q33 (k := 108) (by decide)
  have q35 := iv_nt q35 (k := 109) (by decide)
  have q37 := iv_nt q37 (k := 110) (by decide)
  have q39 := iv_nt q39 (k := 111) (by decide)
  have q44 := iv_nt q44 (k := 112) (by decide)
  have q46 := iv_nt q46 (k := 113) (by decide)
  have q48 := iv_nt q48 (k := 114) (by decide)
  have q50 := iv_nt q50 (k := 115) (by decide)
  have q57 := iv_nt q57 (k := 116) (by decide)
  refine lv_tableOut (tgt := 186) hx hb dX10_perform_17 (by omega) (by decide) ?_
  refine lv_iconst (v := (-1)) hx hb dX10_perform_186 (by decide) ?_
  rw [← hQ]
  exact o_ri cx rx hw dX10_perform_187 ⟨fr, (iv_w (⟨by decide, by decide⟩ : Iv (-1) (-1) (-1)) (by decide))⟩
set_option maxHeartbeats 4000000 in
set_option maxRecDepth 100000 in
theorem c_X3_bringBackZ (a0 : Nat) (ha0 : oA L τ a0 2) (a1 : Nat) (ha1 : oA L τ a1 5) (hf130 : Iv (σ.1 130 a0) 0 0) : oMet l A L τ cy D K yX3_bringBack cX3_bringBack 2 (some .boolean) 0 0 [.ref a0, .ref a1] σ (va_Qi (fun r σ1 => σ1 = σ ∧ Iv r 0 0) (oPo A L τ cy D) A) := by
  refine oMk (by decide) (Nat.le_of_ble_eq_true rfl) rfl ?_
  intro p e s m args below meth c ls cx rx hA hw hl
  generalize hQ : MQ below _ args s 0 0 A = Q
  have hx := cx.1.1
  have hb := cx.1.2.1
  have hml := cx.1.2.2.1
  have hown := cx.1.2.2.2.1
  have hts := cx.1.2.2.2.2
  have hl : lv_has ls 2 [(0, .ref a0), (1, .ref a1)] := hl
  refine lv_aload_n hx hb dX3_bringBack_0 rfl (lv_at hl 0 rfl) ?_
  refine g_130 cx hw ha0 k_f_X3_16 dX3_bringBack_1 (fun v1 e1 i1 => ?_)
  rw [show v1 = (σ.1 130 a0) from e1.trans rfl]
  refine lv_if_ne (tgt := 9) hx hb dX3_bringBack_4 (by decide) (fun c2 => ?_) (fun c2 => ?_)
  · --
    exact iv_no (iv_ne1 c2 hf130 (⟨by decide, by decide⟩ : Iv 0 0 0) (by decide)) (by decide)
  · --
    refine lv_iconst (v := 0) hx hb dX3_bringBack_7 (by decide) ?_
    rw [← hQ]
    exact o_rz cx rx hw (iv_nz01 (iv_w (⟨by decide, by decide⟩ : Iv 0 0 0) (by decide))) dX3_bringBack_8 ⟨rfl, (iv_w (⟨by decide, by decide⟩ : Iv 0 0 0) (by decide))⟩
abbrev fs_X3_bringBack : List Nat := [129, 130, 327, 328, 329, 330, 331]
abbrev ts_X3_bringBack : List Nat := [32, 33, 34, 70]
set_option maxHeartbeats 4000000 in
set_option maxRecDepth 100000 in
theorem c_X3_bringBack (a0 : Nat) (ha0 : oA L τ a0 2) (a1 : Nat) (ha1 : oA L τ a1 5) : oMet l A L τ cy D K yX3_bringBack cX3_bringBack 2 (some .boolean) 2 81 [.ref a0, .ref a1] σ (va_Qi (fun r σ1 => oFr τ fs_X3_bringBack ts_X3_bringBack σ σ1 ∧ Iv r 0 1) (oPo A L τ cy D) A) := by
  refine oMk (by decide) (Nat.le_of_ble_eq_true rfl) rfl ?_
  intro p e s m args below meth c ls cx rx hA hw hl
  generalize hQ : MQ below _ args s 0 0 A = Q
  have hx := cx.1.1
  have hb := cx.1.2.1
  have hml := cx.1.2.2.1
  have hown := cx.1.2.2.2.1
  have hts := cx.1.2.2.2.2
  have hl : lv_has ls 2 [(0, .ref a0), (1, .ref a1)] := hl
  have fr : oFr τ fs_X3_bringBack ts_X3_bringBack σ σ := oFr_rf
  refine lv_aload_n hx hb dX3_bringBack_0 rfl (lv_at hl 0 rfl) ?_
  refine g_130 cx hw ha0 k_f_X3_16 dX3_bringBack_1 (fun v1 e1 i1 => ?_)
  refine lv_if_ne (tgt := 9) hx hb dX3_bringBack_4 (by decide) (fun c2 => ?_) (fun c2 => ?_)
  · --
    have i3 : Iv v1 1 10 := iv_ne1 c2 i1 (⟨by decide, by decide⟩ : Iv 0 0 0) (by decide)
    refine lv_aload_n hx hb dX3_bringBack_9 rfl (lv_at hl 0 rfl) ?_
    refine lv_aload_n hx hb dX3_bringBack_10 rfl (lv_at hl 0 rfl) ?_
    refine g_129 cx hw ha0 k_f_X3_20 dX3_bringBack_11 (fun v4 e4 i4 => ?_)
    refine lv_bipush (v := 10) hx hb dX3_bringBack_14 (by decide) ?_
    refine lv_iadd hx hb dX3_bringBack_16 ?_
    refine lv_topi (fun v5 e5 => ?_)
    have i5 : Iv v5 10 19 := iv_add e5 i4 (⟨by decide, by decide⟩ : Iv 10 10 10) (by decide)
    have x5 : v5.toInt = v4.toInt + 10 := ex_add e5 i4 (⟨by decide, by decide⟩ : Iv 10 10 10) (by decide)
    refine lv_iconst (v := 1) hx hb dX3_bringBack_17 (by decide) ?_
    refine lv_isub hx hb dX3_bringBack_18 ?_
    refine lv_topi (fun v6 e6 => ?_)
    have i6 : Iv v6 9 18 := iv_sub e6 i5 (⟨by decide, by decide⟩ : Iv 1 1 1) (by decide)
    have x6 : v6.toInt = v5.toInt + (-1) := ex_sub e6 i5 (⟨by decide, by decide⟩ : Iv 1 1 1) (by decide)
    refine lv_bipush (v := 10) hx hb dX3_bringBack_19 (by decide) ?_
    refine lv_irem hx hb dX3_bringBack_21 (iv_nz (⟨by decide, by decide⟩ : Iv 10 10 10) (by decide)) ?_
    refine lv_topi (fun v7 e7 => ?_)
    have i7 : Iv v7 0 9 := iv_rem e7 i6 (⟨by decide, by decide⟩ : Iv 10 10 10) (by decide)
    refine p_129 cx hw ha0 (iv_w i7 (by decide)) k_f_X3_20 dX3_bringBack_22 (fun σ8 H locs eσ8 hw => ?_)
    have fr := oFr_i fr eσ8 (by decide)
    refine lv_aload_n hx hb dX3_bringBack_25 rfl (lv_at hl 1 rfl) ?_
    refine lv_aload_n hx hb dX3_bringBack_26 rfl (lv_at hl 0 rfl) ?_
    refine g_128 cx hw ha0 k_f_X3_11 dX3_bringBack_27 (fun v9 e9 h9 => ?_)
    refine lv_aload_n hx hb dX3_bringBack_30 rfl (lv_at hl 0 rfl) ?_
    refine g_129 cx hw ha0 k_f_X3_20 dX3_bringBack_31 (fun v10 e10 i10 => ?_)
    rw [show v10 = v7 from e10.trans (kp_s eσ8)]
    refine o_aald cx hw h9 (by decide) rfl (iv_in i7 (by decide)) (by decide) dX3_bringBack_34 (fun v11 e11 h11 => ?_)
    refine o_cv hw (oRunV cx hA hw q_X6_copyFrom k_m_X3_23 rfl ha1 (by decide) (As := [.ref v11]) (c_X6_copyFrom a1 ha1 v11 h11) (by decide) rfl hl.1 rfl (Nat.le_of_ble_eq_true rfl) dX3_bringBack_35 (by decide)) (fun σ12 H locs hp hw => ?_)
    have p13_0 := hp
    have fr := oFr_tr fr p13_0 (by decide)
    refine lv_aload_n hx hb dX3_bringBack_38 rfl (lv_at hl 0 rfl) ?_
    refine lv_dup hx hb dX3_bringBack_39 rfl ?_
    refine g_130 cx hw ha0 k_f_X3_16 dX3_bringBack_40 (fun v14 e14 i14 => ?_)
    rw [show v14 = v1 from e14.trans ((kp_c p13_0 (by decide)).trans ((kp_i eσ8 (by decide)).trans e1.symm))]
    refine lv_iconst (v := 1) hx hb dX3_bringBack_43 (by decide) ?_
    refine lv_isub hx hb dX3_bringBack_44 ?_
    refine lv_topi (fun v15 e15 => ?_)
    have i15 : Iv v15 0 9 := iv_sub e15 i3 (⟨by decide, by decide⟩ : Iv 1 1 1) (by decide)
    have x15 : v15.toInt = v1.toInt + (-1) := ex_sub e15 i3 (⟨by decide, by decide⟩ : Iv 1 1 1) (by decide)
    refine p_130 cx hw ha0 (iv_w i15 (by decide)) k_f_X3_16 dX3_bringBack_45 (fun σ16 H locs eσ16 hw => ?_)
    have fr := oFr_i fr eσ16 (by decide)
    refine lv_iconst (v := 1) hx hb dX3_bringBack_48 (by decide) ?_
    rw [← hQ]
    exact o_rz cx rx hw (iv_nz01 (iv_w (⟨by decide, by decide⟩ : Iv 1 1 1) (by decide))) dX3_bringBack_49 ⟨fr, (iv_w (⟨by decide, by decide⟩ : Iv 1 1 1) (by decide))⟩
  · --
    have i17 : Iv v1 0 0 := iv_eq1 c2 i1 (⟨by decide, by decide⟩ : Iv 0 0 0) (by decide)
    refine lv_iconst (v := 0) hx hb dX3_bringBack_7 (by decide) ?_
    rw [← hQ]
    exact o_rz cx rx hw (iv_nz01 (iv_w (⟨by decide, by decide⟩ : Iv 0 0 0) (by decide))) dX3_bringBack_8 ⟨fr, (iv_w (⟨by decide, by decide⟩ : Iv 0 0 0) (by decide))⟩
set_option maxHeartbeats 4000000 in
set_option maxRecDepth 100000 in
theorem c_X6_roadCells (a0 : Nat) (ha0 : oA L τ a0 5) (a1 : Int32) : oMet l A L τ cy D K yX6_roadCells cX6_roadCells 5 (some .long) 1 22 [.ref a0, .int a1] σ (va_Ql (fun r σ1 => σ1 = σ ∧ r = 0) (oPo A L τ cy D) A) := by
  refine oMk (by decide) (Nat.le_of_ble_eq_true rfl) rfl ?_
  intro p e s m args below meth c ls cx rx hA hw hl
  generalize hQ : MQ below _ args s 0 0 A = Q
  have hx := cx.1.1
  have hb := cx.1.2.1
  have hml := cx.1.2.2.1
  have hown := cx.1.2.2.2.1
  have hts := cx.1.2.2.2.2
  have hl : lv_has ls 5 [(0, .ref a0), (1, .int a1)] := hl
  refine lv_lconst (v := 0) hx hb dX6_roadCells_0 (by decide) ?_
  refine lv_lstore_n (lv' := [(2, .long 0), (0, .ref a0), (1, .int a1)]) hx hb dX6_roadCells_1 rfl hl (by decide) rfl (fun ls hl => ?_)
  refine lv_iconst (v := 0) hx hb dX6_roadCells_2 (by decide) ?_
  refine lv_istore (lv' := [(4, .int 0), (2, .long 0), (0, .ref a0), (1, .int a1)]) hx hb dX6_roadCells_3 hl (by decide) rfl (fun ls hl => ?_)
  have J_5 : ∀ n5 : Nat, ∀ (j5_4 : Int32) (ij5_4 : Iv j5_4 0 64), ∀ (H : Heap) (locs : List Loc), oI A L τ cy D s.heap σ H locs → (64 - j5_4.toInt).toNat < n5 → ∀ (ls : Array Slot), lv_has ls 5 [(0, .ref a0), (1, .int a1), (2, .long 0), (4, .int j5_4)] → W p l e ({ frames := 1, cells := 0, slots := 0, locals := 22 } : Room) s m args below meth c H locs 0 0 Q (F0 m 5 ls []) := by
    intro n5
    induction n5 with
    | zero => intro j5_4 ij5_4 H locs hw  hn_5   ls hl; exact absurd hn_5 (Nat.not_lt_zero _)
    | succ n5 ih_5 =>
      intro j5_4 ij5_4 H locs hw  hn_5   ls hl
      refine lv_iload hx hb dX6_roadCells_5 (lv_at hl 3 rfl) ?_
      refine lv_bipush (v := 64) hx hb dX6_roadCells_7 (by decide) ?_
      refine lv_icmp_ge (tgt := 36) hx hb dX6_roadCells_9 (by decide) (fun c1 => ?_) (fun c1 => ?_)
      · --
        have i2 : Iv j5_4 64 64 := iv_le2 c1 (⟨by decide, by decide⟩ : Iv 64 64 64) ij5_4 (by decide)
        refine lv_lload_n hx hb dX6_roadCells_36 rfl (lv_at hl 2 rfl) ?_
        rw [← hQ]
        exact o_rl cx rx hw dX6_roadCells_37 ⟨rfl, rfl⟩
      · --
        have i3 : Iv j5_4 0 63 := iv_lt1 (iv_nle c1) ij5_4 (⟨by decide, by decide⟩ : Iv 64 64 64) (by decide)
        refine lv_aload_n hx hb dX6_roadCells_12 rfl (lv_at hl 0 rfl) ?_
        refine lv_iload hx hb dX6_roadCells_13 (lv_at hl 3 rfl) ?_
        refine lv_iload_n hx hb dX6_roadCells_15 rfl (lv_at hl 1 rfl) ?_
        refine o_ci hw (oRunV cx hA hw q_X6_isRoad k_m_X6_65 rfl ha0 (by decide) (As := [.int j5_4, .int a1]) (c_X6_isRoad a0 ha0 j5_4 (iv_w i3 (by decide)) a1) (by decide) rfl hl.1 rfl (Nat.le_of_ble_eq_true rfl) dX6_roadCells_16 (by decide)) (fun v5 σ4 H locs hp hw => ?_)
        obtain ⟨p5_0, p5_1⟩ := hp
        rw [p5_0] at hw
        have J_30 : ∀ (H : Heap) (locs : List Loc), oI A L τ cy D s.heap σ H locs → ∀ (ls : Array Slot), lv_has ls 5 [(0, .ref a0), (1, .int a1), (2, .long 0), (4, .int j5_4)] → W p l e ({ frames := 1, cells := 0, slots := 0, locals := 22 } : Room) s m args below meth c H locs 0 0 Q (F0 m 30 ls []) := by
          intro  H locs hw     ls hl
          obtain ⟨v6, e6⟩ : ∃ y : Int32, y = j5_4 + 1 := ⟨_, rfl⟩
          have i6 : Iv v6 1 64 := iv_add e6 i3 (⟨by decide, by decide⟩ : Iv 1 1 1) (by decide)
          have x6 : v6.toInt = j5_4.toInt + 1 := ex_add e6 i3 (⟨by decide, by decide⟩ : Iv 1 1 1) (by decide)
          refine lv_iinc (v := v6) (lv' := [(4, .int v6), (0, .ref a0), (1, .int a1), (2, .long 0)]) hx hb dX6_roadCells_30 hl (k := 3) rfl (by rw [e6]; rfl) (by decide) rfl (fun ls hl => ?_)
          refine lv_goto (tgt := 5) hx hb dX6_roadCells_33 (by decide) ?_
          exact ih_5 v6 (iv_w i6 (by decide)) _ _ hw (ms_up x6 (by decide) (iv_w (a' := 0) (b' := 64) i6 (by decide)).2 hn_5) _ (lv_sub hl [1, 2, 3, 0] rfl)
        refine lv_if_eq (tgt := 30) hx hb dX6_roadCells_19 (by decide) (fun c7 => ?_) (fun c7 => ?_)
        · --
          exact J_30 _ _ hw _ (lv_sub hl [0, 1, 2, 3] rfl)
        · --
          exact iv_no (iv_ne1 c7 p5_1 (⟨by decide, by decide⟩ : Iv 0 0 0) (by decide)) (by decide)
  exact J_5 _ 0 (iv_w (⟨by decide, by decide⟩ : Iv 0 0 0) (by decide)) _ _ hw (Nat.lt_succ_self _) _ (lv_sub hl [2, 3, 1, 0] rfl)
set_option maxHeartbeats 4000000 in
set_option maxRecDepth 100000 in
theorem c_X10_roadNow (a0 : Nat) (ha0 : oA L τ a0 9) : oMet l A L τ cy D K yX10_roadNow cX10_roadNow 1 (some .long) 2 46 [.ref a0] σ (va_Ql (fun r σ1 => σ1 = σ ∧ r = 0) (oPo A L τ cy D) A) := by
  refine oMk (by decide) (Nat.le_of_ble_eq_true rfl) rfl ?_
  intro p e s m args below meth c ls cx rx hA hw hl
  generalize hQ : MQ below _ args s 0 0 A = Q
  have hx := cx.1.1
  have hb := cx.1.2.1
  have hml := cx.1.2.2.1
  have hown := cx.1.2.2.2.1
  have hts := cx.1.2.2.2.2
  have hl : lv_has ls 1 [(0, .ref a0)] := hl
  refine lv_aload_n hx hb dX10_roadNow_0 rfl (lv_at hl 0 rfl) ?_
  refine g_581 cx hw ha0 k_f_X10_49 dX10_roadNow_1 (fun v1 e1 h1 => ?_)
  refine lv_aload_n hx hb dX10_roadNow_4 rfl (lv_at hl 0 rfl) ?_
  refine g_580 cx hw ha0 k_f_X10_42 dX10_roadNow_5 (fun v2 e2 h2 => ?_)
  refine g_514 cx hw h2 k_f_X10_167 dX10_roadNow_8 (fun v3 e3 => ?_)
  refine o_cl hw (oRunV cx hA hw q_X6_roadCells k_m_X10_370 rfl h1 (by decide) (As := [.int v3]) (c_X6_roadCells v1 h1 v3) (by decide) rfl hl.1 rfl (Nat.le_of_ble_eq_true rfl) dX10_roadNow_11 (by decide)) (fun v5 σ4 H locs hp hw => ?_)
  obtain ⟨p5_0, p5_1⟩ := hp
  rw [p5_0] at hw
  rw [p5_1]
  rw [← hQ]
  exact o_rl cx rx hw dX10_roadNow_14 ⟨rfl, rfl⟩
set_option maxHeartbeats 4000000 in
set_option maxRecDepth 100000 in
theorem c_J6_numberOfTrailingZeros_0f7a4 (a0 : Int32) : oMet l A L τ cy D K yJ6_numberOfTrailingZeros_0f7a4 cJ6_numberOfTrailingZeros_0f7a4 2 (some .int) 0 0 [.int a0] σ (va_Qi (fun r σ1 => σ1 = σ ∧ (r = nz_F a0)) (oPo A L τ cy D) A) := by
  refine oMk (by decide) (Nat.le_of_ble_eq_true rfl) rfl ?_
  intro p e s m args below meth c ls cx rx hA hw hl
  generalize hQ : MQ below _ args s 0 0 A = Q
  have hx := cx.1.1
  have hb := cx.1.2.1
  have hml := cx.1.2.2.1
  have hown := cx.1.2.2.2.1
  have hts := cx.1.2.2.2.2
  have hl : lv_has ls 2 [(0, .int a0)] := hl
  refine lv_iload_n hx hb dJ6_numberOfTrailingZeros_0f7a4_0 rfl (lv_at hl 0 rfl) ?_
  refine lv_iconst (v := (-1)) hx hb dJ6_numberOfTrailingZeros_0f7a4_1 (by decide) ?_
  refine lv_ixor hx hb dJ6_numberOfTrailingZeros_0f7a4_2 ?_
  refine lv_topi (fun v1 e1 => ?_)
  refine lv_iload_n hx hb dJ6_numberOfTrailingZeros_0f7a4_3 rfl (lv_at hl 0 rfl) ?_
  refine lv_iconst (v := 1) hx hb dJ6_numberOfTrailingZeros_0f7a4_4 (by decide) ?_
  refine lv_isub hx hb dJ6_numberOfTrailingZeros_0f7a4_5 ?_
  refine lv_topi (fun v2 e2 => ?_)
  refine lv_iand hx hb dJ6_numberOfTrailingZeros_0f7a4_6 ?_
  refine lv_topi (fun v3 e3 => ?_)
  refine lv_istore_n (lv' := [(0, .int v3)]) hx hb dJ6_numberOfTrailingZeros_0f7a4_7 rfl hl (by decide) rfl (fun ls hl => ?_)
  refine lv_iload_n hx hb dJ6_numberOfTrailingZeros_0f7a4_8 rfl (lv_at hl 0 rfl) ?_
  refine lv_if_gt (tgt := 17) hx hb dJ6_numberOfTrailingZeros_0f7a4_9 (by decide) (fun c4 => ?_) (fun c4 => ?_)
  · --
    have i5 : Iv v3 1 2147483647 := iv_lt2 c4 (⟨by decide, by decide⟩ : Iv 0 0 0) (iv_top v3) (by decide)
    refine lv_iconst (v := 1) hx hb dJ6_numberOfTrailingZeros_0f7a4_17 (by decide) ?_
    refine lv_istore_n (lv' := [(1, .int 1), (0, .int v3)]) hx hb dJ6_numberOfTrailingZeros_0f7a4_18 rfl hl (by decide) rfl (fun ls hl => ?_)
    refine lv_iload_n hx hb dJ6_numberOfTrailingZeros_0f7a4_19 rfl (lv_at hl 1 rfl) ?_
    refine lv_ldcw (v := 65536) hx hb hown (hts _ k_k_J6_264) dJ6_numberOfTrailingZeros_0f7a4_20 ?_
    refine lv_icmp_le (tgt := 34) hx hb dJ6_numberOfTrailingZeros_0f7a4_23 (by decide) (fun c6 => ?_) (fun c6 => ?_)
    · --
      have i7 : Iv v3 1 65536 := iv_le1 c6 i5 (⟨by decide, by decide⟩ : Iv 65536 65536 65536) (by decide)
      refine lv_iload_n hx hb dJ6_numberOfTrailingZeros_0f7a4_34 rfl (lv_at hl 1 rfl) ?_
      refine lv_sipush (v := 256) hx hb dJ6_numberOfTrailingZeros_0f7a4_35 (by decide) ?_
      refine lv_icmp_le (tgt := 49) hx hb dJ6_numberOfTrailingZeros_0f7a4_38 (by decide) (fun c8 => ?_) (fun c8 => ?_)
      · --
        have i9 : Iv v3 1 256 := iv_le1 c8 i7 (⟨by decide, by decide⟩ : Iv 256 256 256) (by decide)
        refine lv_iload_n hx hb dJ6_numberOfTrailingZeros_0f7a4_49 rfl (lv_at hl 1 rfl) ?_
        refine lv_bipush (v := 16) hx hb dJ6_numberOfTrailingZeros_0f7a4_50 (by decide) ?_
        refine lv_icmp_le (tgt := 62) hx hb dJ6_numberOfTrailingZeros_0f7a4_52 (by decide) (fun c10 => ?_) (fun c10 => ?_)
        · --
          have i11 : Iv v3 1 16 := iv_le1 c10 i9 (⟨by decide, by decide⟩ : Iv 16 16 16) (by decide)
          refine lv_iload_n hx hb dJ6_numberOfTrailingZeros_0f7a4_62 rfl (lv_at hl 1 rfl) ?_
          refine lv_iconst (v := 4) hx hb dJ6_numberOfTrailingZeros_0f7a4_63 (by decide) ?_
          refine lv_icmp_le (tgt := 74) hx hb dJ6_numberOfTrailingZeros_0f7a4_64 (by decide) (fun c12 => ?_) (fun c12 => ?_)
          · --
            have i13 : Iv v3 1 4 := iv_le1 c12 i11 (⟨by decide, by decide⟩ : Iv 4 4 4) (by decide)
            refine lv_iload_n hx hb dJ6_numberOfTrailingZeros_0f7a4_74 rfl (lv_at hl 0 rfl) ?_
            refine lv_iload_n hx hb dJ6_numberOfTrailingZeros_0f7a4_75 rfl (lv_at hl 1 rfl) ?_
            refine lv_iconst (v := 1) hx hb dJ6_numberOfTrailingZeros_0f7a4_76 (by decide) ?_
            refine lv_iushr hx hb dJ6_numberOfTrailingZeros_0f7a4_77 rfl ?_
            refine lv_topi (fun v14 e14 => ?_)
            refine lv_iadd hx hb dJ6_numberOfTrailingZeros_0f7a4_78 ?_
            refine lv_topi (fun v15 e15 => ?_)
            rw [← hQ]
            exact o_ri cx rx hw dJ6_numberOfTrailingZeros_0f7a4_79 ⟨rfl, (by subst e1; subst e2; subst e3; subst e14; subst e15; rw [nz_F, if_pos c4, nz_0, if_pos c6, nz_1, if_pos c8, nz_2, if_pos c10, nz_3, if_pos c12, nz_4] <;> rfl)⟩
          · --
            have i16 : Iv v3 5 16 := iv_lt2 (iv_nle c12) (⟨by decide, by decide⟩ : Iv 4 4 4) i11 (by decide)
            refine lv_iinc (v := 3) (lv' := [(1, .int 3), (0, .int v3)]) hx hb dJ6_numberOfTrailingZeros_0f7a4_67 hl (k := 0) rfl (by decide) (by decide) rfl (fun ls hl => ?_)
            refine lv_iload_n hx hb dJ6_numberOfTrailingZeros_0f7a4_70 rfl (lv_at hl 1 rfl) ?_
            refine lv_iconst (v := 2) hx hb dJ6_numberOfTrailingZeros_0f7a4_71 (by decide) ?_
            refine lv_iushr hx hb dJ6_numberOfTrailingZeros_0f7a4_72 rfl ?_
            refine lv_topi (fun v18 e18 => ?_)
            refine lv_istore_n (lv' := [(0, .int v18), (1, .int 3)]) hx hb dJ6_numberOfTrailingZeros_0f7a4_73 rfl hl (by decide) rfl (fun ls hl => ?_)
            refine lv_iload_n hx hb dJ6_numberOfTrailingZeros_0f7a4_74 rfl (lv_at hl 1 rfl) ?_
            refine lv_iload_n hx hb dJ6_numberOfTrailingZeros_0f7a4_75 rfl (lv_at hl 0 rfl) ?_
            refine lv_iconst (v := 1) hx hb dJ6_numberOfTrailingZeros_0f7a4_76 (by decide) ?_
            refine lv_iushr hx hb dJ6_numberOfTrailingZeros_0f7a4_77 rfl ?_
            refine lv_topi (fun v19 e19 => ?_)
            refine lv_iadd hx hb dJ6_numberOfTrailingZeros_0f7a4_78 ?_
            refine lv_topi (fun v20 e20 => ?_)
            rw [← hQ]
            exact o_ri cx rx hw dJ6_numberOfTrailingZeros_0f7a4_79 ⟨rfl, (by subst e1; subst e2; subst e3; subst e18; subst e19; subst e20; rw [nz_F, if_pos c4, nz_0, if_pos c6, nz_1, if_pos c8, nz_2, if_pos c10, nz_3, if_neg c12, nz_4] <;> rfl)⟩
        · --
          have i21 : Iv v3 17 256 := iv_lt2 (iv_nle c10) (⟨by decide, by decide⟩ : Iv 16 16 16) i9 (by decide)
          refine lv_iinc (v := 5) (lv' := [(1, .int 5), (0, .int v3)]) hx hb dJ6_numberOfTrailingZeros_0f7a4_55 hl (k := 0) rfl (by decide) (by decide) rfl (fun ls hl => ?_)
          refine lv_iload_n hx hb dJ6_numberOfTrailingZeros_0f7a4_58 rfl (lv_at hl 1 rfl) ?_
          refine lv_iconst (v := 4) hx hb dJ6_numberOfTrailingZeros_0f7a4_59 (by decide) ?_
          refine lv_iushr hx hb dJ6_numberOfTrailingZeros_0f7a4_60 rfl ?_
          refine lv_topi (fun v23 e23 => ?_)
          refine lv_istore_n (lv' := [(0, .int v23), (1, .int 5)]) hx hb dJ6_numberOfTrailingZeros_0f7a4_61 rfl hl (by decide) rfl (fun ls hl => ?_)
          refine lv_iload_n hx hb dJ6_numberOfTrailingZeros_0f7a4_62 rfl (lv_at hl 0 rfl) ?_
          refine lv_iconst (v := 4) hx hb dJ6_numberOfTrailingZeros_0f7a4_63 (by decide) ?_
          refine lv_icmp_le (tgt := 74) hx hb dJ6_numberOfTrailingZeros_0f7a4_64 (by decide) (fun c24 => ?_) (fun c24 => ?_)
          · --
            have i25 : Iv v23 (-2147483648) 4 := iv_le1 c24 (iv_top v23) (⟨by decide, by decide⟩ : Iv 4 4 4) (by decide)
            refine lv_iload_n hx hb dJ6_numberOfTrailingZeros_0f7a4_74 rfl (lv_at hl 1 rfl) ?_
            refine lv_iload_n hx hb dJ6_numberOfTrailingZeros_0f7a4_75 rfl (lv_at hl 0 rfl) ?_
            refine lv_iconst (v := 1) hx hb dJ6_numberOfTrailingZeros_0f7a4_76 (by decide) ?_
            refine lv_iushr hx hb dJ6_numberOfTrailingZeros_0f7a4_77 rfl ?_
            refine lv_topi (fun v26 e26 => ?_)
            refine lv_iadd hx hb dJ6_numberOfTrailingZeros_0f7a4_78 ?_
            refine lv_topi (fun v27 e27 => ?_)
            rw [← hQ]
            exact o_ri cx rx hw dJ6_numberOfTrailingZeros_0f7a4_79 ⟨rfl, (by subst e1; subst e2; subst e3; subst e23; subst e26; subst e27; rw [nz_F, if_pos c4, nz_0, if_pos c6, nz_1, if_pos c8, nz_2, if_neg c10, nz_3, if_pos c24, nz_4] <;> rfl)⟩
          · --
            have i28 : Iv v23 5 2147483647 := iv_lt2 (iv_nle c24) (⟨by decide, by decide⟩ : Iv 4 4 4) (iv_top v23) (by decide)
            refine lv_iinc (v := 7) (lv' := [(1, .int 7), (0, .int v23)]) hx hb dJ6_numberOfTrailingZeros_0f7a4_67 hl (k := 1) rfl (by decide) (by decide) rfl (fun ls hl => ?_)
            refine lv_iload_n hx hb dJ6_numberOfTrailingZeros_0f7a4_70 rfl (lv_at hl 1 rfl) ?_
            refine lv_iconst (v := 2) hx hb dJ6_numberOfTrailingZeros_0f7a4_71 (by decide) ?_
            refine lv_iushr hx hb dJ6_numberOfTrailingZeros_0f7a4_72 rfl ?_
            refine lv_topi (fun v30 e30 => ?_)
            refine lv_istore_n (lv' := [(0, .int v30), (1, .int 7)]) hx hb dJ6_numberOfTrailingZeros_0f7a4_73 rfl hl (by decide) rfl (fun ls hl => ?_)
            refine lv_iload_n hx hb dJ6_numberOfTrailingZeros_0f7a4_74 rfl (lv_at hl 1 rfl) ?_
            refine lv_iload_n hx hb dJ6_numberOfTrailingZeros_0f7a4_75 rfl (lv_at hl 0 rfl) ?_
            refine lv_iconst (v := 1) hx hb dJ6_numberOfTrailingZeros_0f7a4_76 (by decide) ?_
            refine lv_iushr hx hb dJ6_numberOfTrailingZeros_0f7a4_77 rfl ?_
            refine lv_topi (fun v31 e31 => ?_)
            refine lv_iadd hx hb dJ6_numberOfTrailingZeros_0f7a4_78 ?_
            refine lv_topi (fun v32 e32 => ?_)
            rw [← hQ]
            exact o_ri cx rx hw dJ6_numberOfTrailingZeros_0f7a4_79 ⟨rfl, (by subst e1; subst e2; subst e3; subst e23; subst e30; subst e31; subst e32; rw [nz_F, if_pos c4, nz_0, if_pos c6, nz_1, if_pos c8, nz_2, if_neg c10, nz_3, if_neg c24, nz_4] <;> rfl)⟩
      · --
        have i33 : Iv v3 257 65536 := iv_lt2 (iv_nle c8) (⟨by decide, by decide⟩ : Iv 256 256 256) i7 (by decide)
        refine lv_iinc (v := 9) (lv' := [(1, .int 9), (0, .int v3)]) hx hb dJ6_numberOfTrailingZeros_0f7a4_41 hl (k := 0) rfl (by decide) (by decide) rfl (fun ls hl => ?_)
        refine lv_iload_n hx hb dJ6_numberOfTrailingZeros_0f7a4_44 rfl (lv_at hl 1 rfl) ?_
        refine lv_bipush (v := 8) hx hb dJ6_numberOfTrailingZeros_0f7a4_45 (by decide) ?_
        refine lv_iushr hx hb dJ6_numberOfTrailingZeros_0f7a4_47 rfl ?_
        refine lv_topi (fun v35 e35 => ?_)
        refine lv_istore_n (lv' := [(0, .int v35), (1, .int 9)]) hx hb dJ6_numberOfTrailingZeros_0f7a4_48 rfl hl (by decide) rfl (fun ls hl => ?_)
        refine lv_iload_n hx hb dJ6_numberOfTrailingZeros_0f7a4_49 rfl (lv_at hl 0 rfl) ?_
        refine lv_bipush (v := 16) hx hb dJ6_numberOfTrailingZeros_0f7a4_50 (by decide) ?_
        refine lv_icmp_le (tgt := 62) hx hb dJ6_numberOfTrailingZeros_0f7a4_52 (by decide) (fun c36 => ?_) (fun c36 => ?_)
        · --
          have i37 : Iv v35 (-2147483648) 16 := iv_le1 c36 (iv_top v35) (⟨by decide, by decide⟩ : Iv 16 16 16) (by decide)
          refine lv_iload_n hx hb dJ6_numberOfTrailingZeros_0f7a4_62 rfl (lv_at hl 0 rfl) ?_
          refine lv_iconst (v := 4) hx hb dJ6_numberOfTrailingZeros_0f7a4_63 (by decide) ?_
          refine lv_icmp_le (tgt := 74) hx hb dJ6_numberOfTrailingZeros_0f7a4_64 (by decide) (fun c38 => ?_) (fun c38 => ?_)
          · --
            have i39 : Iv v35 (-2147483648) 4 := iv_le1 c38 i37 (⟨by decide, by decide⟩ : Iv 4 4 4) (by decide)
            refine lv_iload_n hx hb dJ6_numberOfTrailingZeros_0f7a4_74 rfl (lv_at hl 1 rfl) ?_
            refine lv_iload_n hx hb dJ6_numberOfTrailingZeros_0f7a4_75 rfl (lv_at hl 0 rfl) ?_
            refine lv_iconst (v := 1) hx hb dJ6_numberOfTrailingZeros_0f7a4_76 (by decide) ?_
            refine lv_iushr hx hb dJ6_numberOfTrailingZeros_0f7a4_77 rfl ?_
            refine lv_topi (fun v40 e40 => ?_)
            refine lv_iadd hx hb dJ6_numberOfTrailingZeros_0f7a4_78 ?_
            refine lv_topi (fun v41 e41 => ?_)
            rw [← hQ]
            exact o_ri cx rx hw dJ6_numberOfTrailingZeros_0f7a4_79 ⟨rfl, (by subst e1; subst e2; subst e3; subst e35; subst e40; subst e41; rw [nz_F, if_pos c4, nz_0, if_pos c6, nz_1, if_neg c8, nz_2, if_pos c36, nz_3, if_pos c38, nz_4] <;> rfl)⟩
          · --
            have i42 : Iv v35 5 16 := iv_lt2 (iv_nle c38) (⟨by decide, by decide⟩ : Iv 4 4 4) i37 (by decide)
            refine lv_iinc (v := 11) (lv' := [(1, .int 11), (0, .int v35)]) hx hb dJ6_numberOfTrailingZeros_0f7a4_67 hl (k := 1) rfl (by decide) (by decide) rfl (fun ls hl => ?_)
            refine lv_iload_n hx hb dJ6_numberOfTrailingZeros_0f7a4_70 rfl (lv_at hl 1 rfl) ?_
            refine lv_iconst (v := 2) hx hb dJ6_numberOfTrailingZeros_0f7a4_71 (by decide) ?_
            refine lv_iushr hx hb dJ6_numberOfTrailingZeros_0f7a4_72 rfl ?_
            refine lv_topi (fun v44 e44 => ?_)
            refine lv_istore_n (lv' := [(0, .int v44), (1, .int 11)]) hx hb dJ6_numberOfTrailingZeros_0f7a4_73 rfl hl (by decide) rfl (fun ls hl => ?_)
            refine lv_iload_n hx hb dJ6_numberOfTrailingZeros_0f7a4_74 rfl (lv_at hl 1 rfl) ?_
            refine lv_iload_n hx hb dJ6_numberOfTrailingZeros_0f7a4_75 rfl (lv_at hl 0 rfl) ?_
            refine lv_iconst (v := 1) hx hb dJ6_numberOfTrailingZeros_0f7a4_76 (by decide) ?_
            refine lv_iushr hx hb dJ6_numberOfTrailingZeros_0f7a4_77 rfl ?_
            refine lv_topi (fun v45 e45 => ?_)
            refine lv_iadd hx hb dJ6_numberOfTrailingZeros_0f7a4_78 ?_
            refine lv_topi (fun v46 e46 => ?_)
            rw [← hQ]
            exact o_ri cx rx hw dJ6_numberOfTrailingZeros_0f7a4_79 ⟨rfl, (by subst e1; subst e2; subst e3; subst e35; subst e44; subst e45; subst e46; rw [nz_F, if_pos c4, nz_0, if_pos c6, nz_1, if_neg c8, nz_2, if_pos c36, nz_3, if_neg c38, nz_4] <;> rfl)⟩
        · --
          have i47 : Iv v35 17 2147483647 := iv_lt2 (iv_nle c36) (⟨by decide, by decide⟩ : Iv 16 16 16) (iv_top v35) (by decide)
          refine lv_iinc (v := 13) (lv' := [(1, .int 13), (0, .int v35)]) hx hb dJ6_numberOfTrailingZeros_0f7a4_55 hl (k := 1) rfl (by decide) (by decide) rfl (fun ls hl => ?_)
          refine lv_iload_n hx hb dJ6_numberOfTrailingZeros_0f7a4_58 rfl (lv_at hl 1 rfl) ?_
          refine lv_iconst (v := 4) hx hb dJ6_numberOfTrailingZeros_0f7a4_59 (by decide) ?_
          refine lv_iushr hx hb dJ6_numberOfTrailingZeros_0f7a4_60 rfl ?_
          refine lv_topi (fun v49 e49 => ?_)
          refine lv_istore_n (lv' := [(0, .int v49), (1, .int 13)]) hx hb dJ6_numberOfTrailingZeros_0f7a4_61 rfl hl (by decide) rfl (fun ls hl => ?_)
          refine lv_iload_n hx hb dJ6_numberOfTrailingZeros_0f7a4_62 rfl (lv_at hl 0 rfl) ?_
          refine lv_iconst (v := 4) hx hb dJ6_numberOfTrailingZeros_0f7a4_63 (by decide) ?_
          refine lv_icmp_le (tgt := 74) hx hb dJ6_numberOfTrailingZeros_0f7a4_64 (by decide) (fun c50 => ?_) (fun c50 => ?_)
          · --
            have i51 : Iv v49 (-2147483648) 4 := iv_le1 c50 (iv_top v49) (⟨by decide, by decide⟩ : Iv 4 4 4) (by decide)
            refine lv_iload_n hx hb dJ6_numberOfTrailingZeros_0f7a4_74 rfl (lv_at hl 1 rfl) ?_
            refine lv_iload_n hx hb dJ6_numberOfTrailingZeros_0f7a4_75 rfl (lv_at hl 0 rfl) ?_
            refine lv_iconst (v := 1) hx hb dJ6_numberOfTrailingZeros_0f7a4_76 (by decide) ?_
            refine lv_iushr hx hb dJ6_numberOfTrailingZeros_0f7a4_77 rfl ?_
            refine lv_topi (fun v52 e52 => ?_)
            refine lv_iadd hx hb dJ6_numberOfTrailingZeros_0f7a4_78 ?_
            refine lv_topi (fun v53 e53 => ?_)
            rw [← hQ]
            exact o_ri cx rx hw dJ6_numberOfTrailingZeros_0f7a4_79 ⟨rfl, (by subst e1; subst e2; subst e3; subst e35; subst e49; subst e52; subst e53; rw [nz_F, if_pos c4, nz_0, if_pos c6, nz_1, if_neg c8, nz_2, if_neg c36, nz_3, if_pos c50, nz_4] <;> rfl)⟩
          · --
            have i54 : Iv v49 5 2147483647 := iv_lt2 (iv_nle c50) (⟨by decide, by decide⟩ : Iv 4 4 4) (iv_top v49) (by decide)
            refine lv_iinc (v := 15) (lv' := [(1, .int 15), (0, .int v49)]) hx hb dJ6_numberOfTrailingZeros_0f7a4_67 hl (k := 1) rfl (by decide) (by decide) rfl (fun ls hl => ?_)
            refine lv_iload_n hx hb dJ6_numberOfTrailingZeros_0f7a4_70 rfl (lv_at hl 1 rfl) ?_
            refine lv_iconst (v := 2) hx hb dJ6_numberOfTrailingZeros_0f7a4_71 (by decide) ?_
            refine lv_iushr hx hb dJ6_numberOfTrailingZeros_0f7a4_72 rfl ?_
            refine lv_topi (fun v56 e56 => ?_)
            refine lv_istore_n (lv' := [(0, .int v56), (1, .int 15)]) hx hb dJ6_numberOfTrailingZeros_0f7a4_73 rfl hl (by decide) rfl (fun ls hl => ?_)
            refine lv_iload_n hx hb dJ6_numberOfTrailingZeros_0f7a4_74 rfl (lv_at hl 1 rfl) ?_
            refine lv_iload_n hx hb dJ6_numberOfTrailingZeros_0f7a4_75 rfl (lv_at hl 0 rfl) ?_
            refine lv_iconst (v := 1) hx hb dJ6_numberOfTrailingZeros_0f7a4_76 (by decide) ?_
            refine lv_iushr hx hb dJ6_numberOfTrailingZeros_0f7a4_77 rfl ?_
            refine lv_topi (fun v57 e57 => ?_)
            refine lv_iadd hx hb dJ6_numberOfTrailingZeros_0f7a4_78 ?_
            refine lv_topi (fun v58 e58 => ?_)
            rw [← hQ]
            exact o_ri cx rx hw dJ6_numberOfTrailingZeros_0f7a4_79 ⟨rfl, (by subst e1; subst e2; subst e3; subst e35; subst e49; subst e56; subst e57; subst e58; rw [nz_F, if_pos c4, nz_0, if_pos c6, nz_1, if_neg c8, nz_2, if_neg c36, nz_3, if_neg c50, nz_4] <;> rfl)⟩
    · --
      have i59 : Iv v3 65537 2147483647 := iv_lt2 (iv_nle c6) (⟨by decide, by decide⟩ : Iv 65536 65536 65536) i5 (by decide)
      refine lv_iinc (v := 17) (lv' := [(1, .int 17), (0, .int v3)]) hx hb dJ6_numberOfTrailingZeros_0f7a4_26 hl (k := 0) rfl (by decide) (by decide) rfl (fun ls hl => ?_)
      refine lv_iload_n hx hb dJ6_numberOfTrailingZeros_0f7a4_29 rfl (lv_at hl 1 rfl) ?_
      refine lv_bipush (v := 16) hx hb dJ6_numberOfTrailingZeros_0f7a4_30 (by decide) ?_
      refine lv_iushr hx hb dJ6_numberOfTrailingZeros_0f7a4_32 rfl ?_
      refine lv_topi (fun v61 e61 => ?_)
      have i61 : Iv v61 0 65535 := iv_ushr16 e61
      refine lv_istore_n (lv' := [(0, .int v61), (1, .int 17)]) hx hb dJ6_numberOfTrailingZeros_0f7a4_33 rfl hl (by decide) rfl (fun ls hl => ?_)
      refine lv_iload_n hx hb dJ6_numberOfTrailingZeros_0f7a4_34 rfl (lv_at hl 0 rfl) ?_
      refine lv_sipush (v := 256) hx hb dJ6_numberOfTrailingZeros_0f7a4_35 (by decide) ?_
      refine lv_icmp_le (tgt := 49) hx hb dJ6_numberOfTrailingZeros_0f7a4_38 (by decide) (fun c62 => ?_) (fun c62 => ?_)
      · --
        have i63 : Iv v61 0 256 := iv_le1 c62 i61 (⟨by decide, by decide⟩ : Iv 256 256 256) (by decide)
        refine lv_iload_n hx hb dJ6_numberOfTrailingZeros_0f7a4_49 rfl (lv_at hl 0 rfl) ?_
        refine lv_bipush (v := 16) hx hb dJ6_numberOfTrailingZeros_0f7a4_50 (by decide) ?_
        refine lv_icmp_le (tgt := 62) hx hb dJ6_numberOfTrailingZeros_0f7a4_52 (by decide) (fun c64 => ?_) (fun c64 => ?_)
        · --
          have i65 : Iv v61 0 16 := iv_le1 c64 i63 (⟨by decide, by decide⟩ : Iv 16 16 16) (by decide)
          refine lv_iload_n hx hb dJ6_numberOfTrailingZeros_0f7a4_62 rfl (lv_at hl 0 rfl) ?_
          refine lv_iconst (v := 4) hx hb dJ6_numberOfTrailingZeros_0f7a4_63 (by decide) ?_
          refine lv_icmp_le (tgt := 74) hx hb dJ6_numberOfTrailingZeros_0f7a4_64 (by decide) (fun c66 => ?_) (fun c66 => ?_)
          · --
            have i67 : Iv v61 0 4 := iv_le1 c66 i65 (⟨by decide, by decide⟩ : Iv 4 4 4) (by decide)
            refine lv_iload_n hx hb dJ6_numberOfTrailingZeros_0f7a4_74 rfl (lv_at hl 1 rfl) ?_
            refine lv_iload_n hx hb dJ6_numberOfTrailingZeros_0f7a4_75 rfl (lv_at hl 0 rfl) ?_
            refine lv_iconst (v := 1) hx hb dJ6_numberOfTrailingZeros_0f7a4_76 (by decide) ?_
            refine lv_iushr hx hb dJ6_numberOfTrailingZeros_0f7a4_77 rfl ?_
            refine lv_topi (fun v68 e68 => ?_)
            refine lv_iadd hx hb dJ6_numberOfTrailingZeros_0f7a4_78 ?_
            refine lv_topi (fun v69 e69 => ?_)
            rw [← hQ]
            exact o_ri cx rx hw dJ6_numberOfTrailingZeros_0f7a4_79 ⟨rfl, (by subst e1; subst e2; subst e3; subst e61; subst e68; subst e69; rw [nz_F, if_pos c4, nz_0, if_neg c6, nz_1, if_pos c62, nz_2, if_pos c64, nz_3, if_pos c66, nz_4] <;> rfl)⟩
          · --
            have i70 : Iv v61 5 16 := iv_lt2 (iv_nle c66) (⟨by decide, by decide⟩ : Iv 4 4 4) i65 (by decide)
            refine lv_iinc (v := 19) (lv' := [(1, .int 19), (0, .int v61)]) hx hb dJ6_numberOfTrailingZeros_0f7a4_67 hl (k := 1) rfl (by decide) (by decide) rfl (fun ls hl => ?_)
            refine lv_iload_n hx hb dJ6_numberOfTrailingZeros_0f7a4_70 rfl (lv_at hl 1 rfl) ?_
            refine lv_iconst (v := 2) hx hb dJ6_numberOfTrailingZeros_0f7a4_71 (by decide) ?_
            refine lv_iushr hx hb dJ6_numberOfTrailingZeros_0f7a4_72 rfl ?_
            refine lv_topi (fun v72 e72 => ?_)
            refine lv_istore_n (lv' := [(0, .int v72), (1, .int 19)]) hx hb dJ6_numberOfTrailingZeros_0f7a4_73 rfl hl (by decide) rfl (fun ls hl => ?_)
            refine lv_iload_n hx hb dJ6_numberOfTrailingZeros_0f7a4_74 rfl (lv_at hl 1 rfl) ?_
            refine lv_iload_n hx hb dJ6_numberOfTrailingZeros_0f7a4_75 rfl (lv_at hl 0 rfl) ?_
            refine lv_iconst (v := 1) hx hb dJ6_numberOfTrailingZeros_0f7a4_76 (by decide) ?_
            refine lv_iushr hx hb dJ6_numberOfTrailingZeros_0f7a4_77 rfl ?_
            refine lv_topi (fun v73 e73 => ?_)
            refine lv_iadd hx hb dJ6_numberOfTrailingZeros_0f7a4_78 ?_
            refine lv_topi (fun v74 e74 => ?_)
            rw [← hQ]
            exact o_ri cx rx hw dJ6_numberOfTrailingZeros_0f7a4_79 ⟨rfl, (by subst e1; subst e2; subst e3; subst e61; subst e72; subst e73; subst e74; rw [nz_F, if_pos c4, nz_0, if_neg c6, nz_1, if_pos c62, nz_2, if_pos c64, nz_3, if_neg c66, nz_4] <;> rfl)⟩
        · --
          have i75 : Iv v61 17 256 := iv_lt2 (iv_nle c64) (⟨by decide, by decide⟩ : Iv 16 16 16) i63 (by decide)
          refine lv_iinc (v := 21) (lv' := [(1, .int 21), (0, .int v61)]) hx hb dJ6_numberOfTrailingZeros_0f7a4_55 hl (k := 1) rfl (by decide) (by decide) rfl (fun ls hl => ?_)
          refine lv_iload_n hx hb dJ6_numberOfTrailingZeros_0f7a4_58 rfl (lv_at hl 1 rfl) ?_
          refine lv_iconst (v := 4) hx hb dJ6_numberOfTrailingZeros_0f7a4_59 (by decide) ?_
          refine lv_iushr hx hb dJ6_numberOfTrailingZeros_0f7a4_60 rfl ?_
          refine lv_topi (fun v77 e77 => ?_)
          refine lv_istore_n (lv' := [(0, .int v77), (1, .int 21)]) hx hb dJ6_numberOfTrailingZeros_0f7a4_61 rfl hl (by decide) rfl (fun ls hl => ?_)
          refine lv_iload_n hx hb dJ6_numberOfTrailingZeros_0f7a4_62 rfl (lv_at hl 0 rfl) ?_
          refine lv_iconst (v := 4) hx hb dJ6_numberOfTrailingZeros_0f7a4_63 (by decide) ?_
          refine lv_icmp_le (tgt := 74) hx hb dJ6_numberOfTrailingZeros_0f7a4_64 (by decide) (fun c78 => ?_) (fun c78 => ?_)
          · --
            have i79 : Iv v77 (-2147483648) 4 := iv_le1 c78 (iv_top v77) (⟨by decide, by decide⟩ : Iv 4 4 4) (by decide)
            refine lv_iload_n hx hb dJ6_numberOfTrailingZeros_0f7a4_74 rfl (lv_at hl 1 rfl) ?_
            refine lv_iload_n hx hb dJ6_numberOfTrailingZeros_0f7a4_75 rfl (lv_at hl 0 rfl) ?_
            refine lv_iconst (v := 1) hx hb dJ6_numberOfTrailingZeros_0f7a4_76 (by decide) ?_
            refine lv_iushr hx hb dJ6_numberOfTrailingZeros_0f7a4_77 rfl ?_
            refine lv_topi (fun v80 e80 => ?_)
            refine lv_iadd hx hb dJ6_numberOfTrailingZeros_0f7a4_78 ?_
            refine lv_topi (fun v81 e81 => ?_)
            rw [← hQ]
            exact o_ri cx rx hw dJ6_numberOfTrailingZeros_0f7a4_79 ⟨rfl, (by subst e1; subst e2; subst e3; subst e61; subst e77; subst e80; subst e81; rw [nz_F, if_pos c4, nz_0, if_neg c6, nz_1, if_pos c62, nz_2, if_neg c64, nz_3, if_pos c78, nz_4] <;> rfl)⟩
          · --
            have i82 : Iv v77 5 2147483647 := iv_lt2 (iv_nle c78) (⟨by decide, by decide⟩ : Iv 4 4 4) (iv_top v77) (by decide)
            refine lv_iinc (v := 23) (lv' := [(1, .int 23), (0, .int v77)]) hx hb dJ6_numberOfTrailingZeros_0f7a4_67 hl (k := 1) rfl (by decide) (by decide) rfl (fun ls hl => ?_)
            refine lv_iload_n hx hb dJ6_numberOfTrailingZeros_0f7a4_70 rfl (lv_at hl 1 rfl) ?_
            refine lv_iconst (v := 2) hx hb dJ6_numberOfTrailingZeros_0f7a4_71 (by decide) ?_
            refine lv_iushr hx hb dJ6_numberOfTrailingZeros_0f7a4_72 rfl ?_
            refine lv_topi (fun v84 e84 => ?_)
            refine lv_istore_n (lv' := [(0, .int v84), (1, .int 23)]) hx hb dJ6_numberOfTrailingZeros_0f7a4_73 rfl hl (by decide) rfl (fun ls hl => ?_)
            refine lv_iload_n hx hb dJ6_numberOfTrailingZeros_0f7a4_74 rfl (lv_at hl 1 rfl) ?_
            refine lv_iload_n hx hb dJ6_numberOfTrailingZeros_0f7a4_75 rfl (lv_at hl 0 rfl) ?_
            refine lv_iconst (v := 1) hx hb dJ6_numberOfTrailingZeros_0f7a4_76 (by decide) ?_
            refine lv_iushr hx hb dJ6_numberOfTrailingZeros_0f7a4_77 rfl ?_
            refine lv_topi (fun v85 e85 => ?_)
            refine lv_iadd hx hb dJ6_numberOfTrailingZeros_0f7a4_78 ?_
            refine lv_topi (fun v86 e86 => ?_)
            rw [← hQ]
            exact o_ri cx rx hw dJ6_numberOfTrailingZeros_0f7a4_79 ⟨rfl, (by subst e1; subst e2; subst e3; subst e61; subst e77; subst e84; subst e85; subst e86; rw [nz_F, if_pos c4, nz_0, if_neg c6, nz_1, if_pos c62, nz_2, if_neg c64, nz_3, if_neg c78, nz_4] <;> rfl)⟩
      · --
        have i87 : Iv v61 257 65535 := iv_lt2 (iv_nle c62) (⟨by decide, by decide⟩ : Iv 256 256 256) i61 (by decide)
        refine lv_iinc (v := 25) (lv' := [(1, .int 25), (0, .int v61)]) hx hb dJ6_numberOfTrailingZeros_0f7a4_41 hl (k := 1) rfl (by decide) (by decide) rfl (fun ls hl => ?_)
        refine lv_iload_n hx hb dJ6_numberOfTrailingZeros_0f7a4_44 rfl (lv_at hl 1 rfl) ?_
        refine lv_bipush (v := 8) hx hb dJ6_numberOfTrailingZeros_0f7a4_45 (by decide) ?_
        refine lv_iushr hx hb dJ6_numberOfTrailingZeros_0f7a4_47 rfl ?_
        refine lv_topi (fun v89 e89 => ?_)
        refine lv_istore_n (lv' := [(0, .int v89), (1, .int 25)]) hx hb dJ6_numberOfTrailingZeros_0f7a4_48 rfl hl (by decide) rfl (fun ls hl => ?_)
        refine lv_iload_n hx hb dJ6_numberOfTrailingZeros_0f7a4_49 rfl (lv_at hl 0 rfl) ?_
        refine lv_bipush (v := 16) hx hb dJ6_numberOfTrailingZeros_0f7a4_50 (by decide) ?_
        refine lv_icmp_le (tgt := 62) hx hb dJ6_numberOfTrailingZeros_0f7a4_52 (by decide) (fun c90 => ?_) (fun c90 => ?_)
        · --
          have i91 : Iv v89 (-2147483648) 16 := iv_le1 c90 (iv_top v89) (⟨by decide, by decide⟩ : Iv 16 16 16) (by decide)
          refine lv_iload_n hx hb dJ6_numberOfTrailingZeros_0f7a4_62 rfl (lv_at hl 0 rfl) ?_
          refine lv_iconst (v := 4) hx hb dJ6_numberOfTrailingZeros_0f7a4_63 (by decide) ?_
          refine lv_icmp_le (tgt := 74) hx hb dJ6_numberOfTrailingZeros_0f7a4_64 (by decide) (fun c92 => ?_) (fun c92 => ?_)
          · --
            have i93 : Iv v89 (-2147483648) 4 := iv_le1 c92 i91 (⟨by decide, by decide⟩ : Iv 4 4 4) (by decide)
            refine lv_iload_n hx hb dJ6_numberOfTrailingZeros_0f7a4_74 rfl (lv_at hl 1 rfl) ?_
            refine lv_iload_n hx hb dJ6_numberOfTrailingZeros_0f7a4_75 rfl (lv_at hl 0 rfl) ?_
            refine lv_iconst (v := 1) hx hb dJ6_numberOfTrailingZeros_0f7a4_76 (by decide) ?_
            refine lv_iushr hx hb dJ6_numberOfTrailingZeros_0f7a4_77 rfl ?_
            refine lv_topi (fun v94 e94 => ?_)
            refine lv_iadd hx hb dJ6_numberOfTrailingZeros_0f7a4_78 ?_
            refine lv_topi (fun v95 e95 => ?_)
            rw [← hQ]
            exact o_ri cx rx hw dJ6_numberOfTrailingZeros_0f7a4_79 ⟨rfl, (by subst e1; subst e2; subst e3; subst e61; subst e89; subst e94; subst e95; rw [nz_F, if_pos c4, nz_0, if_neg c6, nz_1, if_neg c62, nz_2, if_pos c90, nz_3, if_pos c92, nz_4] <;> rfl)⟩
          · --
            have i96 : Iv v89 5 16 := iv_lt2 (iv_nle c92) (⟨by decide, by decide⟩ : Iv 4 4 4) i91 (by decide)
            refine lv_iinc (v := 27) (lv' := [(1, .int 27), (0, .int v89)]) hx hb dJ6_numberOfTrailingZeros_0f7a4_67 hl (k := 1) rfl (by decide) (by decide) rfl (fun ls hl => ?_)
            refine lv_iload_n hx hb dJ6_numberOfTrailingZeros_0f7a4_70 rfl (lv_at hl 1 rfl) ?_
            refine lv_iconst (v := 2) hx hb dJ6_numberOfTrailingZeros_0f7a4_71 (by decide) ?_
            refine lv_iushr hx hb dJ6_numberOfTrailingZeros_0f7a4_72 rfl ?_
            refine lv_topi (fun v98 e98 => ?_)
            refine lv_istore_n (lv' := [(0, .int v98), (1, .int 27)]) hx hb dJ6_numberOfTrailingZeros_0f7a4_73 rfl hl (by decide) rfl (fun ls hl => ?_)
            refine lv_iload_n hx hb dJ6_numberOfTrailingZeros_0f7a4_74 rfl (lv_at hl 1 rfl) ?_
            refine lv_iload_n hx hb dJ6_numberOfTrailingZeros_0f7a4_75 rfl (lv_at hl 0 rfl) ?_
            refine lv_iconst (v := 1) hx hb dJ6_numberOfTrailingZeros_0f7a4_76 (by decide) ?_
            refine lv_iushr hx hb dJ6_numberOfTrailingZeros_0f7a4_77 rfl ?_
            refine lv_topi (fun v99 e99 => ?_)
            refine lv_iadd hx hb dJ6_numberOfTrailingZeros_0f7a4_78 ?_
            refine lv_topi (fun v100 e100 => ?_)
            rw [← hQ]
            exact o_ri cx rx hw dJ6_numberOfTrailingZeros_0f7a4_79 ⟨rfl, (by subst e1; subst e2; subst e3; subst e61; subst e89; subst e98; subst e99; subst e100; rw [nz_F, if_pos c4, nz_0, if_neg c6, nz_1, if_neg c62, nz_2, if_pos c90, nz_3, if_neg c92, nz_4] <;> rfl)⟩
        · --
          have i101 : Iv v89 17 2147483647 := iv_lt2 (iv_nle c90) (⟨by decide, by decide⟩ : Iv 16 16 16) (iv_top v89) (by decide)
          refine lv_iinc (v := 29) (lv' := [(1, .int 29), (0, .int v89)]) hx hb dJ6_numberOfTrailingZeros_0f7a4_55 hl (k := 1) rfl (by decide) (by decide) rfl (fun ls hl => ?_)
          refine lv_iload_n hx hb dJ6_numberOfTrailingZeros_0f7a4_58 rfl (lv_at hl 1 rfl) ?_
          refine lv_iconst (v := 4) hx hb dJ6_numberOfTrailingZeros_0f7a4_59 (by decide) ?_
          refine lv_iushr hx hb dJ6_numberOfTrailingZeros_0f7a4_60 rfl ?_
          refine lv_topi (fun v103 e103 => ?_)
          refine lv_istore_n (lv' := [(0, .int v103), (1, .int 29)]) hx hb dJ6_numberOfTrailingZeros_0f7a4_61 rfl hl (by decide) rfl (fun ls hl => ?_)
          refine lv_iload_n hx hb dJ6_numberOfTrailingZeros_0f7a4_62 rfl (lv_at hl 0 rfl) ?_
          refine lv_iconst (v := 4) hx hb dJ6_numberOfTrailingZeros_0f7a4_63 (by decide) ?_
          refine lv_icmp_le (tgt := 74) hx hb dJ6_numberOfTrailingZeros_0f7a4_64 (by decide) (fun c104 => ?_) (fun c104 => ?_)
          · --
            have i105 : Iv v103 (-2147483648) 4 := iv_le1 c104 (iv_top v103) (⟨by decide, by decide⟩ : Iv 4 4 4) (by decide)
            refine lv_iload_n hx hb dJ6_numberOfTrailingZeros_0f7a4_74 rfl (lv_at hl 1 rfl) ?_
            refine lv_iload_n hx hb dJ6_numberOfTrailingZeros_0f7a4_75 rfl (lv_at hl 0 rfl) ?_
            refine lv_iconst (v := 1) hx hb dJ6_numberOfTrailingZeros_0f7a4_76 (by decide) ?_
            refine lv_iushr hx hb dJ6_numberOfTrailingZeros_0f7a4_77 rfl ?_
            refine lv_topi (fun v106 e106 => ?_)
            refine lv_iadd hx hb dJ6_numberOfTrailingZeros_0f7a4_78 ?_
            refine lv_topi (fun v107 e107 => ?_)
            rw [← hQ]
            exact o_ri cx rx hw dJ6_numberOfTrailingZeros_0f7a4_79 ⟨rfl, (by subst e1; subst e2; subst e3; subst e61; subst e89; subst e103; subst e106; subst e107; rw [nz_F, if_pos c4, nz_0, if_neg c6, nz_1, if_neg c62, nz_2, if_neg c90, nz_3, if_pos c104, nz_4] <;> rfl)⟩
          · --
            have i108 : Iv v103 5 2147483647 := iv_lt2 (iv_nle c104) (⟨by decide, by decide⟩ : Iv 4 4 4) (iv_top v103) (by decide)
            refine lv_iinc (v := 31) (lv' := [(1, .int 31), (0, .int v103)]) hx hb dJ6_numberOfTrailingZeros_0f7a4_67 hl (k := 1) rfl (by decide) (by decide) rfl (fun ls hl => ?_)
            refine lv_iload_n hx hb dJ6_numberOfTrailingZeros_0f7a4_70 rfl (lv_at hl 1 rfl) ?_
            refine lv_iconst (v := 2) hx hb dJ6_numberOfTrailingZeros_0f7a4_71 (by decide) ?_
            refine lv_iushr hx hb dJ6_numberOfTrailingZeros_0f7a4_72 rfl ?_
            refine lv_topi (fun v110 e110 => ?_)
            refine lv_istore_n (lv' := [(0, .int v110), (1, .int 31)]) hx hb dJ6_numberOfTrailingZeros_0f7a4_73 rfl hl (by decide) rfl (fun ls hl => ?_)
            refine lv_iload_n hx hb dJ6_numberOfTrailingZeros_0f7a4_74 rfl (lv_at hl 1 rfl) ?_
            refine lv_iload_n hx hb dJ6_numberOfTrailingZeros_0f7a4_75 rfl (lv_at hl 0 rfl) ?_
            refine lv_iconst (v := 1) hx hb dJ6_numberOfTrailingZeros_0f7a4_76 (by decide) ?_
            refine lv_iushr hx hb dJ6_numberOfTrailingZeros_0f7a4_77 rfl ?_
            refine lv_topi (fun v111 e111 => ?_)
            refine lv_iadd hx hb dJ6_numberOfTrailingZeros_0f7a4_78 ?_
            refine lv_topi (fun v112 e112 => ?_)
            rw [← hQ]
            exact o_ri cx rx hw dJ6_numberOfTrailingZeros_0f7a4_79 ⟨rfl, (by subst e1; subst e2; subst e3; subst e61; subst e89; subst e103; subst e110; subst e111; subst e112; rw [nz_F, if_pos c4, nz_0, if_neg c6, nz_1, if_neg c62, nz_2, if_neg c90, nz_3, if_neg c104, nz_4] <;> rfl)⟩
  · --
    have i113 : Iv v3 (-2147483648) 0 := iv_le1 (iv_nlt c4) (iv_top v3) (⟨by decide, by decide⟩ : Iv 0 0 0) (by decide)
    refine lv_iload_n hx hb dJ6_numberOfTrailingZeros_0f7a4_12 rfl (lv_at hl 0 rfl) ?_
    refine lv_bipush (v := 32) hx hb dJ6_numberOfTrailingZeros_0f7a4_13 (by decide) ?_
    refine lv_iand hx hb dJ6_numberOfTrailingZeros_0f7a4_15 ?_
    refine lv_topi (fun v114 e114 => ?_)
    have i114 : Iv v114 0 32 := iv_and e114 (⟨by decide, by decide⟩ : Iv 32 32 32) (by decide)
    rw [← hQ]
    exact o_ri cx rx hw dJ6_numberOfTrailingZeros_0f7a4_16 ⟨rfl, (by subst e1; subst e2; subst e3; subst e114; rw [nz_F, if_neg c4] <;> rfl)⟩
set_option maxHeartbeats 4000000 in
set_option maxRecDepth 100000 in
theorem c_J13_numberOfTrailingZeros_95d88S (a0 : Int64) (hsm : ∃ x : Int32, a0 = x.toInt64 ∧ Iv x 1 63) : oMet l A L τ cy D K yJ13_numberOfTrailingZeros_95d88 cJ13_numberOfTrailingZeros_95d88 3 (some .int) 1 21 [.long a0] σ (va_Qi (fun r σ1 => σ1 = σ ∧ Iv r 0 5) (oPo A L τ cy D) A) := by
  refine oMk (by decide) (Nat.le_of_ble_eq_true rfl) rfl ?_
  intro p e s m args below meth c ls cx rx hA hw hl
  generalize hQ : MQ below _ args s 0 0 A = Q
  have hx := cx.1.1
  have hb := cx.1.2.1
  have hml := cx.1.2.2.1
  have hown := cx.1.2.2.2.1
  have hts := cx.1.2.2.2.2
  have hl : lv_has ls 3 [(0, .long a0)] := hl
  refine lv_lload_n hx hb dJ13_numberOfTrailingZeros_95d88_0 rfl (lv_at hl 0 rfl) ?_
  refine lv_l2i hx hb dJ13_numberOfTrailingZeros_95d88_1 rfl ?_
  refine lv_topi (fun v1 e1 => ?_)
  refine lv_istore_n (lv' := [(2, .int v1), (0, .long a0)]) hx hb dJ13_numberOfTrailingZeros_95d88_2 rfl hl (by decide) rfl (fun ls hl => ?_)
  have i2 : Iv v1 1 63 := sm_l2i hsm e1
  refine lv_iload_n hx hb dJ13_numberOfTrailingZeros_95d88_3 rfl (lv_at hl 0 rfl) ?_
  refine lv_if_ne (tgt := 21) hx hb dJ13_numberOfTrailingZeros_95d88_4 (by decide) (fun c3 => ?_) (fun c3 => ?_)
  · --
    refine lv_iload_n hx hb dJ13_numberOfTrailingZeros_95d88_21 rfl (lv_at hl 0 rfl) ?_
    refine o_ci hw (oRunS cx hA hw q_J6_numberOfTrailingZeros_0f7a4 k_m_J13_311 (As := [.int v1]) (c_J6_numberOfTrailingZeros_0f7a4 v1) (by decide) rfl hl.1 rfl (Nat.le_of_ble_eq_true rfl) dJ13_numberOfTrailingZeros_95d88_22 (by decide)) (fun v5 σ4 H locs hp hw => ?_)
    obtain ⟨p5_0, p5_1⟩ := hp
    rw [p5_0] at hw
    have i6 : Iv v5 0 5 := nz_ok p5_1 i2 (by decide)
    rw [← hQ]
    exact o_ri cx rx hw dJ13_numberOfTrailingZeros_95d88_25 ⟨rfl, (iv_w i6 (by decide))⟩
  · --
    exact iv_no (iv_eq1 (lo := 1) (hi := 0) c3 i2 (⟨by decide, by decide⟩ : Iv 0 0 0) (by decide)) (by decide)
set_option maxHeartbeats 4000000 in
set_option maxRecDepth 100000 in
theorem c_J13_numberOfTrailingZeros_95d88 (a0 : Int64) : oMet l A L τ cy D K yJ13_numberOfTrailingZeros_95d88 cJ13_numberOfTrailingZeros_95d88 3 (some .int) 1 21 [.long a0] σ (va_Qi (fun r σ1 => σ1 = σ) (oPo A L τ cy D) A) := by
  refine oMk (by decide) (Nat.le_of_ble_eq_true rfl) rfl ?_
  intro p e s m args below meth c ls cx rx hA hw hl
  generalize hQ : MQ below _ args s 0 0 A = Q
  have hx := cx.1.1
  have hb := cx.1.2.1
  have hml := cx.1.2.2.1
  have hown := cx.1.2.2.2.1
  have hts := cx.1.2.2.2.2
  have hl : lv_has ls 3 [(0, .long a0)] := hl
  refine lv_lload_n hx hb dJ13_numberOfTrailingZeros_95d88_0 rfl (lv_at hl 0 rfl) ?_
  refine lv_l2i hx hb dJ13_numberOfTrailingZeros_95d88_1 rfl ?_
  refine lv_topi (fun v1 e1 => ?_)
  refine lv_istore_n (lv' := [(2, .int v1), (0, .long a0)]) hx hb dJ13_numberOfTrailingZeros_95d88_2 rfl hl (by decide) rfl (fun ls hl => ?_)
  refine lv_iload_n hx hb dJ13_numberOfTrailingZeros_95d88_3 rfl (lv_at hl 0 rfl) ?_
  refine lv_if_ne (tgt := 21) hx hb dJ13_numberOfTrailingZeros_95d88_4 (by decide) (fun c2 => ?_) (fun c2 => ?_)
  · --
    refine lv_iload_n hx hb dJ13_numberOfTrailingZeros_95d88_21 rfl (lv_at hl 0 rfl) ?_
    refine o_ci hw (oRunS cx hA hw q_J6_numberOfTrailingZeros_0f7a4 k_m_J13_311 (As := [.int v1]) (c_J6_numberOfTrailingZeros_0f7a4 v1) (by decide) rfl hl.1 rfl (Nat.le_of_ble_eq_true rfl) dJ13_numberOfTrailingZeros_95d88_22 (by decide)) (fun v4 σ3 H locs hp hw => ?_)
    obtain ⟨p4_0, p4_1⟩ := hp
    rw [p4_0] at hw
    rw [← hQ]
    exact o_ri cx rx hw dJ13_numberOfTrailingZeros_95d88_25 rfl
  · --
    have i5 : Iv v1 0 0 := iv_eq1 c2 (iv_top v1) (⟨by decide, by decide⟩ : Iv 0 0 0) (by decide)
    refine lv_bipush (v := 32) hx hb dJ13_numberOfTrailingZeros_95d88_7 (by decide) ?_
    refine lv_lload_n hx hb dJ13_numberOfTrailingZeros_95d88_9 rfl (lv_at hl 1 rfl) ?_
    refine lv_bipush (v := 32) hx hb dJ13_numberOfTrailingZeros_95d88_10 (by decide) ?_
    refine lv_lushr hx hb dJ13_numberOfTrailingZeros_95d88_12 rfl ?_
    refine lv_topl (fun v6 e6 => ?_)
    refine lv_l2i hx hb dJ13_numberOfTrailingZeros_95d88_13 rfl ?_
    refine lv_topi (fun v7 e7 => ?_)
    refine o_ci hw (oRunS cx hA hw q_J6_numberOfTrailingZeros_0f7a4 k_m_J13_311 (As := [.int v7]) (c_J6_numberOfTrailingZeros_0f7a4 v7) (by decide) rfl hl.1 rfl (Nat.le_of_ble_eq_true rfl) dJ13_numberOfTrailingZeros_95d88_14 (by decide)) (fun v9 σ8 H locs hp hw => ?_)
    obtain ⟨p9_0, p9_1⟩ := hp
    rw [p9_0] at hw
    refine lv_iadd hx hb dJ13_numberOfTrailingZeros_95d88_17 ?_
    refine lv_topi (fun v10 e10 => ?_)
    refine lv_goto (tgt := 25) hx hb dJ13_numberOfTrailingZeros_95d88_18 (by decide) ?_
    rw [← hQ]
    exact o_ri cx rx hw dJ13_numberOfTrailingZeros_95d88_25 rfl
end OM
