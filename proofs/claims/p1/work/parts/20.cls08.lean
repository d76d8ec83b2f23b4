section OM
variable {l : Launch} {A : Nat → Prop} {L : List Nat} {τ : Nat → Nat} {cy : Nat → ClassId} {D : va_G} {K : (Nat → Nat) × (Nat → Nat)} {σ : oSt}
set_option maxHeartbeats 4000000 in
set_option maxRecDepth 100000 in
theorem c_X8_leastWithWay (a0 : Nat) (ha0 : oA L τ a0 7) (a1 : Int32) : oMet l A L τ cy D K yX8_leastWithWay cX8_leastWithWay 5 (some .int) 1 22 [.ref a0, .int a1] σ (va_Qi (fun r σ1 => σ1 = σ ∧ Iv r (-1) 63) (oPo A L τ cy D) A) := by
  refine oMk (by decide) (Nat.le_of_ble_eq_true rfl) rfl ?_
  intro p e s m args below meth c ls cx rx hA hw hl
  generalize hQ : MQ below _ args s 0 0 A = Q
  have hx := cx.1.1
  have hb := cx.1.2.1
  have hml := cx.1.2.2.1
  have hown := cx.1.2.2.2.1
  have hts := cx.1.2.2.2.2
  have hl : lv_has ls 5 [(0, .ref a0), (1, .int a1)] := hl
  refine lv_iload_n hx hb dX8_leastWithWay_0 rfl (lv_at hl 1 rfl) ?_
  refine o_cl hw (oRunS cx hA hw q_X0_bit k_m_X8_34 (As := [.int a1]) (c_X0_bit a1) (by decide) rfl hl.1 rfl (Nat.le_of_ble_eq_true rfl) dX8_leastWithWay_1 (by decide)) (fun v2 σ1 H locs hp hw => ?_)
  have p2_0 := hp
  rw [p2_0] at hw
  refine o_cl hw (oRunS cx hA hw q_X0_beside k_m_X8_38 (As := [.long v2]) (c_X0_beside v2) (by decide) rfl hl.1 rfl (Nat.le_of_ble_eq_true rfl) dX8_leastWithWay_4 (by decide)) (fun v4 σ3 H locs hp hw => ?_)
  have p4_0 := hp
  rw [p4_0] at hw
  refine lv_lstore_n (lv' := [(2, .long v4), (0, .ref a0), (1, .int a1)]) hx hb dX8_leastWithWay_7 rfl hl (by decide) rfl (fun ls hl => ?_)
  refine lv_iconst (v := 0) hx hb dX8_leastWithWay_8 (by decide) ?_
  refine lv_istore (lv' := [(4, .int 0), (2, .long v4), (0, .ref a0), (1, .int a1)]) hx hb dX8_leastWithWay_9 hl (by decide) rfl (fun ls hl => ?_)
  have J_11 : ∀ n : Nat, ∀ (j11_4 : Int32) (ij11_4 : Iv j11_4 0 64), (64 - j11_4.toInt).toNat < n → ∀ (H : Heap) (locs : List Loc), oI A L τ cy D s.heap σ H locs → ∀ (ls : Array Slot), lv_has ls 5 [(0, .ref a0), (1, .int a1), (2, .long v4), (4, .int j11_4)] → W p l e ({ frames := 1, cells := 0, slots := 0, locals := 22 } : Room) s m args below meth c H locs 0 0 Q (F0 m 11 ls []) := by
    intro n
    induction n with
    | zero => intro j11_4 ij11_4 hn_11  H locs hw  ls hl; exact absurd hn_11 (Nat.not_lt_zero _)
    | succ n ih_11 =>
      intro j11_4 ij11_4 hn_11  H locs hw  ls hl
      refine lv_iload hx hb dX8_leastWithWay_11 (lv_at hl 3 rfl) ?_
      refine lv_bipush (v := 64) hx hb dX8_leastWithWay_13 (by decide) ?_
      refine lv_icmp_ge (tgt := 48) hx hb dX8_leastWithWay_15 (by decide) (fun c5 => ?_) (fun c5 => ?_)
      · --
        have i6 : Iv j11_4 64 64 := iv_le2 c5 (⟨by decide, by decide⟩ : Iv 64 64 64) ij11_4 (by decide)
        refine lv_iconst (v := (-1)) hx hb dX8_leastWithWay_48 (by decide) ?_
        rw [← hQ]
        exact o_ri cx rx hw dX8_leastWithWay_49 ⟨rfl, (iv_w (⟨by decide, by decide⟩ : Iv (-1) (-1) (-1)) (by decide))⟩
      · --
        have i7 : Iv j11_4 0 63 := iv_lt1 (iv_nle c5) ij11_4 (⟨by decide, by decide⟩ : Iv 64 64 64) (by decide)
        refine lv_lload_n hx hb dX8_leastWithWay_18 rfl (lv_at hl 2 rfl) ?_
        refine lv_iload hx hb dX8_leastWithWay_19 (lv_at hl 3 rfl) ?_
        refine o_ci hw (oRunS cx hA hw q_X0_has k_m_X8_28 (As := [.long v4, .int j11_4]) (c_X0_has v4 j11_4) (by decide) rfl hl.1 rfl (Nat.le_of_ble_eq_true rfl) dX8_leastWithWay_21 (by decide)) (fun v9 σ8 H locs hp hw => ?_)
        obtain ⟨p9_0, p9_1, p9_2⟩ := hp
        rw [p9_0] at hw
        have J_42 : ∀ (H : Heap) (locs : List Loc), oI A L τ cy D s.heap σ H locs → ∀ (ls : Array Slot), lv_has ls 5 [(0, .ref a0), (1, .int a1), (2, .long v4), (4, .int j11_4)] → W p l e ({ frames := 1, cells := 0, slots := 0, locals := 22 } : Room) s m args below meth c H locs 0 0 Q (F0 m 42 ls []) := by
          intro    H locs hw  ls hl
          obtain ⟨v10, e10⟩ : ∃ y : Int32, y = j11_4 + 1 := ⟨_, rfl⟩
          have i10 : Iv v10 1 64 := iv_add e10 i7 (⟨by decide, by decide⟩ : Iv 1 1 1) (by decide)
          have x10 : v10.toInt = j11_4.toInt + 1 := ex_add e10 i7 (⟨by decide, by decide⟩ : Iv 1 1 1) (by decide)
          refine lv_iinc (v := v10) (lv' := [(4, .int v10), (0, .ref a0), (1, .int a1), (2, .long v4)]) hx hb dX8_leastWithWay_42 hl (k := 3) rfl (by rw [e10]; rfl) (by decide) rfl (fun ls hl => ?_)
          refine lv_goto (tgt := 11) hx hb dX8_leastWithWay_45 (by decide) ?_
          exact ih_11 v10 (iv_w i10 (by decide)) (ms_up x10 (by decide) (iv_w (a' := 0) (b' := 64) i10 (by decide)).2 hn_11) _ _ hw _ (lv_sub hl [1, 2, 3, 0] rfl)
        refine lv_if_eq (tgt := 42) hx hb dX8_leastWithWay_24 (by decide) (fun c11 => ?_) (fun c11 => ?_)
        · --
          have i12 : Iv v9 0 0 := iv_eq1 c11 p9_1 (⟨by decide, by decide⟩ : Iv 0 0 0) (by decide)
          exact J_42 _ _ hw _ (lv_sub hl [0, 1, 2, 3] rfl)
        · --
          have i13 : Iv v9 1 1 := iv_ne1 c11 p9_1 (⟨by decide, by decide⟩ : Iv 0 0 0) (by decide)
          have i14 : Iv j11_4 0 63 := p9_2 c11
          refine lv_aload_n hx hb dX8_leastWithWay_27 rfl (lv_at hl 0 rfl) ?_
          refine g_449 cx hw ha0 k_f_X8_15 dX8_leastWithWay_28 (fun v15 e15 h15 => ?_)
          refine lv_iload hx hb dX8_leastWithWay_31 (lv_at hl 3 rfl) ?_
          refine o_lald cx hw h15 (by decide) rfl (iv_in i14 (by decide)) dX8_leastWithWay_33 (fun v16 e16 => ?_)
          refine lv_lconst (v := 0) hx hb dX8_leastWithWay_34 (by decide) ?_
          refine W.lcmp hx hb dX8_leastWithWay_35 ?_
          refine lv_topi (fun v17 e17 => ?_)
          have i17 : Iv v17 (-1) 1 := iv_lcmp e17
          refine lv_if_le (tgt := 42) hx hb dX8_leastWithWay_36 (by decide) (fun c18 => ?_) (fun c18 => ?_)
          · --
            have i19 : Iv v17 (-1) 0 := iv_le1 c18 i17 (⟨by decide, by decide⟩ : Iv 0 0 0) (by decide)
            exact J_42 _ _ hw _ (lv_sub hl [0, 1, 2, 3] rfl)
          · --
            have i20 : Iv v17 1 1 := iv_lt2 (iv_nle c18) (⟨by decide, by decide⟩ : Iv 0 0 0) i17 (by decide)
            refine lv_iload hx hb dX8_leastWithWay_39 (lv_at hl 3 rfl) ?_
            rw [← hQ]
            exact o_ri cx rx hw dX8_leastWithWay_41 ⟨rfl, (iv_w i14 (by decide))⟩
  exact J_11 _ 0 (iv_w (⟨by decide, by decide⟩ : Iv 0 0 0) (by decide)) (Nat.lt_succ_self _) _ _ hw _ (lv_sub hl [2, 3, 1, 0] rfl)
abbrev fs_X10_faultOfSightings : List Nat := [386]
abbrev ts_X10_faultOfSightings : List Nat := []
set_option maxHeartbeats 4000000 in
set_option maxRecDepth 100000 in
theorem c_X10_faultOfSightings (a0 : Nat) (ha0 : oA L τ a0 9) : oMet l A L τ cy D K yX10_faultOfSightings cX10_faultOfSightings 2 (some .int) 4 90 [.ref a0] σ (va_Qi (fun r σ1 => oFr τ fs_X10_faultOfSightings ts_X10_faultOfSightings σ σ1) (oPo A L τ cy D) A) := by
  refine oMk (by decide) (Nat.le_of_ble_eq_true rfl) rfl ?_
  intro p e s m args below meth c ls cx rx hA hw hl
  generalize hQ : MQ below _ args s 0 0 A = Q
  have hx := cx.1.1
  have hb := cx.1.2.1
  have hml := cx.1.2.2.1
  have hown := cx.1.2.2.2.1
  have hts := cx.1.2.2.2.2
  have hl : lv_has ls 2 [(0, .ref a0)] := hl
  have fr : oFr τ fs_X10_faultOfSightings ts_X10_faultOfSightings σ σ := oFr_rf
  refine lv_iconst (v := 0) hx hb dX10_faultOfSightings_0 (by decide) ?_
  refine lv_istore_n (lv' := [(1, .int 0), (0, .ref a0)]) hx hb dX10_faultOfSightings_1 rfl hl (by decide) rfl (fun ls hl => ?_)
  have J_2 : ∀ n : Nat, ∀ (j2_1 : Int32) (ij2_1 : Iv j2_1 0 12), (12 - j2_1.toInt).toNat < n → ∀ (σ_2 : oSt) (H : Heap) (locs : List Loc), oI A L τ cy D s.heap σ_2 H locs → oFr τ fs_X10_faultOfSightings ts_X10_faultOfSightings σ σ_2 → ∀ (ls : Array Slot), lv_has ls 2 [(0, .ref a0), (1, .int j2_1)] → W p l e ({ frames := 4, cells := 0, slots := 0, locals := 90 } : Room) s m args below meth c H locs 0 0 Q (F0 m 2 ls []) := by
    intro n
    induction n with
    | zero => intro j2_1 ij2_1 hn_2  σ_2 H locs hw fr   ls hl; exact absurd hn_2 (Nat.not_lt_zero _)
    | succ n ih_2 =>
      intro j2_1 ij2_1 hn_2  σ_2 H locs hw fr   ls hl
      refine lv_iload_n hx hb dX10_faultOfSightings_2 rfl (lv_at hl 1 rfl) ?_
      refine lv_bipush (v := 12) hx hb dX10_faultOfSightings_3 (by decide) ?_
      refine lv_icmp_ge (tgt := 56) hx hb dX10_faultOfSightings_5 (by decide) (fun c1 => ?_) (fun c1 => ?_)
      · --
        have i2 : Iv j2_1 12 12 := iv_le2 c1 (⟨by decide, by decide⟩ : Iv 12 12 12) ij2_1 (by decide)
        refine lv_aload_n hx hb dX10_faultOfSightings_56 rfl (lv_at hl 0 rfl) ?_
        refine g_576 cx hw ha0 k_f_X10_10 dX10_faultOfSightings_57 (fun v3 e3 h3 => ?_)
        refine o_ci hw (oRunV cx hA hw q_X7_fault k_m_X10_231 rfl h3 (by decide) (As := []) (c_X7_fault v3 h3) (by decide) rfl hl.1 rfl (Nat.le_of_ble_eq_true rfl) dX10_faultOfSightings_60 (by decide)) (fun v5 σ4 H locs hp hw => ?_)
        have p5_0 := hp
        rw [p5_0] at hw
        rw [← hQ]
        exact o_ri cx rx hw dX10_faultOfSightings_63 fr
      · --
        have i6 : Iv j2_1 0 11 := iv_lt1 (iv_nle c1) ij2_1 (⟨by decide, by decide⟩ : Iv 12 12 12) (by decide)
        refine lv_aload_n hx hb dX10_faultOfSightings_8 rfl (lv_at hl 0 rfl) ?_
        refine lv_aload_n hx hb dX10_faultOfSightings_9 rfl (lv_at hl 0 rfl) ?_
        refine g_578 cx hw ha0 k_f_X10_26 dX10_faultOfSightings_10 (fun v7 e7 h7 => ?_)
        refine g_64 cx hw h7 k_f_X10_121 dX10_faultOfSightings_13 (fun v8 e8 => ?_)
        refine lv_aload_n hx hb dX10_faultOfSightings_16 rfl (lv_at hl 0 rfl) ?_
        refine g_578 cx hw ha0 k_f_X10_26 dX10_faultOfSightings_17 (fun v9 e9 h9 => ?_)
        rw [show v9 = v7 from Option.some.inj (e9.symm.trans (e7))]
        refine g_65 cx hw h7 k_f_X10_124 dX10_faultOfSightings_20 (fun v10 e10 => ?_)
        refine o_ci hw (oRunV cx hA hw q_X10_readCell k_m_X10_238 rfl ha0 (by decide) (As := [.int v8, .int v10]) (c_X10_readCell a0 ha0 v8 v10) (by decide) rfl hl.1 rfl (Nat.le_of_ble_eq_true rfl) dX10_faultOfSightings_23 (by decide)) (fun v12 σ11 H locs hp hw => ?_)
        have p12_0 := hp
        have fr := oFr_tr fr p12_0 (by decide)
        refine lv_iconst (v := (-1)) hx hb dX10_faultOfSightings_26 (by decide) ?_
        refine lv_icmp_ne (tgt := 38) hx hb dX10_faultOfSightings_27 (by decide) (fun c13 => ?_) (fun c13 => ?_)
        · --
          refine lv_aload_n hx hb dX10_faultOfSightings_38 rfl (lv_at hl 0 rfl) ?_
          refine g_576 cx hw ha0 k_f_X10_10 dX10_faultOfSightings_39 (fun v14 e14 h14 => ?_)
          refine o_ci hw (oRunV cx hA hw q_X7_isAtEnd k_m_X10_224 rfl h14 (by decide) (As := []) (c_X7_isAtEnd v14 h14) (by decide) rfl hl.1 rfl (Nat.le_of_ble_eq_true rfl) dX10_faultOfSightings_42 (by decide)) (fun v16 σ15 H locs hp hw => ?_)
          obtain ⟨p16_0, p16_1⟩ := hp
          rw [p16_0] at hw
          refine lv_if_eq (tgt := 50) hx hb dX10_faultOfSightings_45 (by decide) (fun c17 => ?_) (fun c17 => ?_)
          · --
            have i18 : Iv v16 0 0 := iv_eq1 c17 p16_1 (⟨by decide, by decide⟩ : Iv 0 0 0) (by decide)
            obtain ⟨v19, e19⟩ : ∃ y : Int32, y = j2_1 + 1 := ⟨_, rfl⟩
            have i19 : Iv v19 1 12 := iv_add e19 i6 (⟨by decide, by decide⟩ : Iv 1 1 1) (by decide)
            have x19 : v19.toInt = j2_1.toInt + 1 := ex_add e19 i6 (⟨by decide, by decide⟩ : Iv 1 1 1) (by decide)
            refine lv_iinc (v := v19) (lv' := [(1, .int v19), (0, .ref a0)]) hx hb dX10_faultOfSightings_50 hl (k := 1) rfl (by rw [e19]; rfl) (by decide) rfl (fun ls hl => ?_)
            refine lv_goto (tgt := 2) hx hb dX10_faultOfSightings_53 (by decide) ?_
            exact ih_2 v19 (iv_w i19 (by decide)) (ms_up x19 (by decide) (iv_w (a' := 0) (b' := 12) i19 (by decide)).2 hn_2) σ11 _ _ hw fr _ (lv_sub hl [1, 0] rfl)
          · --
            have i20 : Iv v16 1 1 := iv_ne1 c17 p16_1 (⟨by decide, by decide⟩ : Iv 0 0 0) (by decide)
            refine lv_iconst (v := 0) hx hb dX10_faultOfSightings_48 (by decide) ?_
            rw [← hQ]
            exact o_ri cx rx hw dX10_faultOfSightings_49 fr
        · --
          have i21 : Iv v12 (-1) (-1) := iv_eq1 c13 (iv_top v12) (⟨by decide, by decide⟩ : Iv (-1) (-1) (-1)) (by decide)
          refine lv_aload_n hx hb dX10_faultOfSightings_30 rfl (lv_at hl 0 rfl) ?_
          refine g_576 cx hw ha0 k_f_X10_10 dX10_faultOfSightings_31 (fun v22 e22 h22 => ?_)
          refine o_ci hw (oRunV cx hA hw q_X7_fault k_m_X10_231 rfl h22 (by decide) (As := []) (c_X7_fault v22 h22) (by decide) rfl hl.1 rfl (Nat.le_of_ble_eq_true rfl) dX10_faultOfSightings_34 (by decide)) (fun v24 σ23 H locs hp hw => ?_)
          have p24_0 := hp
          rw [p24_0] at hw
          rw [← hQ]
          exact o_ri cx rx hw dX10_faultOfSightings_37 fr
  exact J_2 _ 0 (iv_w (⟨by decide, by decide⟩ : Iv 0 0 0) (by decide)) (Nat.lt_succ_self _) σ _ _ hw fr _ (lv_sub hl [1, 0] rfl)
abbrev fs_X8_shareOut : List Nat := []
abbrev ts_X8_shareOut : List Nat := [39]
set_option maxHeartbeats 4000000 in
set_option maxRecDepth 100000 in
theorem c_X8_shareOut (a0 : Nat) (ha0 : oA L τ a0 7) (a1 : Int64) (a2 : Int32) (ia2 : Iv a2 0 63) : oMet l A L τ cy D K yX8_shareOut cX8_shareOut 9 none 1 22 [.ref a0, .long a1, .int a2] σ (va_Qv (fun σ1 => oFr τ fs_X8_shareOut ts_X8_shareOut σ σ1) (oPo A L τ cy D) A) := by
  refine oMk (by decide) (Nat.le_of_ble_eq_true rfl) rfl ?_
  intro p e s m args below meth c ls cx rx hA hw hl
  generalize hQ : MQ below _ args s 0 0 A = Q
  have hx := cx.1.1
  have hb := cx.1.2.1
  have hml := cx.1.2.2.1
  have hown := cx.1.2.2.2.1
  have hts := cx.1.2.2.2.2
  have hl : lv_has ls 9 [(0, .ref a0), (1, .long a1), (3, .int a2)] := hl
  have fr : oFr τ fs_X8_shareOut ts_X8_shareOut σ σ := oFr_rf
  refine lv_iconst (v := 1) hx hb dX8_shareOut_0 (by decide) ?_
  refine lv_iload_n hx hb dX8_shareOut_1 rfl (lv_at hl 2 rfl) ?_
  refine o_cl hw (oRunS cx hA hw q_X0_bit k_m_X8_34 (As := [.int a2]) (c_X0_bit a2) (by decide) rfl hl.1 rfl (Nat.le_of_ble_eq_true rfl) dX8_shareOut_2 (by decide)) (fun v2 σ1 H locs hp hw => ?_)
  have p2_0 := hp
  rw [p2_0] at hw
  refine o_cl hw (oRunS cx hA hw q_X0_beside k_m_X8_38 (As := [.long v2]) (c_X0_beside v2) (by decide) rfl hl.1 rfl (Nat.le_of_ble_eq_true rfl) dX8_shareOut_5 (by decide)) (fun v4 σ3 H locs hp hw => ?_)
  have p4_0 := hp
  rw [p4_0] at hw
  refine lv_lload_n hx hb dX8_shareOut_8 rfl (lv_at hl 1 rfl) ?_
  refine lv_land hx hb dX8_shareOut_9 ?_
  refine lv_topl (fun v5 e5 => ?_)
  refine o_ci hw (oRunS cx hA hw q_J13_bitCount_95d88 k_m_X8_72 (As := [.long v5]) (c_J13_bitCount_95d88 v5) (by decide) rfl hl.1 rfl (Nat.le_of_ble_eq_true rfl) dX8_shareOut_10 (by decide)) (fun v7 σ6 H locs hp hw => ?_)
  obtain ⟨p7_0, p7_1⟩ := hp
  rw [p7_0] at hw
  refine lv_iadd hx hb dX8_shareOut_13 ?_
  refine lv_topi (fun v8 e8 => ?_)
  have i8 : Iv v8 1 128 := iv_add e8 (⟨by decide, by decide⟩ : Iv 1 1 1) p7_1 (by decide)
  have x8 : v8.toInt = v7.toInt + 1 := (ex_add e8 (⟨by decide, by decide⟩ : Iv 1 1 1) p7_1 (by decide)).trans (Int.add_comm _ _)
  refine lv_istore (lv' := [(4, .int v8), (0, .ref a0), (1, .long a1), (3, .int a2)]) hx hb dX8_shareOut_14 hl (by decide) rfl (fun ls hl => ?_)
  refine lv_aload_n hx hb dX8_shareOut_16 rfl (lv_at hl 1 rfl) ?_
  refine g_449 cx hw ha0 k_f_X8_15 dX8_shareOut_17 (fun v9 e9 h9 => ?_)
  refine lv_iload_n hx hb dX8_shareOut_20 rfl (lv_at hl 3 rfl) ?_
  refine o_lald cx hw h9 (by decide) rfl (iv_in ia2 (by decide)) dX8_shareOut_21 (fun v10 e10 => ?_)
  refine lv_iload hx hb dX8_shareOut_22 (lv_at hl 0 rfl) ?_
  refine lv_i2l hx hb dX8_shareOut_24 rfl ?_
  refine lv_topl (fun v11 e11 => ?_)
  refine lv_ldiv hx hb dX8_shareOut_25 (by rw [e11]; exact iv_nzl i8 (by decide)) ?_
  refine lv_topl (fun v12 e12 => ?_)
  refine lv_lstore (lv' := [(5, .long v12), (4, .int v8), (0, .ref a0), (1, .long a1), (3, .int a2)]) hx hb dX8_shareOut_26 hl (by decide) rfl (fun ls hl => ?_)
  refine lv_aload_n hx hb dX8_shareOut_28 rfl (lv_at hl 2 rfl) ?_
  refine g_450 cx hw ha0 k_f_X8_19 dX8_shareOut_29 (fun v13 e13 h13 => ?_)
  refine lv_iload_n hx hb dX8_shareOut_32 rfl (lv_at hl 4 rfl) ?_
  refine lv_dup2_11 hx hb dX8_shareOut_33 rfl rfl ?_
  refine o_lald cx hw h13 (by decide) rfl (iv_in ia2 (by decide)) dX8_shareOut_34 (fun v14 e14 => ?_)
  refine lv_lload hx hb dX8_shareOut_35 (lv_at hl 0 rfl) ?_
  refine lv_ladd hx hb dX8_shareOut_37 ?_
  refine lv_topl (fun v15 e15 => ?_)
  refine o_last cx hw h13 (by decide) rfl (iv_in ia2 (by decide)) dX8_shareOut_38 (fun σ16 H locs eσ16 hw => ?_)
  have fr := oFr_q fr eσ16 h13 (by decide)
  refine lv_iconst (v := 0) hx hb dX8_shareOut_39 (by decide) ?_
  refine lv_istore (lv' := [(7, .int 0), (5, .long v12), (4, .int v8), (0, .ref a0), (1, .long a1), (3, .int a2)]) hx hb dX8_shareOut_40 hl (by decide) rfl (fun ls hl => ?_)
  have J_42 : ∀ n : Nat, ∀ (j42_7 : Int32) (ij42_7 : Iv j42_7 0 4), (4 - j42_7.toInt).toNat < n → ∀ (σ_42 : oSt) (H : Heap) (locs : List Loc), oI A L τ cy D s.heap σ_42 H locs → oFr τ fs_X8_shareOut ts_X8_shareOut σ σ_42 → ∀ (ls : Array Slot), lv_has ls 9 [(0, .ref a0), (1, .long a1), (3, .int a2), (4, .int v8), (5, .long v12), (7, .int j42_7)] → W p l e ({ frames := 1, cells := 0, slots := 0, locals := 22 } : Room) s m args below meth c H locs 0 0 Q (F0 m 42 ls []) := by
    intro n
    induction n with
    | zero => intro j42_7 ij42_7 hn_42  σ_42 H locs hw fr   ls hl; exact absurd hn_42 (Nat.not_lt_zero _)
    | succ n ih_42 =>
      intro j42_7 ij42_7 hn_42  σ_42 H locs hw fr   ls hl
      refine lv_iload hx hb dX8_shareOut_42 (lv_at hl 5 rfl) ?_
      refine lv_iconst (v := 3) hx hb dX8_shareOut_44 (by decide) ?_
      refine lv_icmp_gt (tgt := 83) hx hb dX8_shareOut_45 (by decide) (fun c17 => ?_) (fun c17 => ?_)
      · --
        have i18 : Iv j42_7 4 4 := iv_lt2 c17 (⟨by decide, by decide⟩ : Iv 3 3 3) ij42_7 (by decide)
        rw [← hQ]
        exact o_rv cx rx hw dX8_shareOut_83 fr
      · --
        have i19 : Iv j42_7 0 3 := iv_le1 (iv_nlt c17) ij42_7 (⟨by decide, by decide⟩ : Iv 3 3 3) (by decide)
        refine lv_iload_n hx hb dX8_shareOut_48 rfl (lv_at hl 2 rfl) ?_
        refine lv_iload hx hb dX8_shareOut_49 (lv_at hl 5 rfl) ?_
        refine o_ci hw (oRunS cx hA hw q_X0_next k_m_X8_56 (As := [.int a2, .int j42_7]) (c_X0_next a2 (iv_w ia2 (by decide)) j42_7) (by decide) rfl hl.1 rfl (Nat.le_of_ble_eq_true rfl) dX8_shareOut_51 (by decide)) (fun v21 σ20 H locs hp hw => ?_)
        obtain ⟨p21_0, p21_1⟩ := hp
        rw [p21_0] at hw
        refine lv_istore (lv' := [(8, .int v21), (0, .ref a0), (1, .long a1), (3, .int a2), (4, .int v8), (5, .long v12), (7, .int j42_7)]) hx hb dX8_shareOut_54 hl (by decide) rfl (fun ls hl => ?_)
        refine lv_lload_n hx hb dX8_shareOut_56 rfl (lv_at hl 2 rfl) ?_
        refine lv_iload hx hb dX8_shareOut_57 (lv_at hl 0 rfl) ?_
        refine o_ci hw (oRunS cx hA hw q_X0_has k_m_X8_28 (As := [.long a1, .int v21]) (c_X0_has a1 v21) (by decide) rfl hl.1 rfl (Nat.le_of_ble_eq_true rfl) dX8_shareOut_59 (by decide)) (fun v23 σ22 H locs hp hw => ?_)
        obtain ⟨p23_0, p23_1, p23_2⟩ := hp
        rw [p23_0] at hw
        have J_77 : ∀ (σ_77 : oSt) (H : Heap) (locs : List Loc), oI A L τ cy D s.heap σ_77 H locs → oFr τ fs_X8_shareOut ts_X8_shareOut σ σ_77 → ∀ (ls : Array Slot), lv_has ls 9 [(0, .ref a0), (1, .long a1), (3, .int a2), (4, .int v8), (5, .long v12), (7, .int j42_7), (8, .int v21)] → W p l e ({ frames := 1, cells := 0, slots := 0, locals := 22 } : Room) s m args below meth c H locs 0 0 Q (F0 m 77 ls []) := by
          intro    σ_77 H locs hw fr   ls hl
          obtain ⟨v24, e24⟩ : ∃ y : Int32, y = j42_7 + 1 := ⟨_, rfl⟩
          have i24 : Iv v24 1 4 := iv_add e24 i19 (⟨by decide, by decide⟩ : Iv 1 1 1) (by decide)
          have x24 : v24.toInt = j42_7.toInt + 1 := ex_add e24 i19 (⟨by decide, by decide⟩ : Iv 1 1 1) (by decide)
          refine lv_iinc (v := v24) (lv' := [(7, .int v24), (0, .ref a0), (1, .long a1), (3, .int a2), (4, .int v8), (5, .long v12), (8, .int v21)]) hx hb dX8_shareOut_77 hl (k := 5) rfl (by rw [e24]; rfl) (by decide) rfl (fun ls hl => ?_)
          refine lv_goto (tgt := 42) hx hb dX8_shareOut_80 (by decide) ?_
          exact ih_42 v24 (iv_w i24 (by decide)) (ms_up x24 (by decide) (iv_w (a' := 0) (b' := 4) i24 (by decide)).2 hn_42) σ_77 _ _ hw fr _ (lv_sub hl [1, 2, 3, 4, 5, 0] rfl)
        refine lv_if_eq (tgt := 77) hx hb dX8_shareOut_62 (by decide) (fun c25 => ?_) (fun c25 => ?_)
        · --
          have i26 : Iv v23 0 0 := iv_eq1 c25 p23_1 (⟨by decide, by decide⟩ : Iv 0 0 0) (by decide)
          exact J_77 σ_42 _ _ hw fr _ (lv_sub hl [1, 2, 3, 4, 5, 6, 0] rfl)
        · --
          have i27 : Iv v23 1 1 := iv_ne1 c25 p23_1 (⟨by decide, by decide⟩ : Iv 0 0 0) (by decide)
          have i28 : Iv v21 0 63 := p23_2 c25
          refine lv_aload_n hx hb dX8_shareOut_65 rfl (lv_at hl 1 rfl) ?_
          refine g_450 cx hw ha0 k_f_X8_19 dX8_shareOut_66 (fun v29 e29 h29 => ?_)
          refine lv_iload hx hb dX8_shareOut_69 (lv_at hl 0 rfl) ?_
          refine lv_dup2_11 hx hb dX8_shareOut_71 rfl rfl ?_
          refine o_lald cx hw h29 (by decide) rfl (iv_in i28 (by decide)) dX8_shareOut_72 (fun v30 e30 => ?_)
          refine lv_lload hx hb dX8_shareOut_73 (lv_at hl 5 rfl) ?_
          refine lv_ladd hx hb dX8_shareOut_75 ?_
          refine lv_topl (fun v31 e31 => ?_)
          refine o_last cx hw h29 (by decide) rfl (iv_in i28 (by decide)) dX8_shareOut_76 (fun σ32 H locs eσ32 hw => ?_)
          have fr := oFr_q fr eσ32 h29 (by decide)
          exact J_77 σ32 _ _ hw fr _ (lv_sub hl [1, 2, 3, 4, 5, 6, 0] rfl)
  exact J_42 _ 0 (iv_w (⟨by decide, by decide⟩ : Iv 0 0 0) (by decide)) (Nat.lt_succ_self _) σ16 _ _ hw fr _ (lv_sub hl [3, 4, 5, 2, 1, 0] rfl)
abbrev fs_X8_stray : List Nat := []
abbrev ts_X8_stray : List Nat := [39]
set_option maxHeartbeats 4000000 in
set_option maxRecDepth 100000 in
theorem c_X8_stray (a0 : Nat) (ha0 : oA L τ a0 7) (a1 : Int64) (a2 : Int32) (a3 : Int32) : oMet l A L τ cy D K yX8_stray cX8_stray 7 none 2 60 [.ref a0, .long a1, .int a2, .int a3] σ (va_Qv (fun σ1 => oFr τ fs_X8_stray ts_X8_stray σ σ1) (oPo A L τ cy D) A) := by
  refine oMk (by decide) (Nat.le_of_ble_eq_true rfl) rfl ?_
  intro p e s m args below meth c ls cx rx hA hw hl
  generalize hQ : MQ below _ args s 0 0 A = Q
  have hx := cx.1.1
  have hb := cx.1.2.1
  have hml := cx.1.2.2.1
  have hown := cx.1.2.2.2.1
  have hts := cx.1.2.2.2.2
  have hl : lv_has ls 7 [(0, .ref a0), (1, .long a1), (3, .int a2), (4, .int a3)] := hl
  have fr : oFr τ fs_X8_stray ts_X8_stray σ σ := oFr_rf
  refine lv_aload_n hx hb dX8_stray_0 rfl (lv_at hl 0 rfl) ?_
  refine g_449 cx hw ha0 k_f_X8_15 dX8_stray_1 (fun v1 e1 h1 => ?_)
  refine lv_lconst (v := 0) hx hb dX8_stray_4 (by decide) ?_
  refine o_cv hw (oRunS cx hA hw q_J7_fill_d0a16 k_m_X8_44 (As := [.ref v1, .long 0]) (c_J7_fill_d0a16 v1 h1 0) (by decide) rfl hl.1 rfl (Nat.le_of_ble_eq_true rfl) dX8_stray_5 (by decide)) (fun σ2 H locs hp hw => ?_)
  have p3_0 := hp
  have fr := oFr_tr fr p3_0 (by decide)
  refine lv_lload_n hx hb dX8_stray_8 rfl (lv_at hl 1 rfl) ?_
  refine lv_iload_n hx hb dX8_stray_9 rfl (lv_at hl 2 rfl) ?_
  refine o_ci hw (oRunS cx hA hw q_X0_has k_m_X8_28 (As := [.long a1, .int a2]) (c_X0_has a1 a2) (by decide) rfl hl.1 rfl (Nat.le_of_ble_eq_true rfl) dX8_stray_10 (by decide)) (fun v5 σ4 H locs hp hw => ?_)
  obtain ⟨p5_0, p5_1, p5_2⟩ := hp
  rw [p5_0] at hw
  have J_25 : ∀ (σ_25 : oSt) (H : Heap) (locs : List Loc), oI A L τ cy D s.heap σ_25 H locs → oFr τ fs_X8_stray ts_X8_stray σ σ_25 → ∀ (ls : Array Slot), lv_has ls 7 [(0, .ref a0), (1, .long a1), (3, .int a2), (4, .int a3)] → W p l e ({ frames := 2, cells := 0, slots := 0, locals := 60 } : Room) s m args below meth c H locs 0 0 Q (F0 m 25 ls []) := by
    intro    σ_25 H locs hw fr   ls hl
    refine lv_iconst (v := 0) hx hb dX8_stray_25 (by decide) ?_
    refine lv_istore (lv' := [(5, .int 0), (0, .ref a0), (1, .long a1), (3, .int a2), (4, .int a3)]) hx hb dX8_stray_26 hl (by decide) rfl (fun ls hl => ?_)
    have J_28 : ∀ n : Nat, ∀ (j28_5 : Int32) (ij28_5 : Iv j28_5 0 2147483647), (2147483647 - j28_5.toInt).toNat < n → ∀ (σ_28 : oSt) (H : Heap) (locs : List Loc), oI A L τ cy D s.heap σ_28 H locs → oFr τ fs_X8_stray ts_X8_stray σ σ_28 → ∀ (ls : Array Slot), lv_has ls 7 [(0, .ref a0), (1, .long a1), (3, .int a2), (4, .int a3), (5, .int j28_5)] → W p l e ({ frames := 2, cells := 0, slots := 0, locals := 60 } : Room) s m args below meth c H locs 0 0 Q (F0 m 28 ls []) := by
      intro n
      induction n with
      | zero => intro j28_5 ij28_5 hn_28  σ_28 H locs hw fr   ls hl; exact absurd hn_28 (Nat.not_lt_zero _)
      | succ n ih_28 =>
        intro j28_5 ij28_5 hn_28  σ_28 H locs hw fr   ls hl
        refine lv_iload hx hb dX8_stray_28 (lv_at hl 4 rfl) ?_
        refine lv_iload hx hb dX8_stray_30 (lv_at hl 3 rfl) ?_
        refine lv_icmp_ge (tgt := 99) hx hb dX8_stray_32 (by decide) (fun c6 => ?_) (fun c6 => ?_)
        · --
          rw [← hQ]
          exact o_rv cx rx hw dX8_stray_99 fr
        · --
          have i7 : Iv j28_5 0 2147483646 := iv_lt1 (iv_nle c6) ij28_5 (iv_top a3) (by decide)
          have i8 : Iv a3 1 2147483647 := iv_lt2 (iv_nle c6) ij28_5 (iv_top a3) (by decide)
          refine lv_aload_n hx hb dX8_stray_35 rfl (lv_at hl 0 rfl) ?_
          refine g_450 cx hw ha0 k_f_X8_19 dX8_stray_36 (fun v9 e9 h9 => ?_)
          refine lv_lconst (v := 0) hx hb dX8_stray_39 (by decide) ?_
          refine o_cv hw (oRunS cx hA hw q_J7_fill_d0a16 k_m_X8_44 (As := [.ref v9, .long 0]) (c_J7_fill_d0a16 v9 h9 0) (by decide) rfl hl.1 rfl (Nat.le_of_ble_eq_true rfl) dX8_stray_40 (by decide)) (fun σ10 H locs hp hw => ?_)
          have p11_0 := hp
          have fr := oFr_tr fr p11_0 (by decide)
          refine lv_iconst (v := 0) hx hb dX8_stray_43 (by decide) ?_
          refine lv_istore (lv' := [(6, .int 0), (0, .ref a0), (1, .long a1), (3, .int a2), (4, .int a3), (5, .int j28_5)]) hx hb dX8_stray_44 hl (by decide) rfl (fun ls hl => ?_)
          have J_46 : ∀ n : Nat, ∀ (j46_6 : Int32) (ij46_6 : Iv j46_6 0 64), (64 - j46_6.toInt).toNat < n → ∀ (σ_46 : oSt) (H : Heap) (locs : List Loc), oI A L τ cy D s.heap σ_46 H locs → oFr τ fs_X8_stray ts_X8_stray σ σ_46 → ∀ (ls : Array Slot), lv_has ls 7 [(0, .ref a0), (1, .long a1), (3, .int a2), (4, .int a3), (5, .int j28_5), (6, .int j46_6)] → W p l e ({ frames := 2, cells := 0, slots := 0, locals := 60 } : Room) s m args below meth c H locs 0 0 Q (F0 m 46 ls []) := by
            intro n
            induction n with
            | zero => intro j46_6 ij46_6 hn_46  σ_46 H locs hw fr   ls hl; exact absurd hn_46 (Nat.not_lt_zero _)
            | succ n ih_46 =>
              intro j46_6 ij46_6 hn_46  σ_46 H locs hw fr   ls hl
              refine lv_iload hx hb dX8_stray_46 (lv_at hl 5 rfl) ?_
              refine lv_bipush (v := 64) hx hb dX8_stray_48 (by decide) ?_
              refine lv_icmp_ge (tgt := 78) hx hb dX8_stray_50 (by decide) (fun c12 => ?_) (fun c12 => ?_)
              · --
                have i13 : Iv j46_6 64 64 := iv_le2 c12 (⟨by decide, by decide⟩ : Iv 64 64 64) ij46_6 (by decide)
                refine lv_aload_n hx hb dX8_stray_78 rfl (lv_at hl 0 rfl) ?_
                refine g_450 cx hw ha0 k_f_X8_19 dX8_stray_79 (fun v14 e14 h14 => ?_)
                refine lv_iconst (v := 0) hx hb dX8_stray_82 (by decide) ?_
                refine lv_aload_n hx hb dX8_stray_83 rfl (lv_at hl 0 rfl) ?_
                refine g_449 cx hw ha0 k_f_X8_15 dX8_stray_84 (fun v15 e15 h15 => ?_)
                refine lv_iconst (v := 0) hx hb dX8_stray_87 (by decide) ?_
                refine lv_bipush (v := 64) hx hb dX8_stray_88 (by decide) ?_
                refine o_copyl cx hw h14 h15 (by decide) rfl (by decide) k_m_X8_50 hl.1 (by decide) (Nat.le_of_ble_eq_true rfl) dX8_stray_90 (fun σ16 H locs eσ16 hw => ?_)
                have fr := oFr_q fr eσ16 h15 (by decide)
                obtain ⟨v17, e17⟩ : ∃ y : Int32, y = j28_5 + 1 := ⟨_, rfl⟩
                have i17 : Iv v17 1 2147483647 := iv_add e17 i7 (⟨by decide, by decide⟩ : Iv 1 1 1) (by decide)
                have x17 : v17.toInt = j28_5.toInt + 1 := ex_add e17 i7 (⟨by decide, by decide⟩ : Iv 1 1 1) (by decide)
                refine lv_iinc (v := v17) (lv' := [(5, .int v17), (0, .ref a0), (1, .long a1), (3, .int a2), (4, .int a3), (6, .int j46_6)]) hx hb dX8_stray_93 hl (k := 4) rfl (by rw [e17]; rfl) (by decide) rfl (fun ls hl => ?_)
                refine lv_goto (tgt := 28) hx hb dX8_stray_96 (by decide) ?_
                exact ih_28 v17 (iv_w i17 (by decide)) (ms_up x17 (by decide) (iv_w (a' := 0) (b' := 2147483647) i17 (by decide)).2 hn_28) σ16 _ _ hw fr _ (lv_sub hl [1, 2, 3, 4, 0] rfl)
              · --
                have i18 : Iv j46_6 0 63 := iv_lt1 (iv_nle c12) ij46_6 (⟨by decide, by decide⟩ : Iv 64 64 64) (by decide)
                refine lv_aload_n hx hb dX8_stray_53 rfl (lv_at hl 0 rfl) ?_
                refine g_449 cx hw ha0 k_f_X8_15 dX8_stray_54 (fun v19 e19 h19 => ?_)
                refine lv_iload hx hb dX8_stray_57 (lv_at hl 5 rfl) ?_
                refine o_lald cx hw h19 (by decide) rfl (iv_in i18 (by decide)) dX8_stray_59 (fun v20 e20 => ?_)
                refine lv_lconst (v := 0) hx hb dX8_stray_60 (by decide) ?_
                refine W.lcmp hx hb dX8_stray_61 ?_
                refine lv_topi (fun v21 e21 => ?_)
                have i21 : Iv v21 (-1) 1 := iv_lcmp e21
                have J_72 : ∀ (σ_72 : oSt) (H : Heap) (locs : List Loc), oI A L τ cy D s.heap σ_72 H locs → oFr τ fs_X8_stray ts_X8_stray σ σ_72 → ∀ (ls : Array Slot), lv_has ls 7 [(0, .ref a0), (1, .long a1), (3, .int a2), (4, .int a3), (5, .int j28_5), (6, .int j46_6)] → W p l e ({ frames := 2, cells := 0, slots := 0, locals := 60 } : Room) s m args below meth c H locs 0 0 Q (F0 m 72 ls []) := by
                  intro    σ_72 H locs hw fr   ls hl
                  obtain ⟨v22, e22⟩ : ∃ y : Int32, y = j46_6 + 1 := ⟨_, rfl⟩
                  have i22 : Iv v22 1 64 := iv_add e22 i18 (⟨by decide, by decide⟩ : Iv 1 1 1) (by decide)
                  have x22 : v22.toInt = j46_6.toInt + 1 := ex_add e22 i18 (⟨by decide, by decide⟩ : Iv 1 1 1) (by decide)
                  refine lv_iinc (v := v22) (lv' := [(6, .int v22), (0, .ref a0), (1, .long a1), (3, .int a2), (4, .int a3), (5, .int j28_5)]) hx hb dX8_stray_72 hl (k := 5) rfl (by rw [e22]; rfl) (by decide) rfl (fun ls hl => ?_)
                  refine lv_goto (tgt := 46) hx hb dX8_stray_75 (by decide) ?_
                  exact ih_46 v22 (iv_w i22 (by decide)) (ms_up x22 (by decide) (iv_w (a' := 0) (b' := 64) i22 (by decide)).2 hn_46) σ_72 _ _ hw fr _ (lv_sub hl [1, 2, 3, 4, 5, 0] rfl)
                refine lv_if_le (tgt := 72) hx hb dX8_stray_62 (by decide) (fun c23 => ?_) (fun c23 => ?_)
                · --
                  have i24 : Iv v21 (-1) 0 := iv_le1 c23 i21 (⟨by decide, by decide⟩ : Iv 0 0 0) (by decide)
                  exact J_72 σ_46 _ _ hw fr _ (lv_sub hl [0, 1, 2, 3, 4, 5] rfl)
                · --
                  have i25 : Iv v21 1 1 := iv_lt2 (iv_nle c23) (⟨by decide, by decide⟩ : Iv 0 0 0) i21 (by decide)
                  refine lv_aload_n hx hb dX8_stray_65 rfl (lv_at hl 0 rfl) ?_
                  refine lv_lload_n hx hb dX8_stray_66 rfl (lv_at hl 1 rfl) ?_
                  refine lv_iload hx hb dX8_stray_67 (lv_at hl 5 rfl) ?_
                  refine o_cv hw (oRunV cx hA hw q_X8_shareOut k_m_X8_68 rfl ha0 (by decide) (As := [.long a1, .int j46_6]) (c_X8_shareOut a0 ha0 a1 j46_6 (iv_w i18 (by decide))) (by decide) rfl hl.1 rfl (Nat.le_of_ble_eq_true rfl) dX8_stray_69 (by decide)) (fun σ26 H locs hp hw => ?_)
                  have p27_0 := hp
                  have fr := oFr_tr fr p27_0 (by decide)
                  exact J_72 σ26 _ _ hw fr _ (lv_sub hl [0, 1, 2, 3, 4, 5] rfl)
          exact J_46 _ 0 (iv_w (⟨by decide, by decide⟩ : Iv 0 0 0) (by decide)) (Nat.lt_succ_self _) σ10 _ _ hw fr _ (lv_sub hl [1, 2, 3, 4, 5, 0] rfl)
    exact J_28 _ 0 (iv_w (⟨by decide, by decide⟩ : Iv 0 0 0) (by decide)) (Nat.lt_succ_self _) σ_25 _ _ hw fr _ (lv_sub hl [1, 2, 3, 4, 0] rfl)
  refine lv_if_eq (tgt := 25) hx hb dX8_stray_13 (by decide) (fun c28 => ?_) (fun c28 => ?_)
  · --
    have i29 : Iv v5 0 0 := iv_eq1 c28 p5_1 (⟨by decide, by decide⟩ : Iv 0 0 0) (by decide)
    exact J_25 σ2 _ _ hw fr _ (lv_sub hl [0, 1, 2, 3] rfl)
  · --
    have i30 : Iv v5 1 1 := iv_ne1 c28 p5_1 (⟨by decide, by decide⟩ : Iv 0 0 0) (by decide)
    have i31 : Iv a2 0 63 := p5_2 c28
    refine lv_aload_n hx hb dX8_stray_16 rfl (lv_at hl 0 rfl) ?_
    refine g_449 cx hw ha0 k_f_X8_15 dX8_stray_17 (fun v32 e32 h32 => ?_)
    rw [show v32 = v1 from Option.some.inj (e32.symm.trans (((kr_c p3_0 (by decide)).trans e1)))]
    refine lv_iload_n hx hb dX8_stray_20 rfl (lv_at hl 2 rfl) ?_
    refine lv_ldc2 (v := 1000000) hx hb hown (hts _ k_k_X8_60) dX8_stray_21 ?_
    refine o_last cx hw h1 (by decide) rfl (iv_in i31 (by decide)) dX8_stray_24 (fun σ33 H locs eσ33 hw => ?_)
    have fr := oFr_q fr eσ33 h1 (by decide)
    exact J_25 σ33 _ _ hw fr _ (lv_sub hl [0, 1, 2, 3] rfl)
set_option maxHeartbeats 4000000 in
set_option maxRecDepth 100000 in
theorem c_X8_likeliest (a0 : Nat) (ha0 : oA L τ a0 7) : oMet l A L τ cy D K yX8_likeliest cX8_likeliest 5 (some .int) 0 0 [.ref a0] σ (va_Qi (fun r σ1 => σ1 = σ ∧ Iv r (-1) 63) (oPo A L τ cy D) A) := by
  refine oMk (by decide) (Nat.le_of_ble_eq_true rfl) rfl ?_
  intro p e s m args below meth c ls cx rx hA hw hl
  generalize hQ : MQ below _ args s 0 0 A = Q
  have hx := cx.1.1
  have hb := cx.1.2.1
  have hml := cx.1.2.2.1
  have hown := cx.1.2.2.2.1
  have hts := cx.1.2.2.2.2
  have hl : lv_has ls 5 [(0, .ref a0)] := hl
  refine lv_iconst (v := (-1)) hx hb dX8_likeliest_0 (by decide) ?_
  refine lv_istore_n (lv' := [(1, .int (-1)), (0, .ref a0)]) hx hb dX8_likeliest_1 rfl hl (by decide) rfl (fun ls hl => ?_)
  refine lv_lconst (v := 0) hx hb dX8_likeliest_2 (by decide) ?_
  refine lv_lstore_n (lv' := [(2, .long 0), (1, .int (-1)), (0, .ref a0)]) hx hb dX8_likeliest_3 rfl hl (by decide) rfl (fun ls hl => ?_)
  refine lv_iconst (v := 0) hx hb dX8_likeliest_4 (by decide) ?_
  refine lv_istore (lv' := [(4, .int 0), (2, .long 0), (1, .int (-1)), (0, .ref a0)]) hx hb dX8_likeliest_5 hl (by decide) rfl (fun ls hl => ?_)
  have J_7 : ∀ n : Nat, ∀ (j7_1 : Int32) (ij7_1 : Iv j7_1 (-1) 63) (j7_2 : Int64) (j7_4 : Int32) (ij7_4 : Iv j7_4 0 64), (64 - j7_4.toInt).toNat < n → ∀ (H : Heap) (locs : List Loc), oI A L τ cy D s.heap σ H locs → ∀ (ls : Array Slot), lv_has ls 5 [(0, .ref a0), (1, .int j7_1), (2, .long j7_2), (4, .int j7_4)] → W p l e ({ frames := 0, cells := 0, slots := 0, locals := 0 } : Room) s m args below meth c H locs 0 0 Q (F0 m 7 ls []) := by
    intro n
    induction n with
    | zero => intro j7_1 ij7_1 j7_2 j7_4 ij7_4 hn_7  H locs hw  ls hl; exact absurd hn_7 (Nat.not_lt_zero _)
    | succ n ih_7 =>
      intro j7_1 ij7_1 j7_2 j7_4 ij7_4 hn_7  H locs hw  ls hl
      refine lv_iload hx hb dX8_likeliest_7 (lv_at hl 3 rfl) ?_
      refine lv_bipush (v := 64) hx hb dX8_likeliest_9 (by decide) ?_
      refine lv_icmp_ge (tgt := 43) hx hb dX8_likeliest_11 (by decide) (fun c1 => ?_) (fun c1 => ?_)
      · --
        have i2 : Iv j7_4 64 64 := iv_le2 c1 (⟨by decide, by decide⟩ : Iv 64 64 64) ij7_4 (by decide)
        refine lv_iload_n hx hb dX8_likeliest_43 rfl (lv_at hl 1 rfl) ?_
        rw [← hQ]
        exact o_ri cx rx hw dX8_likeliest_44 ⟨rfl, (iv_w ij7_1 (by decide))⟩
      · --
        have i3 : Iv j7_4 0 63 := iv_lt1 (iv_nle c1) ij7_4 (⟨by decide, by decide⟩ : Iv 64 64 64) (by decide)
        refine lv_aload_n hx hb dX8_likeliest_14 rfl (lv_at hl 0 rfl) ?_
        refine g_449 cx hw ha0 k_f_X8_15 dX8_likeliest_15 (fun v4 e4 h4 => ?_)
        refine lv_iload hx hb dX8_likeliest_18 (lv_at hl 3 rfl) ?_
        refine o_lald cx hw h4 (by decide) rfl (iv_in i3 (by decide)) dX8_likeliest_20 (fun v5 e5 => ?_)
        refine lv_lload_n hx hb dX8_likeliest_21 rfl (lv_at hl 2 rfl) ?_
        refine W.lcmp hx hb dX8_likeliest_22 ?_
        refine lv_topi (fun v6 e6 => ?_)
        have i6 : Iv v6 (-1) 1 := iv_lcmp e6
        have J_37 : ∀ (j37_1 : Int32) (ij37_1 : Iv j37_1 (-1) 63) (j37_2 : Int64), ∀ (H : Heap) (locs : List Loc), oI A L τ cy D s.heap σ H locs → ∀ (ls : Array Slot), lv_has ls 5 [(0, .ref a0), (1, .int j37_1), (2, .long j37_2), (4, .int j7_4)] → W p l e ({ frames := 0, cells := 0, slots := 0, locals := 0 } : Room) s m args below meth c H locs 0 0 Q (F0 m 37 ls []) := by
          intro j37_1 ij37_1 j37_2   H locs hw  ls hl
          obtain ⟨v7, e7⟩ : ∃ y : Int32, y = j7_4 + 1 := ⟨_, rfl⟩
          have i7 : Iv v7 1 64 := iv_add e7 i3 (⟨by decide, by decide⟩ : Iv 1 1 1) (by decide)
          have x7 : v7.toInt = j7_4.toInt + 1 := ex_add e7 i3 (⟨by decide, by decide⟩ : Iv 1 1 1) (by decide)
          refine lv_iinc (v := v7) (lv' := [(4, .int v7), (0, .ref a0), (1, .int j37_1), (2, .long j37_2)]) hx hb dX8_likeliest_37 hl (k := 3) rfl (by rw [e7]; rfl) (by decide) rfl (fun ls hl => ?_)
          refine lv_goto (tgt := 7) hx hb dX8_likeliest_40 (by decide) ?_
          exact ih_7 j37_1 ij37_1 j37_2 v7 (iv_w i7 (by decide)) (ms_up x7 (by decide) (iv_w (a' := 0) (b' := 64) i7 (by decide)).2 hn_7) _ _ hw _ (lv_sub hl [1, 2, 3, 0] rfl)
        refine lv_if_le (tgt := 37) hx hb dX8_likeliest_23 (by decide) (fun c8 => ?_) (fun c8 => ?_)
        · --
          have i9 : Iv v6 (-1) 0 := iv_le1 c8 i6 (⟨by decide, by decide⟩ : Iv 0 0 0) (by decide)
          exact J_37 j7_1 ij7_1 j7_2 _ _ hw _ (lv_sub hl [0, 1, 2, 3] rfl)
        · --
          have i10 : Iv v6 1 1 := iv_lt2 (iv_nle c8) (⟨by decide, by decide⟩ : Iv 0 0 0) i6 (by decide)
          refine lv_aload_n hx hb dX8_likeliest_26 rfl (lv_at hl 0 rfl) ?_
          refine g_449 cx hw ha0 k_f_X8_15 dX8_likeliest_27 (fun v11 e11 h11 => ?_)
          rw [show v11 = v4 from Option.some.inj (e11.symm.trans (e4))]
          refine lv_iload hx hb dX8_likeliest_30 (lv_at hl 3 rfl) ?_
          refine o_lald cx hw h4 (by decide) rfl (iv_in i3 (by decide)) dX8_likeliest_32 (fun v12 e12 => ?_)
          refine lv_lstore_n (lv' := [(2, .long v12), (0, .ref a0), (1, .int j7_1), (4, .int j7_4)]) hx hb dX8_likeliest_33 rfl hl (by decide) rfl (fun ls hl => ?_)
          refine lv_iload hx hb dX8_likeliest_34 (lv_at hl 3 rfl) ?_
          refine lv_istore_n (lv' := [(1, .int j7_4), (2, .long v12), (0, .ref a0), (4, .int j7_4)]) hx hb dX8_likeliest_36 rfl hl (by decide) rfl (fun ls hl => ?_)
          exact J_37 j7_4 (iv_w i3 (by decide)) v12 _ _ hw _ (lv_sub hl [2, 0, 1, 3] rfl)
  exact J_7 _ (-1) (iv_w (⟨by decide, by decide⟩ : Iv (-1) (-1) (-1)) (by decide)) 0 0 (iv_w (⟨by decide, by decide⟩ : Iv 0 0 0) (by decide)) (Nat.lt_succ_self _) _ _ hw _ (lv_sub hl [3, 2, 1, 0] rfl)
abbrev fs_X10_lost : List Nat := [193]
abbrev ts_X10_lost : List Nat := [36, 39]
set_option maxHeartbeats 4000000 in
set_option maxRecDepth 100000 in
theorem c_X10_lost (a0 : Nat) (ha0 : oA L τ a0 9) (a1 : Int32) (a2 : Int32) (a3 : Int32) : oMet l A L τ cy D K yX10_lost cX10_lost 6 (some .int) 3 86 [.ref a0, .int a1, .int a2, .int a3] σ (va_Qi (fun r σ1 => oFr τ fs_X10_lost ts_X10_lost σ σ1) (oPo A L τ cy D) A) := by
  refine oMk (by decide) (Nat.le_of_ble_eq_true rfl) rfl ?_
  intro p e s m args below meth c ls cx rx hA hw hl
  generalize hQ : MQ below _ args s 0 0 A = Q
  have hx := cx.1.1
  have hb := cx.1.2.1
  have hml := cx.1.2.2.1
  have hown := cx.1.2.2.2.1
  have hts := cx.1.2.2.2.2
  have hl : lv_has ls 6 [(0, .ref a0), (1, .int a1), (2, .int a2), (3, .int a3)] := hl
  have fr : oFr τ fs_X10_lost ts_X10_lost σ σ := oFr_rf
  refine lv_aload_n hx hb dX10_lost_0 rfl (lv_at hl 0 rfl) ?_
  refine g_578 cx hw ha0 k_f_X10_26 dX10_lost_1 (fun v1 e1 h1 => ?_)
  refine lv_iload_n hx hb dX10_lost_4 rfl (lv_at hl 1 rfl) ?_
  refine o_ci hw (oRunV cx hA hw q_X2_isThere k_m_X10_135 rfl h1 (by decide) (As := [.int a1]) (c_X2_isThere v1 h1 a1) (by decide) rfl hl.1 rfl (Nat.le_of_ble_eq_true rfl) dX10_lost_5 (by decide)) (fun v3 σ2 H locs hp hw => ?_)
  obtain ⟨p3_0, p3_1, p3_2⟩ := hp
  rw [p3_0] at hw
  refine lv_if_eq (tgt := 32) hx hb dX10_lost_8 (by decide) (fun c4 => ?_) (fun c4 => ?_)
  · --
    have i5 : Iv v3 0 0 := iv_eq1 c4 p3_1 (⟨by decide, by decide⟩ : Iv 0 0 0) (by decide)
    refine lv_iconst (v := (-1)) hx hb dX10_lost_32 (by decide) ?_
    rw [← hQ]
    exact o_ri cx rx hw dX10_lost_33 fr
  · --
    have i6 : Iv v3 1 1 := iv_ne1 c4 p3_1 (⟨by decide, by decide⟩ : Iv 0 0 0) (by decide)
    have i7 : Iv a1 0 63 := p3_2 c4
    refine lv_aload_n hx hb dX10_lost_11 rfl (lv_at hl 0 rfl) ?_
    refine g_578 cx hw ha0 k_f_X10_26 dX10_lost_12 (fun v8 e8 h8 => ?_)
    rw [show v8 = v1 from Option.some.inj (e8.symm.trans (e1))]
    refine lv_iload_n hx hb dX10_lost_15 rfl (lv_at hl 2 rfl) ?_
    refine o_ci hw (oRunV cx hA hw q_X2_isThere k_m_X10_135 rfl h1 (by decide) (As := [.int a2]) (c_X2_isThere v1 h1 a2) (by decide) rfl hl.1 rfl (Nat.le_of_ble_eq_true rfl) dX10_lost_16 (by decide)) (fun v10 σ9 H locs hp hw => ?_)
    obtain ⟨p10_0, p10_1, p10_2⟩ := hp
    rw [p10_0] at hw
    refine lv_if_eq (tgt := 32) hx hb dX10_lost_19 (by decide) (fun c11 => ?_) (fun c11 => ?_)
    · --
      have i12 : Iv v10 0 0 := iv_eq1 c11 p10_1 (⟨by decide, by decide⟩ : Iv 0 0 0) (by decide)
      refine lv_iconst (v := (-1)) hx hb dX10_lost_32 (by decide) ?_
      rw [← hQ]
      exact o_ri cx rx hw dX10_lost_33 fr
    · --
      have i13 : Iv v10 1 1 := iv_ne1 c11 p10_1 (⟨by decide, by decide⟩ : Iv 0 0 0) (by decide)
      have i14 : Iv a2 0 63 := p10_2 c11
      refine lv_iload_n hx hb dX10_lost_22 rfl (lv_at hl 3 rfl) ?_
      refine lv_if_lt (tgt := 32) hx hb dX10_lost_23 (by decide) (fun c15 => ?_) (fun c15 => ?_)
      · --
        have i16 : Iv a3 (-2147483648) (-1) := iv_lt1 c15 (iv_top a3) (⟨by decide, by decide⟩ : Iv 0 0 0) (by decide)
        refine lv_iconst (v := (-1)) hx hb dX10_lost_32 (by decide) ?_
        rw [← hQ]
        exact o_ri cx rx hw dX10_lost_33 fr
      · --
        have i17 : Iv a3 0 2147483647 := iv_le2 (iv_nlt c15) (⟨by decide, by decide⟩ : Iv 0 0 0) (iv_top a3) (by decide)
        refine lv_iload_n hx hb dX10_lost_26 rfl (lv_at hl 3 rfl) ?_
        refine lv_bipush (v := 40) hx hb dX10_lost_27 (by decide) ?_
        refine lv_icmp_le (tgt := 34) hx hb dX10_lost_29 (by decide) (fun c18 => ?_) (fun c18 => ?_)
        · --
          have i19 : Iv a3 0 40 := iv_le1 c18 i17 (⟨by decide, by decide⟩ : Iv 40 40 40) (by decide)
          refine lv_aload_n hx hb dX10_lost_34 rfl (lv_at hl 0 rfl) ?_
          refine g_578 cx hw ha0 k_f_X10_26 dX10_lost_35 (fun v20 e20 h20 => ?_)
          rw [show v20 = v1 from Option.some.inj (e20.symm.trans (e1))]
          refine lv_aload_n hx hb dX10_lost_38 rfl (lv_at hl 0 rfl) ?_
          refine g_581 cx hw ha0 k_f_X10_49 dX10_lost_39 (fun v21 e21 h21 => ?_)
          refine g_330 cx hw h21 k_f_X10_154 dX10_lost_42 (fun v22 e22 => ?_)
          refine o_cl hw (oRunV cx hA hw q_X2_openTo k_m_X10_195 rfl h1 (by decide) (As := [.int v22]) (c_X2_openTo v1 h1 v22) (by decide) rfl hl.1 rfl (Nat.le_of_ble_eq_true rfl) dX10_lost_45 (by decide)) (fun v24 σ23 H locs hp hw => ?_)
          have p24_0 := hp
          rw [p24_0] at hw
          refine lv_lstore (lv' := [(4, .long v24), (0, .ref a0), (1, .int a1), (2, .int a2), (3, .int a3)]) hx hb dX10_lost_48 hl (by decide) rfl (fun ls hl => ?_)
          refine lv_lload hx hb dX10_lost_50 (lv_at hl 0 rfl) ?_
          refine lv_iload_n hx hb dX10_lost_52 rfl (lv_at hl 2 rfl) ?_
          refine o_ci hw (oRunS cx hA hw q_X0_has k_m_X10_321 (As := [.long v24, .int a1]) (c_X0_has v24 a1) (by decide) rfl hl.1 rfl (Nat.le_of_ble_eq_true rfl) dX10_lost_53 (by decide)) (fun v26 σ25 H locs hp hw => ?_)
          obtain ⟨p26_0, p26_1, p26_2⟩ := hp
          rw [p26_0] at hw
          refine lv_if_ne (tgt := 61) hx hb dX10_lost_56 (by decide) (fun c27 => ?_) (fun c27 => ?_)
          · --
            have i28 : Iv v26 1 1 := iv_ne1 c27 p26_1 (⟨by decide, by decide⟩ : Iv 0 0 0) (by decide)
            have i29 : Iv a1 0 63 := p26_2 c27
            refine lv_aload_n hx hb dX10_lost_61 rfl (lv_at hl 1 rfl) ?_
            refine g_584 cx hw ha0 k_f_X10_68 dX10_lost_62 (fun v30 e30 h30 => ?_)
            refine lv_lload hx hb dX10_lost_65 (lv_at hl 0 rfl) ?_
            refine lv_iload_n hx hb dX10_lost_67 rfl (lv_at hl 2 rfl) ?_
            refine lv_iload_n hx hb dX10_lost_68 rfl (lv_at hl 4 rfl) ?_
            refine o_cv hw (oRunV cx hA hw q_X8_stray k_m_X10_441 rfl h30 (by decide) (As := [.long v24, .int a1, .int a3]) (c_X8_stray v30 h30 v24 a1 a3) (by decide) rfl hl.1 rfl (Nat.le_of_ble_eq_true rfl) dX10_lost_69 (by decide)) (fun σ31 H locs hp hw => ?_)
            have p32_0 := hp
            have fr := oFr_tr fr p32_0 (by decide)
            refine lv_aload_n hx hb dX10_lost_72 rfl (lv_at hl 1 rfl) ?_
            refine g_577 cx hw ha0 k_f_X10_19 dX10_lost_73 (fun v33 e33 h33 => ?_)
            refine o_cv hw (oRunV cx hA hw q_X4_start k_m_X10_292 rfl h33 (by decide) (As := []) (c_X4_start v33 h33) (by decide) rfl hl.1 rfl (Nat.le_of_ble_eq_true rfl) dX10_lost_76 (by decide)) (fun σ34 H locs hp hw => ?_)
            have p35_0 := hp
            have fr := oFr_tr fr p35_0 (by decide)
            refine lv_aload_n hx hb dX10_lost_79 rfl (lv_at hl 1 rfl) ?_
            refine g_577 cx hw ha0 k_f_X10_19 dX10_lost_80 (fun v36 e36 h36 => ?_)
            rw [show v36 = v33 from Option.some.inj (e36.symm.trans (((kr_c p35_0 (by decide)).trans e33)))]
            refine lv_aload_n hx hb dX10_lost_83 rfl (lv_at hl 1 rfl) ?_
            refine g_584 cx hw ha0 k_f_X10_68 dX10_lost_84 (fun v37 e37 h37 => ?_)
            rw [show v37 = v30 from Option.some.inj (e37.symm.trans (((kr_c p35_0 (by decide)).trans ((kr_c p32_0 (by decide)).trans e30))))]
            refine o_ci hw (oRunV cx hA hw q_X8_likeliest k_m_X10_444 rfl h30 (by decide) (As := []) (c_X8_likeliest v30 h30) (by decide) rfl hl.1 rfl (Nat.le_of_ble_eq_true rfl) dX10_lost_87 (by decide)) (fun v39 σ38 H locs hp hw => ?_)
            obtain ⟨p39_0, p39_1⟩ := hp
            rw [p39_0] at hw
            refine lv_i2l hx hb dX10_lost_90 rfl ?_
            refine lv_topl (fun v40 e40 => ?_)
            refine o_cv hw (oRunV cx hA hw q_X4_put k_m_X10_295 rfl h33 (by decide) (As := [.long v40]) (c_X4_put v33 h33 v40) (by decide) rfl hl.1 rfl (Nat.le_of_ble_eq_true rfl) dX10_lost_91 (by decide)) (fun σ41 H locs hp hw => ?_)
            have p42_0 := hp
            have fr := oFr_tr fr p42_0 (by decide)
            refine lv_aload_n hx hb dX10_lost_94 rfl (lv_at hl 1 rfl) ?_
            refine g_584 cx hw ha0 k_f_X10_68 dX10_lost_95 (fun v43 e43 h43 => ?_)
            rw [show v43 = v30 from Option.some.inj (e43.symm.trans (((kr_c p42_0 (by decide)).trans ((kr_c p35_0 (by decide)).trans ((kr_c p32_0 (by decide)).trans e30)))))]
            refine g_449 cx hw h30 k_f_X10_431 dX10_lost_98 (fun v44 e44 h44 => ?_)
            refine lv_iload_n hx hb dX10_lost_101 rfl (lv_at hl 3 rfl) ?_
            refine o_lald cx hw h44 (by decide) rfl (iv_in i14 (by decide)) dX10_lost_102 (fun v45 e45 => ?_)
            refine lv_l2i hx hb dX10_lost_103 rfl ?_
            refine lv_topi (fun v46 e46 => ?_)
            rw [← hQ]
            exact o_ri cx rx hw dX10_lost_104 fr
          · --
            have i47 : Iv v26 0 0 := iv_eq1 c27 p26_1 (⟨by decide, by decide⟩ : Iv 0 0 0) (by decide)
            refine lv_iconst (v := (-1)) hx hb dX10_lost_59 (by decide) ?_
            rw [← hQ]
            exact o_ri cx rx hw dX10_lost_60 fr
        · --
          have i48 : Iv a3 41 2147483647 := iv_lt2 (iv_nle c18) (⟨by decide, by decide⟩ : Iv 40 40 40) i17 (by decide)
          refine lv_iconst (v := (-1)) hx hb dX10_lost_32 (by decide) ?_
          rw [← hQ]
          exact o_ri cx rx hw dX10_lost_33 fr
abbrev fs_X10_snow : List Nat := [588, 589]
abbrev ts_X10_snow : List Nat := []
set_option maxHeartbeats 4000000 in
set_option maxRecDepth 100000 in
theorem c_X10_snow (a0 : Nat) (ha0 : oA L τ a0 9) : oMet l A L τ cy D K yX10_snow cX10_snow 1 (some .int) 3 66 [.ref a0] σ (va_Qi (fun r σ1 => oFr τ fs_X10_snow ts_X10_snow σ σ1 ∧ Iv r 0 127) (oPo A L τ cy D) A) := by
  refine oMk (by decide) (Nat.le_of_ble_eq_true rfl) rfl ?_
  intro p e s m args below meth c ls cx rx hA hw hl
  generalize hQ : MQ below _ args s 0 0 A = Q
  have hx := cx.1.1
  have hb := cx.1.2.1
  have hml := cx.1.2.2.1
  have hown := cx.1.2.2.2.1
  have hts := cx.1.2.2.2.2
  have hl : lv_has ls 1 [(0, .ref a0)] := hl
  have fr : oFr τ fs_X10_snow ts_X10_snow σ σ := oFr_rf
  refine lv_aload_n hx hb dX10_snow_0 rfl (lv_at hl 0 rfl) ?_
  refine lv_iconst (v := 1) hx hb dX10_snow_1 (by decide) ?_
  refine p_588 cx hw ha0 (iv_w (⟨by decide, by decide⟩ : Iv 1 1 1) (by decide)) k_f_X10_117 dX10_snow_2 (fun σ1 H locs eσ1 hw => ?_)
  have fr := oFr_i fr eσ1 (by decide)
  refine lv_aload_n hx hb dX10_snow_5 rfl (lv_at hl 0 rfl) ?_
  refine lv_aload_n hx hb dX10_snow_6 rfl (lv_at hl 0 rfl) ?_
  refine o_cl hw (oRunV cx hA hw q_X10_roadNow k_m_X10_335 rfl ha0 (by decide) (As := []) (c_X10_roadNow a0 ha0) (by decide) rfl hl.1 rfl (Nat.le_of_ble_eq_true rfl) dX10_snow_7 (by decide)) (fun v3 σ2 H locs hp hw => ?_)
  have p3_0 := hp
  rw [p3_0] at hw
  refine p_589 cx hw ha0 k_f_X10_452 dX10_snow_10 (fun σ4 H locs eσ4 hw => ?_)
  have fr := oFr_l fr eσ4 (by decide)
  refine lv_aload_n hx hb dX10_snow_13 rfl (lv_at hl 0 rfl) ?_
  refine g_589 cx hw ha0 k_f_X10_452 dX10_snow_14 (fun v5 e5 => ?_)
  refine o_ci hw (oRunS cx hA hw q_J13_bitCount_95d88 k_m_X10_349 (As := [.long v5]) (c_J13_bitCount_95d88 v5) (by decide) rfl hl.1 rfl (Nat.le_of_ble_eq_true rfl) dX10_snow_17 (by decide)) (fun v7 σ6 H locs hp hw => ?_)
  obtain ⟨p7_0, p7_1⟩ := hp
  rw [p7_0] at hw
  rw [← hQ]
  exact o_ri cx rx hw dX10_snow_20 ⟨fr, (iv_w p7_1 (by decide))⟩
abbrev fs_X10_thaw : List Nat := [193]
abbrev ts_X10_thaw : List Nat := [36]
set_option maxHeartbeats 4000000 in
set_option maxRecDepth 100000 in
theorem c_X10_thaw (a0 : Nat) (ha0 : oA L τ a0 9) : oMet l A L τ cy D K yX10_thaw cX10_thaw 3 (some .int) 3 66 [.ref a0] σ (va_Qi (fun r σ1 => oFr τ fs_X10_thaw ts_X10_thaw σ σ1 ∧ Iv r (-2) 127) (oPo A L τ cy D) A) := by
  refine oMk (by decide) (Nat.le_of_ble_eq_true rfl) rfl ?_
  intro p e s m args below meth c ls cx rx hA hw hl
  generalize hQ : MQ below _ args s 0 0 A = Q
  have hx := cx.1.1
  have hb := cx.1.2.1
  have hml := cx.1.2.2.1
  have hown := cx.1.2.2.2.1
  have hts := cx.1.2.2.2.2
  have hl : lv_has ls 3 [(0, .ref a0)] := hl
  have fr : oFr τ fs_X10_thaw ts_X10_thaw σ σ := oFr_rf
  refine lv_aload_n hx hb dX10_thaw_0 rfl (lv_at hl 0 rfl) ?_
  refine g_588 cx hw ha0 k_f_X10_117 dX10_thaw_1 (fun v1 e1 => ?_)
  refine lv_if_ne (tgt := 10) hx hb dX10_thaw_4 (by decide) (fun c2 => ?_) (fun c2 => ?_)
  · --
    refine lv_aload_n hx hb dX10_thaw_10 rfl (lv_at hl 0 rfl) ?_
    refine o_cl hw (oRunV cx hA hw q_X10_roadNow k_m_X10_335 rfl ha0 (by decide) (As := []) (c_X10_roadNow a0 ha0) (by decide) rfl hl.1 rfl (Nat.le_of_ble_eq_true rfl) dX10_thaw_11 (by decide)) (fun v4 σ3 H locs hp hw => ?_)
    have p4_0 := hp
    rw [p4_0] at hw
    refine lv_lstore_n (lv' := [(1, .long v4), (0, .ref a0)]) hx hb dX10_thaw_14 rfl hl (by decide) rfl (fun ls hl => ?_)
    refine lv_aload_n hx hb dX10_thaw_15 rfl (lv_at hl 1 rfl) ?_
    refine g_577 cx hw ha0 k_f_X10_19 dX10_thaw_16 (fun v5 e5 h5 => ?_)
    refine o_cv hw (oRunV cx hA hw q_X4_start k_m_X10_292 rfl h5 (by decide) (As := []) (c_X4_start v5 h5) (by decide) rfl hl.1 rfl (Nat.le_of_ble_eq_true rfl) dX10_thaw_19 (by decide)) (fun σ6 H locs hp hw => ?_)
    have p7_0 := hp
    have fr := oFr_tr fr p7_0 (by decide)
    refine lv_aload_n hx hb dX10_thaw_22 rfl (lv_at hl 1 rfl) ?_
    refine g_577 cx hw ha0 k_f_X10_19 dX10_thaw_23 (fun v8 e8 h8 => ?_)
    rw [show v8 = v5 from Option.some.inj (e8.symm.trans (((kr_c p7_0 (by decide)).trans e5)))]
    refine lv_aload_n hx hb dX10_thaw_26 rfl (lv_at hl 1 rfl) ?_
    refine g_589 cx hw ha0 k_f_X10_452 dX10_thaw_27 (fun v9 e9 => ?_)
    refine lv_lload_n hx hb dX10_thaw_30 rfl (lv_at hl 0 rfl) ?_
    refine lv_ldc2 (v := (-1)) hx hb hown (hts _ k_k_X10_347) dX10_thaw_31 ?_
    refine lv_lxor hx hb dX10_thaw_34 ?_
    refine lv_topl (fun v10 e10 => ?_)
    refine lv_land hx hb dX10_thaw_35 ?_
    refine lv_topl (fun v11 e11 => ?_)
    refine o_cv hw (oRunV cx hA hw q_X4_put k_m_X10_295 rfl h5 (by decide) (As := [.long v11]) (c_X4_put v5 h5 v11) (by decide) rfl hl.1 rfl (Nat.le_of_ble_eq_true rfl) dX10_thaw_36 (by decide)) (fun σ12 H locs hp hw => ?_)
    have p13_0 := hp
    have fr := oFr_tr fr p13_0 (by decide)
    refine lv_aload_n hx hb dX10_thaw_39 rfl (lv_at hl 1 rfl) ?_
    refine g_577 cx hw ha0 k_f_X10_19 dX10_thaw_40 (fun v14 e14 h14 => ?_)
    rw [show v14 = v5 from Option.some.inj (e14.symm.trans (((kr_c p13_0 (by decide)).trans ((kr_c p7_0 (by decide)).trans e5))))]
    refine lv_lload_n hx hb dX10_thaw_43 rfl (lv_at hl 0 rfl) ?_
    refine lv_aload_n hx hb dX10_thaw_44 rfl (lv_at hl 1 rfl) ?_
    refine g_589 cx hw ha0 k_f_X10_452 dX10_thaw_45 (fun v15 e15 => ?_)
    refine lv_ldc2 (v := (-1)) hx hb hown (hts _ k_k_X10_347) dX10_thaw_48 ?_
    refine lv_lxor hx hb dX10_thaw_51 ?_
    refine lv_topl (fun v16 e16 => ?_)
    refine lv_land hx hb dX10_thaw_52 ?_
    refine lv_topl (fun v17 e17 => ?_)
    refine o_cv hw (oRunV cx hA hw q_X4_put k_m_X10_295 rfl h5 (by decide) (As := [.long v17]) (c_X4_put v5 h5 v17) (by decide) rfl hl.1 rfl (Nat.le_of_ble_eq_true rfl) dX10_thaw_53 (by decide)) (fun σ18 H locs hp hw => ?_)
    have p19_0 := hp
    have fr := oFr_tr fr p19_0 (by decide)
    refine lv_aload_n hx hb dX10_thaw_56 rfl (lv_at hl 1 rfl) ?_
    refine g_589 cx hw ha0 k_f_X10_452 dX10_thaw_57 (fun v20 e20 => ?_)
    refine lv_lload_n hx hb dX10_thaw_60 rfl (lv_at hl 0 rfl) ?_
    refine lv_ldc2 (v := (-1)) hx hb hown (hts _ k_k_X10_347) dX10_thaw_61 ?_
    refine lv_lxor hx hb dX10_thaw_64 ?_
    refine lv_topl (fun v21 e21 => ?_)
    refine lv_land hx hb dX10_thaw_65 ?_
    refine lv_topl (fun v22 e22 => ?_)
    refine o_ci hw (oRunS cx hA hw q_J13_bitCount_95d88 k_m_X10_349 (As := [.long v22]) (c_J13_bitCount_95d88 v22) (by decide) rfl hl.1 rfl (Nat.le_of_ble_eq_true rfl) dX10_thaw_66 (by decide)) (fun v24 σ23 H locs hp hw => ?_)
    obtain ⟨p24_0, p24_1⟩ := hp
    rw [p24_0] at hw
    rw [← hQ]
    exact o_ri cx rx hw dX10_thaw_69 ⟨fr, (iv_w p24_1 (by decide))⟩
  · --
    have i25 : Iv v1 0 0 := iv_eq1 c2 (iv_top v1) (⟨by decide, by decide⟩ : Iv 0 0 0) (by decide)
    refine lv_bipush (v := (-2)) hx hb dX10_thaw_7 (by decide) ?_
    rw [← hQ]
    exact o_ri cx rx hw dX10_thaw_9 ⟨fr, (iv_w (⟨by decide, by decide⟩ : Iv (-2) (-2) (-2)) (by decide))⟩
set_option maxHeartbeats 4000000 in
set_option maxRecDepth 100000 in
theorem c_X2_cellToldAs (a0 : Nat) (ha0 : oA L τ a0 1) (a1 : Int32) : oMet l A L τ cy D K yX2_cellToldAs cX2_cellToldAs 2 (some .int) 0 0 [.ref a0, .int a1] σ (va_Qi (fun r σ1 => σ1 = σ) (oPo A L τ cy D) A) := by
  refine oMk (by decide) (Nat.le_of_ble_eq_true rfl) rfl ?_
  intro p e s m args below meth c ls cx rx hA hw hl
  generalize hQ : MQ below _ args s 0 0 A = Q
  have hx := cx.1.1
  have hb := cx.1.2.1
  have hml := cx.1.2.2.1
  have hown := cx.1.2.2.2.1
  have hts := cx.1.2.2.2.2
  have hl : lv_has ls 2 [(0, .ref a0), (1, .int a1)] := hl
  refine lv_aload_n hx hb dX2_cellToldAs_0 rfl (lv_at hl 0 rfl) ?_
  refine g_64 cx hw ha0 k_f_X2_58 dX2_cellToldAs_1 (fun v1 e1 => ?_)
  refine lv_iconst (v := 1) hx hb dX2_cellToldAs_4 (by decide) ?_
  refine lv_icmp_ge (tgt := 12) hx hb dX2_cellToldAs_5 (by decide) (fun c2 => ?_) (fun c2 => ?_)
  · --
    have i3 : Iv v1 1 2147483647 := iv_le2 c2 (⟨by decide, by decide⟩ : Iv 1 1 1) (iv_top v1) (by decide)
    refine lv_bipush (v := 8) hx hb dX2_cellToldAs_12 (by decide) ?_
    refine lv_iload_n hx hb dX2_cellToldAs_14 rfl (lv_at hl 1 rfl) ?_
    refine lv_aload_n hx hb dX2_cellToldAs_15 rfl (lv_at hl 0 rfl) ?_
    refine g_64 cx hw ha0 k_f_X2_58 dX2_cellToldAs_16 (fun v4 e4 => ?_)
    rw [show v4 = v1 from e4.trans e1.symm]
    refine lv_idiv hx hb dX2_cellToldAs_19 (iv_nz i3 (by decide)) ?_
    refine lv_topi (fun v5 e5 => ?_)
    refine lv_imul hx hb dX2_cellToldAs_20 ?_
    refine lv_topi (fun v6 e6 => ?_)
    refine lv_iload_n hx hb dX2_cellToldAs_21 rfl (lv_at hl 1 rfl) ?_
    refine lv_aload_n hx hb dX2_cellToldAs_22 rfl (lv_at hl 0 rfl) ?_
    refine g_64 cx hw ha0 k_f_X2_58 dX2_cellToldAs_23 (fun v7 e7 => ?_)
    rw [show v7 = v1 from e7.trans e1.symm]
    refine lv_irem hx hb dX2_cellToldAs_26 (iv_nz i3 (by decide)) ?_
    refine lv_topi (fun v8 e8 => ?_)
    have i8 : Iv v8 (-2147483646) 2147483646 := iv_remA e8 i3 (by decide)
    refine lv_iadd hx hb dX2_cellToldAs_27 ?_
    refine lv_topi (fun v9 e9 => ?_)
    rw [← hQ]
    exact o_ri cx rx hw dX2_cellToldAs_28 rfl
  · --
    have i10 : Iv v1 (-2147483648) 0 := iv_lt1 (iv_nle c2) (iv_top v1) (⟨by decide, by decide⟩ : Iv 1 1 1) (by decide)
    refine lv_iconst (v := (-1)) hx hb dX2_cellToldAs_8 (by decide) ?_
    refine lv_goto (tgt := 28) hx hb dX2_cellToldAs_9 (by decide) ?_
    rw [← hQ]
    exact o_ri cx rx hw dX2_cellToldAs_28 rfl
abbrev fs_X10_passWithFlies : List Nat := [329, 331, 517]
abbrev ts_X10_passWithFlies : List Nat := [32, 33, 37, 38]
set_option maxHeartbeats 4000000 in
set_option maxRecDepth 100000 in
theorem c_X10_passWithFlies (a0 : Nat) (ha0 : oA L τ a0 9) (a1 : Nat) (ha1 : oA L τ a1 5) (a2 : Int32) : oMet l A L τ cy D K yX10_passWithFlies cX10_passWithFlies 5 (some .int) 4 106 [.ref a0, .ref a1, .int a2] σ (va_Qi (fun r σ1 => oFr τ fs_X10_passWithFlies ts_X10_passWithFlies σ σ1) (oPo A L τ cy D) A) := by
  refine oMk (by decide) (Nat.le_of_ble_eq_true rfl) rfl ?_
  intro p e s m args below meth c ls cx rx hA hw hl
  generalize hQ : MQ below _ args s 0 0 A = Q
  have hx := cx.1.1
  have hb := cx.1.2.1
  have hml := cx.1.2.2.1
  have hown := cx.1.2.2.2.1
  have hts := cx.1.2.2.2.2
  have hl : lv_has ls 5 [(0, .ref a0), (1, .ref a1), (2, .int a2)] := hl
  have fr : oFr τ fs_X10_passWithFlies ts_X10_passWithFlies σ σ := oFr_rf
  refine lv_aload_n hx hb dX10_passWithFlies_0 rfl (lv_at hl 0 rfl) ?_
  refine g_578 cx hw ha0 k_f_X10_26 dX10_passWithFlies_1 (fun v1 e1 h1 => ?_)
  refine lv_iload_n hx hb dX10_passWithFlies_4 rfl (lv_at hl 2 rfl) ?_
  refine o_ci hw (oRunV cx hA hw q_X2_isPlain k_m_X10_241 rfl h1 (by decide) (As := [.int a2]) (c_X2_isPlain v1 h1 a2) (by decide) rfl hl.1 rfl (Nat.le_of_ble_eq_true rfl) dX10_passWithFlies_5 (by decide)) (fun v3 σ2 H locs hp hw => ?_)
  obtain ⟨p3_0, p3_1, p3_2⟩ := hp
  rw [p3_0] at hw
  refine lv_if_ne (tgt := 20) hx hb dX10_passWithFlies_8 (by decide) (fun c4 => ?_) (fun c4 => ?_)
  · --
    have i5 : Iv v3 1 1 := iv_ne1 c4 p3_1 (⟨by decide, by decide⟩ : Iv 0 0 0) (by decide)
    have i6 : Iv a2 0 63 := p3_2 c4
    refine lv_aload_n hx hb dX10_passWithFlies_20 rfl (lv_at hl 1 rfl) ?_
    refine g_322 cx hw ha1 k_f_X10_151 dX10_passWithFlies_21 (fun v7 e7 h7 => ?_)
    refine lv_iload_n hx hb dX10_passWithFlies_24 rfl (lv_at hl 2 rfl) ?_
    refine o_iald cx hw h7 (by decide) rfl (iv_in i6 (by decide)) dX10_passWithFlies_25 (fun v8 e8 b8 => ?_)
    refine lv_istore_n (lv' := [(3, .int v8), (0, .ref a0), (1, .ref a1), (2, .int a2)]) hx hb dX10_passWithFlies_26 rfl hl (by decide) rfl (fun ls hl => ?_)
    refine lv_aload_n hx hb dX10_passWithFlies_27 rfl (lv_at hl 2 rfl) ?_
    refine g_322 cx hw ha1 k_f_X10_151 dX10_passWithFlies_28 (fun v9 e9 h9 => ?_)
    rw [show v9 = v7 from Option.some.inj (e9.symm.trans (e7))]
    refine lv_iload_n hx hb dX10_passWithFlies_31 rfl (lv_at hl 3 rfl) ?_
    refine lv_bipush (v := 9) hx hb dX10_passWithFlies_32 (by decide) ?_
    refine o_iast cx hw h7 (by decide) rfl (iv_in i6 (by decide)) trivial dX10_passWithFlies_34 (fun σ10 H locs eσ10 hw => ?_)
    have fr := oFr_p fr eσ10 h7 (by decide)
    refine lv_aload_n hx hb dX10_passWithFlies_35 rfl (lv_at hl 1 rfl) ?_
    refine g_580 cx hw ha0 k_f_X10_42 dX10_passWithFlies_36 (fun v11 e11 h11 => ?_)
    refine lv_aload_n hx hb dX10_passWithFlies_39 rfl (lv_at hl 2 rfl) ?_
    refine o_ci hw (oRunV cx hA hw q_X9_pass k_m_X10_269 rfl h11 (by decide) (As := [.ref a1]) (c_X9_pass v11 h11 a1 ha1) (by decide) rfl hl.1 rfl (Nat.le_of_ble_eq_true rfl) dX10_passWithFlies_40 (by decide)) (fun v13 σ12 H locs hp hw => ?_)
    have p13_0 := hp
    have fr := oFr_tr fr p13_0 (by decide)
    refine lv_istore (lv' := [(4, .int v13), (3, .int v8), (0, .ref a0), (1, .ref a1), (2, .int a2)]) hx hb dX10_passWithFlies_43 hl (by decide) rfl (fun ls hl => ?_)
    refine lv_aload_n hx hb dX10_passWithFlies_45 rfl (lv_at hl 3 rfl) ?_
    refine g_322 cx hw ha1 k_f_X10_151 dX10_passWithFlies_46 (fun v14 e14 h14 => ?_)
    rw [show v14 = v7 from Option.some.inj (e14.symm.trans (((kr_c p13_0 (by decide)).trans ((kr_p eσ10).trans e7))))]
    refine lv_iload_n hx hb dX10_passWithFlies_49 rfl (lv_at hl 4 rfl) ?_
    refine lv_iload_n hx hb dX10_passWithFlies_50 rfl (lv_at hl 1 rfl) ?_
    refine o_iast cx hw h7 (by decide) rfl (iv_in i6 (by decide)) trivial dX10_passWithFlies_51 (fun σ15 H locs eσ15 hw => ?_)
    have fr := oFr_p fr eσ15 h7 (by decide)
    refine lv_iload hx hb dX10_passWithFlies_52 (lv_at hl 0 rfl) ?_
    rw [← hQ]
    exact o_ri cx rx hw dX10_passWithFlies_54 fr
  · --
    have i16 : Iv v3 0 0 := iv_eq1 c4 p3_1 (⟨by decide, by decide⟩ : Iv 0 0 0) (by decide)
    refine lv_aload_n hx hb dX10_passWithFlies_11 rfl (lv_at hl 0 rfl) ?_
    refine g_580 cx hw ha0 k_f_X10_42 dX10_passWithFlies_12 (fun v17 e17 h17 => ?_)
    refine lv_aload_n hx hb dX10_passWithFlies_15 rfl (lv_at hl 1 rfl) ?_
    refine o_ci hw (oRunV cx hA hw q_X9_pass k_m_X10_269 rfl h17 (by decide) (As := [.ref a1]) (c_X9_pass v17 h17 a1 ha1) (by decide) rfl hl.1 rfl (Nat.le_of_ble_eq_true rfl) dX10_passWithFlies_16 (by decide)) (fun v19 σ18 H locs hp hw => ?_)
    have p19_0 := hp
    have fr := oFr_tr fr p19_0 (by decide)
    rw [← hQ]
    exact o_ri cx rx hw dX10_passWithFlies_19 fr
abbrev fs_X10_season : List Nat := [193, 327, 328, 329, 330, 331, 517]
abbrev ts_X10_season : List Nat := [32, 33, 34, 36, 37, 38]
set_option maxHeartbeats 4000000 in
set_option maxRecDepth 100000 in
theorem c_X10_season (a0 : Nat) (ha0 : oA L τ a0 9) (a1 : Int32) (a2 : Int32) : oMet l A L τ cy D K yX10_season cX10_season 8 (some .int) 5 130 [.ref a0, .int a1, .int a2] σ (va_Qi (fun r σ1 => oFr τ fs_X10_season ts_X10_season σ σ1) (oPo A L τ cy D) A) := by
  refine oMk (by decide) (Nat.le_of_ble_eq_true rfl) rfl ?_
  intro p e s m args below meth c ls cx rx hA hw hl
  generalize hQ : MQ below _ args s 0 0 A = Q
  have hx := cx.1.1
  have hb := cx.1.2.1
  have hml := cx.1.2.2.1
  have hown := cx.1.2.2.2.1
  have hts := cx.1.2.2.2.2
  have hl : lv_has ls 8 [(0, .ref a0), (1, .int a1), (2, .int a2)] := hl
  have fr : oFr τ fs_X10_season ts_X10_season σ σ := oFr_rf
  refine lv_aload_n hx hb dX10_season_0 rfl (lv_at hl 0 rfl) ?_
  refine g_578 cx hw ha0 k_f_X10_26 dX10_season_1 (fun v1 e1 h1 => ?_)
  refine g_64 cx hw h1 k_f_X10_121 dX10_season_4 (fun v2 e2 => ?_)
  refine lv_aload_n hx hb dX10_season_7 rfl (lv_at hl 0 rfl) ?_
  refine g_578 cx hw ha0 k_f_X10_26 dX10_season_8 (fun v3 e3 h3 => ?_)
  rw [show v3 = v1 from Option.some.inj (e3.symm.trans (e1))]
  refine g_65 cx hw h1 k_f_X10_124 dX10_season_11 (fun v4 e4 => ?_)
  refine lv_imul hx hb dX10_season_14 ?_
  refine lv_topi (fun v5 e5 => ?_)
  refine lv_istore_n (lv' := [(3, .int v5), (0, .ref a0), (1, .int a1), (2, .int a2)]) hx hb dX10_season_15 rfl hl (by decide) rfl (fun ls hl => ?_)
  refine lv_iload_n hx hb dX10_season_16 rfl (lv_at hl 3 rfl) ?_
  refine lv_iconst (v := 1) hx hb dX10_season_17 (by decide) ?_
  refine lv_icmp_lt (tgt := 32) hx hb dX10_season_18 (by decide) (fun c6 => ?_) (fun c6 => ?_)
  · --
    have i7 : Iv a2 (-2147483648) 0 := iv_lt1 c6 (iv_top a2) (⟨by decide, by decide⟩ : Iv 1 1 1) (by decide)
    refine lv_iconst (v := (-1)) hx hb dX10_season_32 (by decide) ?_
    rw [← hQ]
    exact o_ri cx rx hw dX10_season_33 fr
  · --
    have i8 : Iv a2 1 2147483647 := iv_le2 (iv_nlt c6) (⟨by decide, by decide⟩ : Iv 1 1 1) (iv_top a2) (by decide)
    refine lv_iload_n hx hb dX10_season_21 rfl (lv_at hl 3 rfl) ?_
    refine lv_bipush (v := 60) hx hb dX10_season_22 (by decide) ?_
    refine lv_icmp_gt (tgt := 32) hx hb dX10_season_24 (by decide) (fun c9 => ?_) (fun c9 => ?_)
    · --
      have i10 : Iv a2 61 2147483647 := iv_lt2 c9 (⟨by decide, by decide⟩ : Iv 60 60 60) i8 (by decide)
      refine lv_iconst (v := (-1)) hx hb dX10_season_32 (by decide) ?_
      rw [← hQ]
      exact o_ri cx rx hw dX10_season_33 fr
    · --
      have i11 : Iv a2 1 60 := iv_le1 (iv_nlt c9) i8 (⟨by decide, by decide⟩ : Iv 60 60 60) (by decide)
      refine lv_iload_n hx hb dX10_season_27 rfl (lv_at hl 0 rfl) ?_
      refine lv_iconst (v := 1) hx hb dX10_season_28 (by decide) ?_
      refine lv_icmp_ge (tgt := 34) hx hb dX10_season_29 (by decide) (fun c12 => ?_) (fun c12 => ?_)
      · --
        have i13 : Iv v5 1 2147483647 := iv_le2 c12 (⟨by decide, by decide⟩ : Iv 1 1 1) (iv_top v5) (by decide)
        refine lv_aload_n hx hb dX10_season_34 rfl (lv_at hl 1 rfl) ?_
        refine g_583 cx hw ha0 k_f_X10_61 dX10_season_35 (fun v14 e14 h14 => ?_)
        refine o_cr hw (oRunV cx hA hw q_X1_begin k_m_X10_377 rfl h14 (by decide) (As := []) (c_X1_begin v14 h14) (by decide) rfl hl.1 rfl (Nat.le_of_ble_eq_true rfl) dX10_season_38 (by decide)) (fun v16 σ15 H locs hp hw => ?_)
        obtain ⟨p16_0, p16_1⟩ := hp
        have fr := oFr_tr fr p16_0 (by decide)
        refine lv_astore (lv' := [(4, .ref v16), (3, .int v5), (0, .ref a0), (1, .int a1), (2, .int a2)]) hx hb dX10_season_41 hl (by decide) rfl (fun ls hl => ?_)
        refine lv_iload_n hx hb dX10_season_43 rfl (lv_at hl 3 rfl) ?_
        refine lv_istore (lv' := [(5, .int a1), (4, .ref v16), (3, .int v5), (0, .ref a0), (1, .int a1), (2, .int a2)]) hx hb dX10_season_44 hl (by decide) rfl (fun ls hl => ?_)
        refine lv_iconst (v := 0) hx hb dX10_season_46 (by decide) ?_
        refine lv_istore (lv' := [(6, .int 0), (5, .int a1), (4, .ref v16), (3, .int v5), (0, .ref a0), (1, .int a1), (2, .int a2)]) hx hb dX10_season_47 hl (by decide) rfl (fun ls hl => ?_)
        refine lv_iconst (v := 0) hx hb dX10_season_49 (by decide) ?_
        refine lv_istore (lv' := [(7, .int 0), (6, .int 0), (5, .int a1), (4, .ref v16), (3, .int v5), (0, .ref a0), (1, .int a1), (2, .int a2)]) hx hb dX10_season_50 hl (by decide) rfl (fun ls hl => ?_)
        have J_52 : ∀ n : Nat, ∀ (j52_5 : Int32) (j52_6 : Int32) (j52_7 : Int32) (ij52_7 : Iv j52_7 0 60), (60 - j52_7.toInt).toNat < n → ∀ (σ_52 : oSt) (H : Heap) (locs : List Loc), oI A L τ cy D s.heap σ_52 H locs → oFr τ fs_X10_season ts_X10_season σ σ_52 → ∀ (ls : Array Slot), lv_has ls 8 [(0, .ref a0), (1, .int a1), (2, .int a2), (3, .int v5), (4, .ref v16), (5, .int j52_5), (6, .int j52_6), (7, .int j52_7)] → W p l e ({ frames := 5, cells := 0, slots := 0, locals := 130 } : Room) s m args below meth c H locs 0 0 Q (F0 m 52 ls []) := by
          intro n
          induction n with
          | zero => intro j52_5 j52_6 j52_7 ij52_7 hn_52  σ_52 H locs hw fr   ls hl; exact absurd hn_52 (Nat.not_lt_zero _)
          | succ n ih_52 =>
            intro j52_5 j52_6 j52_7 ij52_7 hn_52  σ_52 H locs hw fr   ls hl
            refine lv_iload hx hb dX10_season_52 (lv_at hl 7 rfl) ?_
            refine lv_iload_n hx hb dX10_season_54 rfl (lv_at hl 2 rfl) ?_
            refine lv_icmp_ge (tgt := 101) hx hb dX10_season_55 (by decide) (fun c17 => ?_) (fun c17 => ?_)
            · --
              have i18 : Iv j52_7 1 60 := iv_le2 c17 i11 ij52_7 (by decide)
              refine lv_aload_n hx hb dX10_season_101 rfl (lv_at hl 0 rfl) ?_
              refine lv_aload hx hb dX10_season_102 (lv_at hl 4 rfl) ?_
              refine o_cv hw (oRunV cx hA hw q_X10_tellPlaces k_m_X10_273 rfl ha0 (by decide) (As := [.ref v16]) (c_X10_tellPlaces a0 ha0 v16 p16_1) (by decide) rfl hl.1 rfl (Nat.le_of_ble_eq_true rfl) dX10_season_104 (by decide)) (fun σ19 H locs hp hw => ?_)
              have p20_0 := hp
              have fr := oFr_tr fr p20_0 (by decide)
              refine lv_iload hx hb dX10_season_107 (lv_at hl 6 rfl) ?_
              rw [← hQ]
              exact o_ri cx rx hw dX10_season_109 fr
            · --
              have i21 : Iv j52_7 0 59 := iv_lt1 (iv_nle c17) ij52_7 i11 (by decide)
              refine lv_iload hx hb dX10_season_58 (lv_at hl 5 rfl) ?_
              refine lv_ldcw (v := 1103515245) hx hb hown (hts _ k_k_X10_456) dX10_season_60 ?_
              refine lv_imul hx hb dX10_season_63 ?_
              refine lv_topi (fun v22 e22 => ?_)
              refine lv_sipush (v := 12345) hx hb dX10_season_64 (by decide) ?_
              refine lv_iadd hx hb dX10_season_67 ?_
              refine lv_topi (fun v23 e23 => ?_)
              refine lv_istore (lv' := [(5, .int v23), (0, .ref a0), (1, .int a1), (2, .int a2), (3, .int v5), (4, .ref v16), (6, .int j52_6), (7, .int j52_7)]) hx hb dX10_season_68 hl (by decide) rfl (fun ls hl => ?_)
              refine lv_iload hx hb dX10_season_70 (lv_at hl 6 rfl) ?_
              refine lv_aload_n hx hb dX10_season_72 rfl (lv_at hl 1 rfl) ?_
              refine lv_aload hx hb dX10_season_73 (lv_at hl 5 rfl) ?_
              refine lv_aload_n hx hb dX10_season_75 rfl (lv_at hl 1 rfl) ?_
              refine g_578 cx hw ha0 k_f_X10_26 dX10_season_76 (fun v24 e24 h24 => ?_)
              refine lv_iload hx hb dX10_season_79 (lv_at hl 0 rfl) ?_
              refine lv_bipush (v := 16) hx hb dX10_season_81 (by decide) ?_
              refine lv_iushr hx hb dX10_season_83 rfl ?_
              refine lv_topi (fun v25 e25 => ?_)
              refine lv_iload_n hx hb dX10_season_84 rfl (lv_at hl 4 rfl) ?_
              refine lv_irem hx hb dX10_season_85 (iv_nz i13 (by decide)) ?_
              refine lv_topi (fun v26 e26 => ?_)
              have i26 : Iv v26 (-2147483646) 2147483646 := iv_remA e26 i13 (by decide)
              refine o_ci hw (oRunV cx hA hw q_X2_cellToldAs k_m_X10_457 rfl h24 (by decide) (As := [.int v26]) (c_X2_cellToldAs v24 h24 v26) (by decide) rfl hl.1 rfl (Nat.le_of_ble_eq_true rfl) dX10_season_86 (by decide)) (fun v28 σ27 H locs hp hw => ?_)
              have p28_0 := hp
              rw [p28_0] at hw
              refine o_ci hw (oRunV cx hA hw q_X10_passWithFlies k_m_X10_460 rfl ha0 (by decide) (As := [.ref v16, .int v28]) (c_X10_passWithFlies a0 ha0 v16 p16_1 v28) (by decide) rfl hl.1 rfl (Nat.le_of_ble_eq_true rfl) dX10_season_89 (by decide)) (fun v30 σ29 H locs hp hw => ?_)
              have p30_0 := hp
              have fr := oFr_tr fr p30_0 (by decide)
              refine lv_iadd hx hb dX10_season_92 ?_
              refine lv_topi (fun v31 e31 => ?_)
              refine lv_istore (lv' := [(6, .int v31), (5, .int v23), (0, .ref a0), (1, .int a1), (2, .int a2), (3, .int v5), (4, .ref v16), (7, .int j52_7)]) hx hb dX10_season_93 hl (by decide) rfl (fun ls hl => ?_)
              obtain ⟨v32, e32⟩ : ∃ y : Int32, y = j52_7 + 1 := ⟨_, rfl⟩
              have i32 : Iv v32 1 60 := iv_add e32 i21 (⟨by decide, by decide⟩ : Iv 1 1 1) (by decide)
              have x32 : v32.toInt = j52_7.toInt + 1 := ex_add e32 i21 (⟨by decide, by decide⟩ : Iv 1 1 1) (by decide)
              refine lv_iinc (v := v32) (lv' := [(7, .int v32), (6, .int v31), (5, .int v23), (0, .ref a0), (1, .int a1), (2, .int a2), (3, .int v5), (4, .ref v16)]) hx hb dX10_season_95 hl (k := 7) rfl (by rw [e32]; rfl) (by decide) rfl (fun ls hl => ?_)
              refine lv_goto (tgt := 52) hx hb dX10_season_98 (by decide) ?_
              exact ih_52 v23 v31 v32 (iv_w i32 (by decide)) (ms_up x32 (by decide) (iv_w (a' := 0) (b' := 60) i32 (by decide)).2 hn_52) σ29 _ _ hw fr _ (lv_sub hl [3, 4, 5, 6, 7, 2, 1, 0] rfl)
        exact J_52 _ a1 0 0 (iv_w (⟨by decide, by decide⟩ : Iv 0 0 0) (by decide)) (Nat.lt_succ_self _) σ15 _ _ hw fr _ (lv_sub hl [5, 6, 7, 4, 3, 2, 1, 0] rfl)
      · --
        have i33 : Iv v5 (-2147483648) 0 := iv_lt1 (iv_nle c12) (iv_top v5) (⟨by decide, by decide⟩ : Iv 1 1 1) (by decide)
        refine lv_iconst (v := (-1)) hx hb dX10_season_32 (by decide) ?_
        rw [← hQ]
        exact o_ri cx rx hw dX10_season_33 fr
abbrev fs_X10_keep : List Nat := [327, 328, 329, 330, 331, 587]
abbrev ts_X10_keep : List Nat := [32, 33, 34]
set_option maxHeartbeats 4000000 in
set_option maxRecDepth 100000 in
theorem c_X10_keep (a0 : Nat) (ha0 : oA L τ a0 9) (a1 : Int32) : oMet l A L τ cy D K yX10_keep cX10_keep 2 (some .boolean) 2 81 [.ref a0, .int a1] σ (va_Qi (fun r σ1 => oFr τ fs_X10_keep ts_X10_keep σ σ1 ∧ Iv r 0 1) (oPo A L τ cy D) A) := by
  refine oMk (by decide) (Nat.le_of_ble_eq_true rfl) rfl ?_
  intro p e s m args below meth c ls cx rx hA hw hl
  generalize hQ : MQ below _ args s 0 0 A = Q
  have hx := cx.1.1
  have hb := cx.1.2.1
  have hml := cx.1.2.2.1
  have hown := cx.1.2.2.2.1
  have hts := cx.1.2.2.2.2
  have hl : lv_has ls 2 [(0, .ref a0), (1, .int a1)] := hl
  have fr : oFr τ fs_X10_keep ts_X10_keep σ σ := oFr_rf
  refine lv_iload_n hx hb dX10_keep_0 rfl (lv_at hl 1 rfl) ?_
  refine lv_if_lt (tgt := 9) hx hb dX10_keep_1 (by decide) (fun c1 => ?_) (fun c1 => ?_)
  · --
    have i2 : Iv a1 (-2147483648) (-1) := iv_lt1 c1 (iv_top a1) (⟨by decide, by decide⟩ : Iv 0 0 0) (by decide)
    refine lv_iconst (v := 0) hx hb dX10_keep_9 (by decide) ?_
    rw [← hQ]
    exact o_rz cx rx hw (iv_nz01 (iv_w (⟨by decide, by decide⟩ : Iv 0 0 0) (by decide))) dX10_keep_10 ⟨fr, (iv_w (⟨by decide, by decide⟩ : Iv 0 0 0) (by decide))⟩
  · --
    have i3 : Iv a1 0 2147483647 := iv_le2 (iv_nlt c1) (⟨by decide, by decide⟩ : Iv 0 0 0) (iv_top a1) (by decide)
    refine lv_iload_n hx hb dX10_keep_4 rfl (lv_at hl 1 rfl) ?_
    refine lv_iconst (v := 2) hx hb dX10_keep_5 (by decide) ?_
    refine lv_icmp_lt (tgt := 11) hx hb dX10_keep_6 (by decide) (fun c4 => ?_) (fun c4 => ?_)
    · --
      have i5 : Iv a1 0 1 := iv_lt1 c4 i3 (⟨by decide, by decide⟩ : Iv 2 2 2) (by decide)
      refine lv_aload_n hx hb dX10_keep_11 rfl (lv_at hl 0 rfl) ?_
      refine g_586 cx hw ha0 k_f_X10_79 dX10_keep_12 (fun v6 e6 h6 => ?_)
      refine lv_iload_n hx hb dX10_keep_15 rfl (lv_at hl 1 rfl) ?_
      refine o_aald cx hw h6 (by decide) rfl (iv_in i5 (by decide)) (by decide) dX10_keep_16 (fun v7 e7 h7 => ?_)
      refine lv_aload_n hx hb dX10_keep_17 rfl (lv_at hl 0 rfl) ?_
      refine g_581 cx hw ha0 k_f_X10_49 dX10_keep_18 (fun v8 e8 h8 => ?_)
      refine o_cv hw (oRunV cx hA hw q_X6_copyFrom k_m_X10_131 rfl h7 (by decide) (As := [.ref v8]) (c_X6_copyFrom v7 h7 v8 h8) (by decide) rfl hl.1 rfl (Nat.le_of_ble_eq_true rfl) dX10_keep_21 (by decide)) (fun σ9 H locs hp hw => ?_)
      have p10_0 := hp
      have fr := oFr_tr fr p10_0 (by decide)
      refine lv_aload_n hx hb dX10_keep_24 rfl (lv_at hl 0 rfl) ?_
      refine lv_dup hx hb dX10_keep_25 rfl ?_
      refine g_587 cx hw ha0 k_f_X10_114 dX10_keep_26 (fun v11 e11 => ?_)
      refine lv_iconst (v := 1) hx hb dX10_keep_29 (by decide) ?_
      refine lv_iload_n hx hb dX10_keep_30 rfl (lv_at hl 1 rfl) ?_
      refine lv_ishl hx hb dX10_keep_31 ?_
      refine lv_topi (fun v12 e12 => ?_)
      have i12 : Iv v12 1 32 := iv_shl1 e12 i5 (by decide)
      refine lv_ior hx hb dX10_keep_32 ?_
      refine lv_topi (fun v13 e13 => ?_)
      refine p_587 cx hw ha0 k_f_X10_114 dX10_keep_33 (fun σ14 H locs eσ14 hw => ?_)
      have fr := oFr_i fr eσ14 (by decide)
      refine lv_iconst (v := 1) hx hb dX10_keep_36 (by decide) ?_
      rw [← hQ]
      exact o_rz cx rx hw (iv_nz01 (iv_w (⟨by decide, by decide⟩ : Iv 1 1 1) (by decide))) dX10_keep_37 ⟨fr, (iv_w (⟨by decide, by decide⟩ : Iv 1 1 1) (by decide))⟩
    · --
      have i15 : Iv a1 2 2147483647 := iv_le2 (iv_nlt c4) (⟨by decide, by decide⟩ : Iv 2 2 2) i3 (by decide)
      refine lv_iconst (v := 0) hx hb dX10_keep_9 (by decide) ?_
      rw [← hQ]
      exact o_rz cx rx hw (iv_nz01 (iv_w (⟨by decide, by decide⟩ : Iv 0 0 0) (by decide))) dX10_keep_10 ⟨fr, (iv_w (⟨by decide, by decide⟩ : Iv 0 0 0) (by decide))⟩
abbrev fs_X10_again : List Nat := [130, 327, 328, 329, 330, 331]
abbrev ts_X10_again : List Nat := [32, 33, 34]
set_option maxHeartbeats 4000000 in
set_option maxRecDepth 100000 in
theorem c_X10_again (a0 : Nat) (ha0 : oA L τ a0 9) (a1 : Int32) : oMet l A L τ cy D K yX10_again cX10_again 2 (some .boolean) 2 81 [.ref a0, .int a1] σ (va_Qi (fun r σ1 => oFr τ fs_X10_again ts_X10_again σ σ1 ∧ Iv r 0 1) (oPo A L τ cy D) A) := by
  refine oMk (by decide) (Nat.le_of_ble_eq_true rfl) rfl ?_
  intro p e s m args below meth c ls cx rx hA hw hl
  generalize hQ : MQ below _ args s 0 0 A = Q
  have hx := cx.1.1
  have hb := cx.1.2.1
  have hml := cx.1.2.2.1
  have hown := cx.1.2.2.2.1
  have hts := cx.1.2.2.2.2
  have hl : lv_has ls 2 [(0, .ref a0), (1, .int a1)] := hl
  have fr : oFr τ fs_X10_again ts_X10_again σ σ := oFr_rf
  refine lv_iload_n hx hb dX10_again_0 rfl (lv_at hl 1 rfl) ?_
  refine lv_if_lt (tgt := 20) hx hb dX10_again_1 (by decide) (fun c1 => ?_) (fun c1 => ?_)
  · --
    have i2 : Iv a1 (-2147483648) (-1) := iv_lt1 c1 (iv_top a1) (⟨by decide, by decide⟩ : Iv 0 0 0) (by decide)
    refine lv_iconst (v := 0) hx hb dX10_again_20 (by decide) ?_
    rw [← hQ]
    exact o_rz cx rx hw (iv_nz01 (iv_w (⟨by decide, by decide⟩ : Iv 0 0 0) (by decide))) dX10_again_21 ⟨fr, (iv_w (⟨by decide, by decide⟩ : Iv 0 0 0) (by decide))⟩
  · --
    have i3 : Iv a1 0 2147483647 := iv_le2 (iv_nlt c1) (⟨by decide, by decide⟩ : Iv 0 0 0) (iv_top a1) (by decide)
    refine lv_iload_n hx hb dX10_again_4 rfl (lv_at hl 1 rfl) ?_
    refine lv_iconst (v := 2) hx hb dX10_again_5 (by decide) ?_
    refine lv_icmp_ge (tgt := 20) hx hb dX10_again_6 (by decide) (fun c4 => ?_) (fun c4 => ?_)
    · --
      have i5 : Iv a1 2 2147483647 := iv_le2 c4 (⟨by decide, by decide⟩ : Iv 2 2 2) i3 (by decide)
      refine lv_iconst (v := 0) hx hb dX10_again_20 (by decide) ?_
      rw [← hQ]
      exact o_rz cx rx hw (iv_nz01 (iv_w (⟨by decide, by decide⟩ : Iv 0 0 0) (by decide))) dX10_again_21 ⟨fr, (iv_w (⟨by decide, by decide⟩ : Iv 0 0 0) (by decide))⟩
    · --
      have i6 : Iv a1 0 1 := iv_lt1 (iv_nle c4) i3 (⟨by decide, by decide⟩ : Iv 2 2 2) (by decide)
      refine lv_aload_n hx hb dX10_again_9 rfl (lv_at hl 0 rfl) ?_
      refine g_587 cx hw ha0 k_f_X10_114 dX10_again_10 (fun v7 e7 => ?_)
      refine lv_iload_n hx hb dX10_again_13 rfl (lv_at hl 1 rfl) ?_
      refine lv_ishr hx hb dX10_again_14 ?_
      refine lv_topi (fun v8 e8 => ?_)
      refine lv_iconst (v := 1) hx hb dX10_again_15 (by decide) ?_
      refine lv_iand hx hb dX10_again_16 ?_
      refine lv_topi (fun v9 e9 => ?_)
      have i9 : Iv v9 0 1 := iv_and e9 (⟨by decide, by decide⟩ : Iv 1 1 1) (by decide)
      refine lv_if_ne (tgt := 22) hx hb dX10_again_17 (by decide) (fun c10 => ?_) (fun c10 => ?_)
      · --
        have i11 : Iv v9 1 1 := iv_ne1 c10 i9 (⟨by decide, by decide⟩ : Iv 0 0 0) (by decide)
        refine lv_aload_n hx hb dX10_again_22 rfl (lv_at hl 0 rfl) ?_
        refine g_581 cx hw ha0 k_f_X10_49 dX10_again_23 (fun v12 e12 h12 => ?_)
        refine lv_aload_n hx hb dX10_again_26 rfl (lv_at hl 0 rfl) ?_
        refine g_586 cx hw ha0 k_f_X10_79 dX10_again_27 (fun v13 e13 h13 => ?_)
        refine lv_iload_n hx hb dX10_again_30 rfl (lv_at hl 1 rfl) ?_
        refine o_aald cx hw h13 (by decide) rfl (iv_in i6 (by decide)) (by decide) dX10_again_31 (fun v14 e14 h14 => ?_)
        refine o_cv hw (oRunV cx hA hw q_X6_copyFrom k_m_X10_131 rfl h12 (by decide) (As := [.ref v14]) (c_X6_copyFrom v12 h12 v14 h14) (by decide) rfl hl.1 rfl (Nat.le_of_ble_eq_true rfl) dX10_again_32 (by decide)) (fun σ15 H locs hp hw => ?_)
        have p16_0 := hp
        have fr := oFr_tr fr p16_0 (by decide)
        refine lv_aload_n hx hb dX10_again_35 rfl (lv_at hl 0 rfl) ?_
        refine g_585 cx hw ha0 k_f_X10_75 dX10_again_36 (fun v17 e17 h17 => ?_)
        refine o_cv hw (oRunV cx hA hw q_X3_forget k_m_X10_111 rfl h17 (by decide) (As := []) (c_X3_forget v17 h17) (by decide) rfl hl.1 rfl (Nat.le_of_ble_eq_true rfl) dX10_again_39 (by decide)) (fun σ18 H locs hp hw => ?_)
        have p19_0 := hp
        have fr := oFr_tr fr p19_0 (by decide)
        refine lv_iconst (v := 1) hx hb dX10_again_42 (by decide) ?_
        rw [← hQ]
        exact o_rz cx rx hw (iv_nz01 (iv_w (⟨by decide, by decide⟩ : Iv 1 1 1) (by decide))) dX10_again_43 ⟨fr, (iv_w (⟨by decide, by decide⟩ : Iv 1 1 1) (by decide))⟩
      · --
        have i20 : Iv v9 0 0 := iv_eq1 c10 i9 (⟨by decide, by decide⟩ : Iv 0 0 0) (by decide)
        refine lv_iconst (v := 0) hx hb dX10_again_20 (by decide) ?_
        rw [← hQ]
        exact o_rz cx rx hw (iv_nz01 (iv_w (⟨by decide, by decide⟩ : Iv 0 0 0) (by decide))) dX10_again_21 ⟨fr, (iv_w (⟨by decide, by decide⟩ : Iv 0 0 0) (by decide))⟩
set_option maxHeartbeats 4000000 in
set_option maxRecDepth 100000 in
theorem c_X6_grassInAll (a0 : Nat) (ha0 : oA L τ a0 5) : oMet l A L τ cy D K yX6_grassInAll cX6_grassInAll 3 (some .int) 0 0 [.ref a0] σ (va_Qi (fun r σ1 => σ1 = σ) (oPo A L τ cy D) A) := by
  refine oMk (by decide) (Nat.le_of_ble_eq_true rfl) rfl ?_
  intro p e s m args below meth c ls cx rx hA hw hl
  generalize hQ : MQ below _ args s 0 0 A = Q
  have hx := cx.1.1
  have hb := cx.1.2.1
  have hml := cx.1.2.2.1
  have hown := cx.1.2.2.2.1
  have hts := cx.1.2.2.2.2
  have hl : lv_has ls 3 [(0, .ref a0)] := hl
  refine lv_iconst (v := 0) hx hb dX6_grassInAll_0 (by decide) ?_
  refine lv_istore_n (lv' := [(1, .int 0), (0, .ref a0)]) hx hb dX6_grassInAll_1 rfl hl (by decide) rfl (fun ls hl => ?_)
  refine lv_iconst (v := 0) hx hb dX6_grassInAll_2 (by decide) ?_
  refine lv_istore_n (lv' := [(2, .int 0), (1, .int 0), (0, .ref a0)]) hx hb dX6_grassInAll_3 rfl hl (by decide) rfl (fun ls hl => ?_)
  have J_4 : ∀ n : Nat, ∀ (j4_1 : Int32) (j4_2 : Int32) (ij4_2 : Iv j4_2 0 64), (64 - j4_2.toInt).toNat < n → ∀ (H : Heap) (locs : List Loc), oI A L τ cy D s.heap σ H locs → ∀ (ls : Array Slot), lv_has ls 3 [(0, .ref a0), (1, .int j4_1), (2, .int j4_2)] → W p l e ({ frames := 0, cells := 0, slots := 0, locals := 0 } : Room) s m args below meth c H locs 0 0 Q (F0 m 4 ls []) := by
    intro n
    induction n with
    | zero => intro j4_1 j4_2 ij4_2 hn_4  H locs hw  ls hl; exact absurd hn_4 (Nat.not_lt_zero _)
    | succ n ih_4 =>
      intro j4_1 j4_2 ij4_2 hn_4  H locs hw  ls hl
      refine lv_iload_n hx hb dX6_grassInAll_4 rfl (lv_at hl 2 rfl) ?_
      refine lv_bipush (v := 64) hx hb dX6_grassInAll_5 (by decide) ?_
      refine lv_icmp_ge (tgt := 25) hx hb dX6_grassInAll_7 (by decide) (fun c1 => ?_) (fun c1 => ?_)
      · --
        have i2 : Iv j4_2 64 64 := iv_le2 c1 (⟨by decide, by decide⟩ : Iv 64 64 64) ij4_2 (by decide)
        refine lv_iload_n hx hb dX6_grassInAll_25 rfl (lv_at hl 1 rfl) ?_
        rw [← hQ]
        exact o_ri cx rx hw dX6_grassInAll_26 rfl
      · --
        have i3 : Iv j4_2 0 63 := iv_lt1 (iv_nle c1) ij4_2 (⟨by decide, by decide⟩ : Iv 64 64 64) (by decide)
        refine lv_iload_n hx hb dX6_grassInAll_10 rfl (lv_at hl 1 rfl) ?_
        refine lv_aload_n hx hb dX6_grassInAll_11 rfl (lv_at hl 0 rfl) ?_
        refine g_320 cx hw ha0 k_f_X6_9 dX6_grassInAll_12 (fun v4 e4 h4 => ?_)
        refine lv_iload_n hx hb dX6_grassInAll_15 rfl (lv_at hl 2 rfl) ?_
        refine o_iald cx hw h4 (by decide) rfl (iv_in i3 (by decide)) dX6_grassInAll_16 (fun v5 e5 b5 => ?_)
        refine lv_iadd hx hb dX6_grassInAll_17 ?_
        refine lv_topi (fun v6 e6 => ?_)
        refine lv_istore_n (lv' := [(1, .int v6), (0, .ref a0), (2, .int j4_2)]) hx hb dX6_grassInAll_18 rfl hl (by decide) rfl (fun ls hl => ?_)
        obtain ⟨v7, e7⟩ : ∃ y : Int32, y = j4_2 + 1 := ⟨_, rfl⟩
        have i7 : Iv v7 1 64 := iv_add e7 i3 (⟨by decide, by decide⟩ : Iv 1 1 1) (by decide)
        have x7 : v7.toInt = j4_2.toInt + 1 := ex_add e7 i3 (⟨by decide, by decide⟩ : Iv 1 1 1) (by decide)
        refine lv_iinc (v := v7) (lv' := [(2, .int v7), (1, .int v6), (0, .ref a0)]) hx hb dX6_grassInAll_19 hl (k := 2) rfl (by rw [e7]; rfl) (by decide) rfl (fun ls hl => ?_)
        refine lv_goto (tgt := 4) hx hb dX6_grassInAll_22 (by decide) ?_
        exact ih_4 v6 v7 (iv_w i7 (by decide)) (ms_up x7 (by decide) (iv_w (a' := 0) (b' := 64) i7 (by decide)).2 hn_4) _ _ hw _ (lv_sub hl [2, 1, 0] rfl)
  exact J_4 _ 0 0 (iv_w (⟨by decide, by decide⟩ : Iv 0 0 0) (by decide)) (Nat.lt_succ_self _) _ _ hw _ (lv_sub hl [2, 1, 0] rfl)
set_option maxHeartbeats 4000000 in
set_option maxRecDepth 100000 in
theorem c_X10_count (a0 : Nat) (ha0 : oA L τ a0 9) (a1 : Int32) : oMet l A L τ cy D K yX10_count cX10_count 2 (some .int) 1 22 [.ref a0, .int a1] σ (va_Qi (fun r σ1 => σ1 = σ) (oPo A L τ cy D) A) := by
  refine oMk (by decide) (Nat.le_of_ble_eq_true rfl) rfl ?_
  intro p e s m args below meth c ls cx rx hA hw hl
  generalize hQ : MQ below _ args s 0 0 A = Q
  have hx := cx.1.1
  have hb := cx.1.2.1
  have hml := cx.1.2.2.1
  have hown := cx.1.2.2.2.1
  have hts := cx.1.2.2.2.2
  have hl : lv_has ls 2 [(0, .ref a0), (1, .int a1)] := hl
  refine lv_iload_n hx hb dX10_count_0 rfl (lv_at hl 1 rfl) ?_
  by_cases q1 : a1 = 0
  · --
    refine lv_tableIn (tgt := 68) hx hb dX10_count_1 (by rw [q1]; decide) (by rw [q1]; decide) (by rw [q1]; rfl) (by decide) ?_
    have i2 : Iv a1 0 0 := iv_eq1 q1 (iv_top a1) (⟨by decide, by decide⟩ : Iv 0 0 0) (by decide)
    refine lv_aload_n hx hb dX10_count_68 rfl (lv_at hl 0 rfl) ?_
    refine g_578 cx hw ha0 k_f_X10_26 dX10_count_69 (fun v3 e3 h3 => ?_)
    refine g_64 cx hw h3 k_f_X10_121 dX10_count_72 (fun v4 e4 => ?_)
    rw [← hQ]
    exact o_ri cx rx hw dX10_count_75 rfl
  by_cases q5 : a1 = 1
  · --
    refine lv_tableIn (tgt := 76) hx hb dX10_count_1 (by rw [q5]; decide) (by rw [q5]; decide) (by rw [q5]; rfl) (by decide) ?_
    have i6 : Iv a1 1 1 := iv_eq1 q5 (iv_top a1) (⟨by decide, by decide⟩ : Iv 1 1 1) (by decide)
    refine lv_aload_n hx hb dX10_count_76 rfl (lv_at hl 0 rfl) ?_
    refine g_578 cx hw ha0 k_f_X10_26 dX10_count_77 (fun v7 e7 h7 => ?_)
    refine g_65 cx hw h7 k_f_X10_124 dX10_count_80 (fun v8 e8 => ?_)
    rw [← hQ]
    exact o_ri cx rx hw dX10_count_83 rfl
  by_cases q9 : a1 = 2
  · --
    refine lv_tableIn (tgt := 84) hx hb dX10_count_1 (by rw [q9]; decide) (by rw [q9]; decide) (by rw [q9]; rfl) (by decide) ?_
    have i10 : Iv a1 2 2 := iv_eq1 q9 (iv_top a1) (⟨by decide, by decide⟩ : Iv 2 2 2) (by decide)
    refine lv_aload_n hx hb dX10_count_84 rfl (lv_at hl 0 rfl) ?_
    refine g_578 cx hw ha0 k_f_X10_26 dX10_count_85 (fun v11 e11 h11 => ?_)
    refine g_66 cx hw h11 k_f_X10_306 dX10_count_88 (fun v12 e12 i12 => ?_)
    rw [← hQ]
    exact o_ri cx rx hw dX10_count_91 rfl
  by_cases q13 : a1 = 3
  · --
    refine lv_tableIn (tgt := 92) hx hb dX10_count_1 (by rw [q13]; decide) (by rw [q13]; decide) (by rw [q13]; rfl) (by decide) ?_
    have i14 : Iv a1 3 3 := iv_eq1 q13 (iv_top a1) (⟨by decide, by decide⟩ : Iv 3 3 3) (by decide)
    refine lv_aload_n hx hb dX10_count_92 rfl (lv_at hl 0 rfl) ?_
    refine g_581 cx hw ha0 k_f_X10_49 dX10_count_93 (fun v15 e15 h15 => ?_)
    refine g_330 cx hw h15 k_f_X10_154 dX10_count_96 (fun v16 e16 => ?_)
    rw [← hQ]
    exact o_ri cx rx hw dX10_count_99 rfl
  by_cases q17 : a1 = 4
  · --
    refine lv_tableIn (tgt := 100) hx hb dX10_count_1 (by rw [q17]; decide) (by rw [q17]; decide) (by rw [q17]; rfl) (by decide) ?_
    have i18 : Iv a1 4 4 := iv_eq1 q17 (iv_top a1) (⟨by decide, by decide⟩ : Iv 4 4 4) (by decide)
    refine lv_aload_n hx hb dX10_count_100 rfl (lv_at hl 0 rfl) ?_
    refine g_581 cx hw ha0 k_f_X10_49 dX10_count_101 (fun v19 e19 h19 => ?_)
    refine g_327 cx hw h19 k_f_X10_206 dX10_count_104 (fun v20 e20 i20 => ?_)
    rw [← hQ]
    exact o_ri cx rx hw dX10_count_107 rfl
  by_cases q21 : a1 = 5
  · --
    refine lv_tableIn (tgt := 108) hx hb dX10_count_1 (by rw [q21]; decide) (by rw [q21]; decide) (by rw [q21]; rfl) (by decide) ?_
    have i22 : Iv a1 5 5 := iv_eq1 q21 (iv_top a1) (⟨by decide, by decide⟩ : Iv 5 5 5) (by decide)
    refine lv_aload_n hx hb dX10_count_108 rfl (lv_at hl 0 rfl) ?_
    refine g_581 cx hw ha0 k_f_X10_49 dX10_count_109 (fun v23 e23 h23 => ?_)
    refine g_329 cx hw h23 k_f_X10_192 dX10_count_112 (fun v24 e24 => ?_)
    rw [← hQ]
    exact o_ri cx rx hw dX10_count_115 rfl
  by_cases q25 : a1 = 6
  · --
    refine lv_tableIn (tgt := 116) hx hb dX10_count_1 (by rw [q25]; decide) (by rw [q25]; decide) (by rw [q25]; rfl) (by decide) ?_
    have i26 : Iv a1 6 6 := iv_eq1 q25 (iv_top a1) (⟨by decide, by decide⟩ : Iv 6 6 6) (by decide)
    refine lv_aload_n hx hb dX10_count_116 rfl (lv_at hl 0 rfl) ?_
    refine g_581 cx hw ha0 k_f_X10_49 dX10_count_117 (fun v27 e27 h27 => ?_)
    refine g_331 cx hw h27 k_f_X10_463 dX10_count_120 (fun v28 e28 => ?_)
    rw [← hQ]
    exact o_ri cx rx hw dX10_count_123 rfl
  by_cases q29 : a1 = 7
  · --
    refine lv_tableIn (tgt := 124) hx hb dX10_count_1 (by rw [q29]; decide) (by rw [q29]; decide) (by rw [q29]; rfl) (by decide) ?_
    have i30 : Iv a1 7 7 := iv_eq1 q29 (iv_top a1) (⟨by decide, by decide⟩ : Iv 7 7 7) (by decide)
    refine lv_aload_n hx hb dX10_count_124 rfl (lv_at hl 0 rfl) ?_
    refine g_580 cx hw ha0 k_f_X10_42 dX10_count_125 (fun v31 e31 h31 => ?_)
    refine g_514 cx hw h31 k_f_X10_167 dX10_count_128 (fun v32 e32 => ?_)
    rw [← hQ]
    exact o_ri cx rx hw dX10_count_131 rfl
  by_cases q33 : a1 = 8
  · --
    refine lv_tableIn (tgt := 132) hx hb dX10_count_1 (by rw [q33]; decide) (by rw [q33]; decide) (by rw [q33]; rfl) (by decide) ?_
    have i34 : Iv a1 8 8 := iv_eq1 q33 (iv_top a1) (⟨by decide, by decide⟩ : Iv 8 8 8) (by decide)
    refine lv_aload_n hx hb dX10_count_132 rfl (lv_at hl 0 rfl) ?_
    refine g_580 cx hw ha0 k_f_X10_42 dX10_count_133 (fun v35 e35 h35 => ?_)
    refine g_515 cx hw h35 k_f_X10_203 dX10_count_136 (fun v36 e36 => ?_)
    rw [← hQ]
    exact o_ri cx rx hw dX10_count_139 rfl
  by_cases q37 : a1 = 9
  · --
    refine lv_tableIn (tgt := 140) hx hb dX10_count_1 (by rw [q37]; decide) (by rw [q37]; decide) (by rw [q37]; rfl) (by decide) ?_
    have i38 : Iv a1 9 9 := iv_eq1 q37 (iv_top a1) (⟨by decide, by decide⟩ : Iv 9 9 9) (by decide)
    refine lv_aload_n hx hb dX10_count_140 rfl (lv_at hl 0 rfl) ?_
    refine g_581 cx hw ha0 k_f_X10_49 dX10_count_141 (fun v39 e39 h39 => ?_)
    refine o_ci hw (oRunV cx hA hw q_X6_grassInAll k_m_X10_466 rfl h39 (by decide) (As := []) (c_X6_grassInAll v39 h39) (by decide) rfl hl.1 rfl (Nat.le_of_ble_eq_true rfl) dX10_count_144 (by decide)) (fun v41 σ40 H locs hp hw => ?_)
    have p41_0 := hp
    rw [p41_0] at hw
    rw [← hQ]
    exact o_ri cx rx hw dX10_count_147 rfl
  by_cases q42 : a1 = 10
  · --
    refine lv_tableIn (tgt := 148) hx hb dX10_count_1 (by rw [q42]; decide) (by rw [q42]; decide) (by rw [q42]; rfl) (by decide) ?_
    have i43 : Iv a1 10 10 := iv_eq1 q42 (iv_top a1) (⟨by decide, by decide⟩ : Iv 10 10 10) (by decide)
    refine lv_aload_n hx hb dX10_count_148 rfl (lv_at hl 0 rfl) ?_
    refine g_585 cx hw ha0 k_f_X10_75 dX10_count_149 (fun v44 e44 h44 => ?_)
    refine g_130 cx hw h44 k_f_X10_303 dX10_count_152 (fun v45 e45 i45 => ?_)
    rw [← hQ]
    exact o_ri cx rx hw dX10_count_155 rfl
  by_cases q46 : a1 = 11
  · --
    refine lv_tableIn (tgt := 156) hx hb dX10_count_1 (by rw [q46]; decide) (by rw [q46]; decide) (by rw [q46]; rfl) (by decide) ?_
    have i47 : Iv a1 11 11 := iv_eq1 q46 (iv_top a1) (⟨by decide, by decide⟩ : Iv 11 11 11) (by decide)
    refine lv_aload_n hx hb dX10_count_156 rfl (lv_at hl 0 rfl) ?_
    refine g_577 cx hw ha0 k_f_X10_19 dX10_count_157 (fun v48 e48 h48 => ?_)
    refine g_193 cx hw h48 k_f_X10_469 dX10_count_160 (fun v49 e49 i49 => ?_)
    rw [← hQ]
    exact o_ri cx rx hw dX10_count_163 rfl
  by_cases q50 : a1 = 12
  · --
    refine lv_tableIn (tgt := 164) hx hb dX10_count_1 (by rw [q50]; decide) (by rw [q50]; decide) (by rw [q50]; rfl) (by decide) ?_
    have i51 : Iv a1 12 12 := iv_eq1 q50 (iv_top a1) (⟨by decide, by decide⟩ : Iv 12 12 12) (by decide)
    refine lv_aload_n hx hb dX10_count_164 rfl (lv_at hl 0 rfl) ?_
    refine g_576 cx hw ha0 k_f_X10_10 dX10_count_165 (fun v52 e52 h52 => ?_)
    refine g_385 cx hw h52 k_f_X10_100 dX10_count_168 (fun v53 e53 i53 => ?_)
    rw [← hQ]
    exact o_ri cx rx hw dX10_count_171 rfl
  have q1 := iv_nt q1 (k := 0) (by decide)
  have q5 := iv_nt q5 (k := 1) (by decide)
  have q9 := iv_nt q9 (k := 2) (by decide)
  have q13 := iv_nt q13 (k := 3) (by decide)
  have q17 := iv_nt q17 (k := 4) (by decide)
  have q21 := iv_nt q21 (k := 5) (by decide)
  have q25 := iv_nt q25 (k := 6) (by decide)
  have q29 := iv_nt q29 (k := 7) (by decide)
  have q33 := iv_nt q33 (k := 8) (by decide)
  have q37 := iv_nt q37 (k := 9) (by decide)
  have q42 := iv_nt q42 (k := 10) (by decide)
  have q46 := iv_nt q46 (k := 11) (by decide)
  have q50 := iv_nt q50 (k := 12) (by decide)
  refine lv_tableOut (tgt := 172) hx hb dX10_count_1 (by omega) (by decide) ?_
  refine lv_iconst (v := (-1)) hx hb dX10_count_172 (by decide) ?_
  rw [← hQ]
  exact o_ri cx rx hw dX10_count_173 rfl
set_option maxHeartbeats 4000000 in
set_option maxRecDepth 100000 in
theorem c_X11_thrown (a0 : Nat) (ha0 : oA L τ a0 10) : oMet l A L τ cy D K yX11_thrown cX11_thrown 1 (some .int) 0 0 [.ref a0] σ (va_Qi (fun r σ1 => σ1 = σ) (oPo A L τ cy D) A) := by
  refine oMk (by decide) (Nat.le_of_ble_eq_true rfl) rfl ?_
  intro p e s m args below meth c ls cx rx hA hw hl
  generalize hQ : MQ below _ args s 0 0 A = Q
  have hx := cx.1.1
  have hb := cx.1.2.1
  have hml := cx.1.2.2.1
  have hown := cx.1.2.2.2.1
  have hts := cx.1.2.2.2.2
  have hl : lv_has ls 1 [(0, .ref a0)] := hl
  refine lv_aload_n hx hb dX11_thrown_0 rfl (lv_at hl 0 rfl) ?_
  refine g_658 cx hw ha0 k_f_X11_89 dX11_thrown_1 (fun v1 e1 => ?_)
  rw [← hQ]
  exact o_ri cx rx hw dX11_thrown_4 rfl
set_option maxHeartbeats 4000000 in
set_option maxRecDepth 100000 in
theorem c_X11_in (a0 : Int32) (a1 : Int32) (a2 : Int32) : oMet l A L τ cy D K yX11_in cX11_in 3 (some .boolean) 0 0 [.int a0, .int a1, .int a2] σ (va_Qi (fun r σ1 => σ1 = σ ∧ Iv r 0 1 ∧ (¬ r = 0 → a1 ≤ a0 ∧ a0 ≤ a2)) (oPo A L τ cy D) A) := by
  refine oMk (by decide) (Nat.le_of_ble_eq_true rfl) rfl ?_
  intro p e s m args below meth c ls cx rx hA hw hl
  generalize hQ : MQ below _ args s 0 0 A = Q
  have hx := cx.1.1
  have hb := cx.1.2.1
  have hml := cx.1.2.2.1
  have hown := cx.1.2.2.2.1
  have hts := cx.1.2.2.2.2
  have hl : lv_has ls 3 [(0, .int a0), (1, .int a1), (2, .int a2)] := hl
  refine lv_iload_n hx hb dX11_in_0 rfl (lv_at hl 0 rfl) ?_
  refine lv_iload_n hx hb dX11_in_1 rfl (lv_at hl 1 rfl) ?_
  refine lv_icmp_lt (tgt := 14) hx hb dX11_in_2 (by decide) (fun c1 => ?_) (fun c1 => ?_)
  · --
    have i2 : Iv a0 (-2147483648) 2147483646 := iv_lt1 c1 (iv_top a0) (iv_top a1) (by decide)
    have i3 : Iv a1 (-2147483647) 2147483647 := iv_lt2 c1 (iv_top a0) (iv_top a1) (by decide)
    refine lv_iconst (v := 0) hx hb dX11_in_14 (by decide) ?_
    rw [← hQ]
    exact o_rz cx rx hw (iv_nz01 (iv_w (⟨by decide, by decide⟩ : Iv 0 0 0) (by decide))) dX11_in_15 ⟨rfl, (iv_w (⟨by decide, by decide⟩ : Iv 0 0 0) (by decide)), (fun h => absurd rfl h)⟩
  · --
    refine lv_iload_n hx hb dX11_in_5 rfl (lv_at hl 0 rfl) ?_
    refine lv_iload_n hx hb dX11_in_6 rfl (lv_at hl 2 rfl) ?_
    refine lv_icmp_gt (tgt := 14) hx hb dX11_in_7 (by decide) (fun c4 => ?_) (fun c4 => ?_)
    · --
      have i5 : Iv a2 (-2147483648) 2147483646 := iv_lt1 c4 (iv_top a2) (iv_top a0) (by decide)
      have i6 : Iv a0 (-2147483647) 2147483647 := iv_lt2 c4 (iv_top a2) (iv_top a0) (by decide)
      refine lv_iconst (v := 0) hx hb dX11_in_14 (by decide) ?_
      rw [← hQ]
      exact o_rz cx rx hw (iv_nz01 (iv_w (⟨by decide, by decide⟩ : Iv 0 0 0) (by decide))) dX11_in_15 ⟨rfl, (iv_w (⟨by decide, by decide⟩ : Iv 0 0 0) (by decide)), (fun h => absurd rfl h)⟩
    · --
      refine lv_iconst (v := 1) hx hb dX11_in_10 (by decide) ?_
      refine lv_goto (tgt := 15) hx hb dX11_in_11 (by decide) ?_
      rw [← hQ]
      exact o_rz cx rx hw (iv_nz01 (iv_w (⟨by decide, by decide⟩ : Iv 1 1 1) (by decide))) dX11_in_15 ⟨rfl, (iv_w (⟨by decide, by decide⟩ : Iv 1 1 1) (by decide)), (fun _ => ⟨(iv_nlt c1), (iv_nlt c4)⟩)⟩
set_option maxHeartbeats 4000000 in
set_option maxRecDepth 100000 in
theorem c_X11_has (a0 : Int64) (a1 : Int32) : oMet l A L τ cy D K yX11_has cX11_has 3 (some .boolean) 0 0 [.long a0, .int a1] σ (va_Qi (fun r σ1 => σ1 = σ ∧ Iv r 0 1) (oPo A L τ cy D) A) := by
  refine oMk (by decide) (Nat.le_of_ble_eq_true rfl) rfl ?_
  intro p e s m args below meth c ls cx rx hA hw hl
  generalize hQ : MQ below _ args s 0 0 A = Q
  have hx := cx.1.1
  have hb := cx.1.2.1
  have hml := cx.1.2.2.1
  have hown := cx.1.2.2.2.1
  have hts := cx.1.2.2.2.2
  have hl : lv_has ls 3 [(0, .long a0), (2, .int a1)] := hl
  refine lv_lload_n hx hb dX11_has_0 rfl (lv_at hl 0 rfl) ?_
  refine lv_iload_n hx hb dX11_has_1 rfl (lv_at hl 1 rfl) ?_
  refine lv_lushr hx hb dX11_has_2 rfl ?_
  refine lv_topl (fun v1 e1 => ?_)
  refine lv_lconst (v := 1) hx hb dX11_has_3 (by decide) ?_
  refine lv_land hx hb dX11_has_4 ?_
  refine lv_topl (fun v2 e2 => ?_)
  refine lv_lconst (v := 1) hx hb dX11_has_5 (by decide) ?_
  refine W.lcmp hx hb dX11_has_6 ?_
  refine lv_topi (fun v3 e3 => ?_)
  have i3 : Iv v3 (-1) 1 := iv_lcmp e3
  refine lv_if_ne (tgt := 14) hx hb dX11_has_7 (by decide) (fun c4 => ?_) (fun c4 => ?_)
  · --
    refine lv_iconst (v := 0) hx hb dX11_has_14 (by decide) ?_
    rw [← hQ]
    exact o_rz cx rx hw (iv_nz01 (iv_w (⟨by decide, by decide⟩ : Iv 0 0 0) (by decide))) dX11_has_15 ⟨rfl, (iv_w (⟨by decide, by decide⟩ : Iv 0 0 0) (by decide))⟩
  · --
    have i5 : Iv v3 0 0 := iv_eq1 c4 i3 (⟨by decide, by decide⟩ : Iv 0 0 0) (by decide)
    refine lv_iconst (v := 1) hx hb dX11_has_10 (by decide) ?_
    refine lv_goto (tgt := 15) hx hb dX11_has_11 (by decide) ?_
    rw [← hQ]
    exact o_rz cx rx hw (iv_nz01 (iv_w (⟨by decide, by decide⟩ : Iv 1 1 1) (by decide))) dX11_has_15 ⟨rfl, (iv_w (⟨by decide, by decide⟩ : Iv 1 1 1) (by decide))⟩
abbrev fs_X11_lost : List Nat := [658]
abbrev ts_X11_lost : List Nat := []
set_option maxHeartbeats 4000000 in
set_option maxRecDepth 100000 in
theorem c_X11_lost (a0 : Nat) (ha0 : oA L τ a0 10) : oMet l A L τ cy D K yX11_lost cX11_lost 1 (some .int) 0 0 [.ref a0] σ (va_Qi (fun r σ1 => oFr τ fs_X11_lost ts_X11_lost σ σ1 ∧ Iv r 0 0) (oPo A L τ cy D) A) := by
  refine oMk (by decide) (Nat.le_of_ble_eq_true rfl) rfl ?_
  intro p e s m args below meth c ls cx rx hA hw hl
  generalize hQ : MQ below _ args s 0 0 A = Q
  have hx := cx.1.1
  have hb := cx.1.2.1
  have hml := cx.1.2.2.1
  have hown := cx.1.2.2.2.1
  have hts := cx.1.2.2.2.2
  have hl : lv_has ls 1 [(0, .ref a0)] := hl
  have fr : oFr τ fs_X11_lost ts_X11_lost σ σ := oFr_rf
  refine lv_aload_n hx hb dX11_lost_0 rfl (lv_at hl 0 rfl) ?_
  refine lv_iconst (v := 1) hx hb dX11_lost_1 (by decide) ?_
  refine p_658 cx hw ha0 k_f_X11_89 dX11_lost_2 (fun σ1 H locs eσ1 hw => ?_)
  have fr := oFr_i fr eσ1 (by decide)
  refine lv_iconst (v := 0) hx hb dX11_lost_5 (by decide) ?_
  rw [← hQ]
  exact o_ri cx rx hw dX11_lost_6 ⟨fr, (iv_w (⟨by decide, by decide⟩ : Iv 0 0 0) (by decide))⟩
abbrev fs_X11_tell : List Nat := [657]
abbrev ts_X11_tell : List Nat := [52]
set_option maxHeartbeats 4000000 in
set_option maxRecDepth 100000 in
theorem c_X11_tell (a0 : Nat) (ha0 : oA L τ a0 10) (a1 : Int64) (hf657 : Iv (σ.1 657 a0) 0 19) : oMet l A L τ cy D K yX11_tell cX11_tell 3 none 0 0 [.ref a0, .long a1] σ (va_Qv (fun σ1 => oFr τ fs_X11_tell ts_X11_tell σ σ1 ∧ (σ1.1 657 a0).toInt = (σ.1 657 a0).toInt + 1) (oPo A L τ cy D) A) := by
  refine oMk (by decide) (Nat.le_of_ble_eq_true rfl) rfl ?_
  intro p e s m args below meth c ls cx rx hA hw hl
  generalize hQ : MQ below _ args s 0 0 A = Q
  have hx := cx.1.1
  have hb := cx.1.2.1
  have hml := cx.1.2.2.1
  have hown := cx.1.2.2.2.1
  have hts := cx.1.2.2.2.2
  have hl : lv_has ls 3 [(0, .ref a0), (1, .long a1)] := hl
  have fr : oFr τ fs_X11_tell ts_X11_tell σ σ := oFr_rf
  refine lv_aload_n hx hb dX11_tell_0 rfl (lv_at hl 0 rfl) ?_
  refine g_656 cx hw ha0 k_f_X11_36 dX11_tell_1 (fun v1 e1 h1 => ?_)
  refine lv_aload_n hx hb dX11_tell_4 rfl (lv_at hl 0 rfl) ?_
  refine g_657 cx hw ha0 k_f_X11_92 dX11_tell_5 (fun v2 e2 i2 => ?_)
  rw [show v2 = (σ.1 657 a0) from e2.trans rfl]
  refine lv_lload_n hx hb dX11_tell_8 rfl (lv_at hl 1 rfl) ?_
  refine o_last cx hw h1 (by decide) rfl (iv_in hf657 (by decide)) dX11_tell_9 (fun σ3 H locs eσ3 hw => ?_)
  have fr := oFr_q fr eσ3 h1 (by decide)
  refine lv_aload_n hx hb dX11_tell_10 rfl (lv_at hl 0 rfl) ?_
  refine lv_dup hx hb dX11_tell_11 rfl ?_
  refine g_657 cx hw ha0 k_f_X11_92 dX11_tell_12 (fun v4 e4 i4 => ?_)
  rw [show v4 = (σ.1 657 a0) from e4.trans ((kp_q eσ3).trans rfl)]
  refine lv_iconst (v := 1) hx hb dX11_tell_15 (by decide) ?_
  refine lv_iadd hx hb dX11_tell_16 ?_
  refine lv_topi (fun v5 e5 => ?_)
  have i5 : Iv v5 1 20 := iv_add e5 hf657 (⟨by decide, by decide⟩ : Iv 1 1 1) (by decide)
  have x5 : v5.toInt = (σ.1 657 a0).toInt + 1 := ex_add e5 hf657 (⟨by decide, by decide⟩ : Iv 1 1 1) (by decide)
  refine p_657 cx hw ha0 (iv_w i5 (by decide)) k_f_X11_92 dX11_tell_17 (fun σ6 H locs eσ6 hw => ?_)
  have fr := oFr_i fr eσ6 (by decide)
  rw [← hQ]
  exact o_rv cx rx hw dX11_tell_20 ⟨fr, (fin_eq ((kp_s eσ6)) x5)⟩
set_option maxHeartbeats 4000000 in
set_option maxRecDepth 100000 in
theorem c_X11_isCell (a0 : Nat) (ha0 : oA L τ a0 10) (a1 : Int32) : oMet l A L τ cy D K yX11_isCell cX11_isCell 2 (some .boolean) 1 22 [.ref a0, .int a1] σ (va_Qi (fun r σ1 => σ1 = σ ∧ Iv r 0 1 ∧ (¬ r = 0 → Iv a1 0 63)) (oPo A L τ cy D) A) := by
  refine oMk (by decide) (Nat.le_of_ble_eq_true rfl) rfl ?_
  intro p e s m args below meth c ls cx rx hA hw hl
  generalize hQ : MQ below _ args s 0 0 A = Q
  have hx := cx.1.1
  have hb := cx.1.2.1
  have hml := cx.1.2.2.1
  have hown := cx.1.2.2.2.1
  have hts := cx.1.2.2.2.2
  have hl : lv_has ls 2 [(0, .ref a0), (1, .int a1)] := hl
  refine lv_iload_n hx hb dX11_isCell_0 rfl (lv_at hl 1 rfl) ?_
  refine lv_iconst (v := 0) hx hb dX11_isCell_1 (by decide) ?_
  refine lv_bipush (v := 63) hx hb dX11_isCell_2 (by decide) ?_
  refine o_ci hw (oRunS cx hA hw q_X11_in k_m_X11_95 (As := [.int a1, .int 0, .int 63]) (c_X11_in a1 0 63) (by decide) rfl hl.1 rfl (Nat.le_of_ble_eq_true rfl) dX11_isCell_4 (by decide)) (fun v2 σ1 H locs hp hw => ?_)
  obtain ⟨p2_0, p2_1, p2_2⟩ := hp
  rw [p2_0] at hw
  refine lv_if_eq (tgt := 36) hx hb dX11_isCell_7 (by decide) (fun c3 => ?_) (fun c3 => ?_)
  · --
    have i4 : Iv v2 0 0 := iv_eq1 c3 p2_1 (⟨by decide, by decide⟩ : Iv 0 0 0) (by decide)
    refine lv_iconst (v := 0) hx hb dX11_isCell_36 (by decide) ?_
    rw [← hQ]
    exact o_rz cx rx hw (iv_nz01 (iv_w (⟨by decide, by decide⟩ : Iv 0 0 0) (by decide))) dX11_isCell_37 ⟨rfl, (iv_w (⟨by decide, by decide⟩ : Iv 0 0 0) (by decide)), (fun h => absurd rfl h)⟩
  · --
    have i5 : Iv v2 1 1 := iv_ne1 c3 p2_1 (⟨by decide, by decide⟩ : Iv 0 0 0) (by decide)
    have i6 : Iv a1 0 63 := (fun h => iv_rel (p2_2 h) (⟨by decide, by decide⟩ : Iv 0 0 0) (⟨by decide, by decide⟩ : Iv 63 63 63)) c3
    refine lv_iload_n hx hb dX11_isCell_10 rfl (lv_at hl 1 rfl) ?_
    refine lv_bipush (v := 8) hx hb dX11_isCell_11 (by decide) ?_
    refine lv_irem hx hb dX11_isCell_13 (iv_nz (⟨by decide, by decide⟩ : Iv 8 8 8) (by decide)) ?_
    refine lv_topi (fun v7 e7 => ?_)
    have i7 : Iv v7 0 7 := iv_rem e7 i6 (⟨by decide, by decide⟩ : Iv 8 8 8) (by decide)
    refine lv_aload_n hx hb dX11_isCell_14 rfl (lv_at hl 0 rfl) ?_
    refine g_641 cx hw ha0 k_f_X11_99 dX11_isCell_15 (fun v8 e8 i8 => ?_)
    refine lv_icmp_ge (tgt := 36) hx hb dX11_isCell_18 (by decide) (fun c9 => ?_) (fun c9 => ?_)
    · --
      have i10 : Iv v8 0 7 := iv_le1 c9 i8 i7 (by decide)
      refine lv_iconst (v := 0) hx hb dX11_isCell_36 (by decide) ?_
      rw [← hQ]
      exact o_rz cx rx hw (iv_nz01 (iv_w (⟨by decide, by decide⟩ : Iv 0 0 0) (by decide))) dX11_isCell_37 ⟨rfl, (iv_w (⟨by decide, by decide⟩ : Iv 0 0 0) (by decide)), (fun h => absurd rfl h)⟩
    · --
      have i11 : Iv v8 1 8 := iv_lt2 (iv_nle c9) i7 i8 (by decide)
      refine lv_iload_n hx hb dX11_isCell_21 rfl (lv_at hl 1 rfl) ?_
      refine lv_bipush (v := 8) hx hb dX11_isCell_22 (by decide) ?_
      refine lv_idiv hx hb dX11_isCell_24 (iv_nz (⟨by decide, by decide⟩ : Iv 8 8 8) (by decide)) ?_
      refine lv_topi (fun v12 e12 => ?_)
      have i12 : Iv v12 0 7 := iv_divc e12 i6 (⟨by decide, by decide⟩ : Iv 8 8 8) (by decide)
      refine lv_aload_n hx hb dX11_isCell_25 rfl (lv_at hl 0 rfl) ?_
      refine g_642 cx hw ha0 k_f_X11_102 dX11_isCell_26 (fun v13 e13 i13 => ?_)
      refine lv_icmp_ge (tgt := 36) hx hb dX11_isCell_29 (by decide) (fun c14 => ?_) (fun c14 => ?_)
      · --
        have i15 : Iv v13 0 7 := iv_le1 c14 i13 i12 (by decide)
        refine lv_iconst (v := 0) hx hb dX11_isCell_36 (by decide) ?_
        rw [← hQ]
        exact o_rz cx rx hw (iv_nz01 (iv_w (⟨by decide, by decide⟩ : Iv 0 0 0) (by decide))) dX11_isCell_37 ⟨rfl, (iv_w (⟨by decide, by decide⟩ : Iv 0 0 0) (by decide)), (fun h => absurd rfl h)⟩
      · --
        have i16 : Iv v13 1 8 := iv_lt2 (iv_nle c14) i12 i13 (by decide)
        refine lv_iconst (v := 1) hx hb dX11_isCell_32 (by decide) ?_
        refine lv_goto (tgt := 37) hx hb dX11_isCell_33 (by decide) ?_
        rw [← hQ]
        exact o_rz cx rx hw (iv_nz01 (iv_w (⟨by decide, by decide⟩ : Iv 1 1 1) (by decide))) dX11_isCell_37 ⟨rfl, (iv_w (⟨by decide, by decide⟩ : Iv 1 1 1) (by decide)), (fun _ => iv_w i6 (by decide))⟩
end OM
