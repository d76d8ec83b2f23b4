section OM
variable {l : Launch} {A : Nat → Prop} {L : List Nat} {τ : Nat → Nat} {cy : Nat → ClassId} {D : va_G} {K : (Nat → Nat) × (Nat → Nat)} {σ : oSt}
abbrev fs_X5_write : List Nat := [259]
abbrev ts_X5_write : List Nat := [37]
set_option maxHeartbeats 4000000 in
set_option maxRecDepth 100000 in
theorem c_X5_write (a0 : Nat) (ha0 : oA L τ a0 4) (a1 : Int32) : oMet l A L τ cy D K yX5_write cX5_write 2 none 0 0 [.ref a0, .int a1] σ (va_Qv (fun σ1 => oFr τ fs_X5_write ts_X5_write σ σ1) (oPo A L τ cy D) A) := by
  refine oMk (by decide) (Nat.le_of_ble_eq_true rfl) rfl ?_
  intro p e s m args below meth c ls cx rx hA hw hl
  generalize hQ : MQ below _ args s 0 0 A = Q
  have hx := cx.1.1
  have hb := cx.1.2.1
  have hml := cx.1.2.2.1
  have hown := cx.1.2.2.2.1
  have hts := cx.1.2.2.2.2
  have hl : lv_has ls 2 [(0, .ref a0), (1, .int a1)] := hl
  have fr : oFr τ fs_X5_write ts_X5_write σ σ := oFr_rf
  refine lv_aload_n hx hb dX5_write_0 rfl (lv_at hl 0 rfl) ?_
  refine g_259 cx hw ha0 k_f_X5_30 dX5_write_1 (fun v1 e1 i1 => ?_)
  refine lv_bipush (v := 40) hx hb dX5_write_4 (by decide) ?_
  refine lv_icmp_ge (tgt := 29) hx hb dX5_write_6 (by decide) (fun c2 => ?_) (fun c2 => ?_)
  · --
    have i3 : Iv v1 40 40 := iv_le2 c2 (⟨by decide, by decide⟩ : Iv 40 40 40) i1 (by decide)
    rw [← hQ]
    exact o_rv cx rx hw dX5_write_29 fr
  · --
    have i4 : Iv v1 0 39 := iv_lt1 (iv_nle c2) i1 (⟨by decide, by decide⟩ : Iv 40 40 40) (by decide)
    refine lv_aload_n hx hb dX5_write_9 rfl (lv_at hl 0 rfl) ?_
    refine g_258 cx hw ha0 k_f_X5_15 dX5_write_10 (fun v5 e5 h5 => ?_)
    refine lv_aload_n hx hb dX5_write_13 rfl (lv_at hl 0 rfl) ?_
    refine g_259 cx hw ha0 k_f_X5_30 dX5_write_14 (fun v6 e6 i6 => ?_)
    rw [show v6 = v1 from e6.trans e1.symm]
    refine lv_iload_n hx hb dX5_write_17 rfl (lv_at hl 1 rfl) ?_
    refine o_iast cx hw h5 (by decide) rfl (iv_in i4 (by decide)) trivial dX5_write_18 (fun σ7 H locs eσ7 hw => ?_)
    have fr := oFr_p fr eσ7 h5 (by decide)
    refine lv_aload_n hx hb dX5_write_19 rfl (lv_at hl 0 rfl) ?_
    refine lv_dup hx hb dX5_write_20 rfl ?_
    refine g_259 cx hw ha0 k_f_X5_30 dX5_write_21 (fun v8 e8 i8 => ?_)
    rw [show v8 = v1 from e8.trans ((kp_p eσ7).trans e1.symm)]
    refine lv_iconst (v := 1) hx hb dX5_write_24 (by decide) ?_
    refine lv_iadd hx hb dX5_write_25 ?_
    refine lv_topi (fun v9 e9 => ?_)
    have i9 : Iv v9 1 40 := iv_add e9 i4 (⟨by decide, by decide⟩ : Iv 1 1 1) (by decide)
    have x9 : v9.toInt = v1.toInt + 1 := ex_add e9 i4 (⟨by decide, by decide⟩ : Iv 1 1 1) (by decide)
    refine p_259 cx hw ha0 (iv_w i9 (by decide)) k_f_X5_30 dX5_write_26 (fun σ10 H locs eσ10 hw => ?_)
    have fr := oFr_i fr eσ10 (by decide)
    rw [← hQ]
    exact o_rv cx rx hw dX5_write_29 fr
abbrev fs_X5_release : List Nat := [259, 261]
abbrev ts_X5_release : List Nat := [37]
set_option maxHeartbeats 4000000 in
set_option maxRecDepth 100000 in
theorem c_X5_release (a0 : Nat) (ha0 : oA L τ a0 4) (a1 : Int32) : oMet l A L τ cy D K yX5_release cX5_release 3 none 1 21 [.ref a0, .int a1] σ (va_Qv (fun σ1 => oFr τ fs_X5_release ts_X5_release σ σ1) (oPo A L τ cy D) A) := by
  refine oMk (by decide) (Nat.le_of_ble_eq_true rfl) rfl ?_
  intro p e s m args below meth c ls cx rx hA hw hl
  generalize hQ : MQ below _ args s 0 0 A = Q
  have hx := cx.1.1
  have hb := cx.1.2.1
  have hml := cx.1.2.2.1
  have hown := cx.1.2.2.2.1
  have hts := cx.1.2.2.2.2
  have hl : lv_has ls 3 [(0, .ref a0), (1, .int a1)] := hl
  have fr : oFr τ fs_X5_release ts_X5_release σ σ := oFr_rf
  refine lv_aload_n hx hb dX5_release_0 rfl (lv_at hl 0 rfl) ?_
  refine g_261 cx hw ha0 k_f_X5_34 dX5_release_1 (fun v1 e1 i1 => ?_)
  refine lv_iconst (v := 1) hx hb dX5_release_4 (by decide) ?_
  refine lv_isub hx hb dX5_release_5 ?_
  refine lv_topi (fun v2 e2 => ?_)
  have i2 : Iv v2 (-1) 39 := iv_sub e2 i1 (⟨by decide, by decide⟩ : Iv 1 1 1) (by decide)
  have x2 : v2.toInt = v1.toInt + (-1) := ex_sub e2 i1 (⟨by decide, by decide⟩ : Iv 1 1 1) (by decide)
  refine lv_istore_n (lv' := [(2, .int v2), (0, .ref a0), (1, .int a1)]) hx hb dX5_release_6 rfl hl (by decide) rfl (fun ls hl => ?_)
  have frE_7 := fr
  have J_7 : ∀ n7 : Nat, ∀ (j7_2 : Int32) (ij7_2 : Iv j7_2 (-1) 39), ∀ (σ_7 : oSt) (H : Heap) (locs : List Loc), oI A L τ cy D s.heap σ_7 H locs → oFr τ fs_X5_release ts_X5_release σ σ_7 → (j7_2.toInt - (-1)).toNat < n7 → ∀ (ls : Array Slot), lv_has ls 3 [(0, .ref a0), (1, .int a1), (2, .int j7_2)] → W p l e ({ frames := 1, cells := 0, slots := 0, locals := 21 } : Room) s m args below meth c H locs 0 0 Q (F0 m 7 ls []) := by
    intro n7
    induction n7 with
    | zero => intro j7_2 ij7_2 σ_7 H locs hw fr   hn_7   ls hl; exact absurd hn_7 (Nat.not_lt_zero _)
    | succ n7 ih_7 =>
      intro j7_2 ij7_2 σ_7 H locs hw fr   hn_7   ls hl
      have fr_7 := fr
      refine lv_iload_n hx hb dX5_release_7 rfl (lv_at hl 2 rfl) ?_
      refine lv_if_lt (tgt := 45) hx hb dX5_release_8 (by decide) (fun c3 => ?_) (fun c3 => ?_)
      · --
        have i4 : Iv j7_2 (-1) (-1) := iv_lt1 c3 ij7_2 (⟨by decide, by decide⟩ : Iv 0 0 0) (by decide)
        rw [← hQ]
        exact o_rv cx rx hw dX5_release_45 fr
      · --
        have i5 : Iv j7_2 0 39 := iv_le2 (iv_nlt c3) (⟨by decide, by decide⟩ : Iv 0 0 0) ij7_2 (by decide)
        refine lv_aload_n hx hb dX5_release_11 rfl (lv_at hl 0 rfl) ?_
        refine g_260 cx hw ha0 k_f_X5_18 dX5_release_12 (fun v6 e6 h6 => ?_)
        refine lv_iload_n hx hb dX5_release_15 rfl (lv_at hl 2 rfl) ?_
        refine o_iald cx hw h6 (by decide) rfl (iv_in i5 (by decide)) dX5_release_16 (fun v7 e7 b7 => ?_)
        refine o_ci hw (oRunS cx hA hw q_X5_strengthOf k_m_X5_110 (As := [.int v7]) (c_X5_strengthOf v7) (by decide) rfl hl.1 rfl (Nat.le_of_ble_eq_true rfl) dX5_release_17 (by decide)) (fun v9 σ8 H locs hp hw => ?_)
        obtain ⟨p9_0, p9_1⟩ := hp
        rw [p9_0] at hw
        refine lv_iload_n hx hb dX5_release_20 rfl (lv_at hl 1 rfl) ?_
        refine lv_icmp_lt (tgt := 45) hx hb dX5_release_21 (by decide) (fun c10 => ?_) (fun c10 => ?_)
        · --
          have i11 : Iv a1 1 2147483647 := iv_lt2 c10 p9_1 (iv_top a1) (by decide)
          rw [← hQ]
          exact o_rv cx rx hw dX5_release_45 fr
        · --
          have i12 : Iv a1 (-2147483648) 4 := iv_le1 (iv_nlt c10) (iv_top a1) p9_1 (by decide)
          refine lv_aload_n hx hb dX5_release_24 rfl (lv_at hl 0 rfl) ?_
          refine lv_aload_n hx hb dX5_release_25 rfl (lv_at hl 0 rfl) ?_
          refine g_260 cx hw ha0 k_f_X5_18 dX5_release_26 (fun v13 e13 h13 => ?_)
          rw [show v13 = v6 from Option.some.inj (e13.symm.trans (e6))]
          refine lv_iload_n hx hb dX5_release_29 rfl (lv_at hl 2 rfl) ?_
          refine o_iald cx hw h6 (by decide) rfl (iv_in i5 (by decide)) dX5_release_30 (fun v14 e14 b14 => ?_)
          refine o_cv hw (oRunV cx hA hw q_X5_write k_m_X5_89 rfl ha0 (by decide) (As := [.int v14]) (c_X5_write a0 ha0 v14) (by decide) rfl hl.1 rfl (Nat.le_of_ble_eq_true rfl) dX5_release_31 (by decide)) (fun σ15 H locs hp hw => ?_)
          have p16_0 := hp
          have fr := oFr_tr fr p16_0 (by decide)
          refine lv_aload_n hx hb dX5_release_34 rfl (lv_at hl 0 rfl) ?_
          refine lv_iload_n hx hb dX5_release_35 rfl (lv_at hl 2 rfl) ?_
          refine p_261 cx hw ha0 (iv_w i5 (by decide)) k_f_X5_34 dX5_release_36 (fun σ17 H locs eσ17 hw => ?_)
          have fr := oFr_i fr eσ17 (by decide)
          obtain ⟨v18, e18⟩ : ∃ y : Int32, y = j7_2 + (-1) := ⟨_, rfl⟩
          have i18 : Iv v18 (-1) 38 := iv_add e18 i5 (⟨by decide, by decide⟩ : Iv (-1) (-1) (-1)) (by decide)
          have x18 : v18.toInt = j7_2.toInt + (-1) := ex_add e18 i5 (⟨by decide, by decide⟩ : Iv (-1) (-1) (-1)) (by decide)
          refine lv_iinc (v := v18) (lv' := [(2, .int v18), (0, .ref a0), (1, .int a1)]) hx hb dX5_release_39 hl (k := 2) rfl (by rw [e18]; rfl) (by decide) rfl (fun ls hl => ?_)
          refine lv_goto (tgt := 7) hx hb dX5_release_42 (by decide) ?_
          exact ih_7 v18 (iv_w i18 (by decide)) σ17 _ _ hw fr (ms_dn x18 (by decide) (iv_w (a' := (-1)) (b' := 39) i18 (by decide)).1 hn_7) _ (lv_sub hl [1, 2, 0] rfl)
  exact J_7 _ v2 i2 σ _ _ hw fr (Nat.lt_succ_self _) _ (lv_sub hl [1, 2, 0] rfl)
abbrev fs_X5_hold : List Nat := [261]
abbrev ts_X5_hold : List Nat := [37]
set_option maxHeartbeats 4000000 in
set_option maxRecDepth 100000 in
theorem c_X5_hold (a0 : Nat) (ha0 : oA L τ a0 4) (a1 : Int32) : oMet l A L τ cy D K yX5_hold cX5_hold 2 none 0 0 [.ref a0, .int a1] σ (va_Qv (fun σ1 => oFr τ fs_X5_hold ts_X5_hold σ σ1) (oPo A L τ cy D) A) := by
  refine oMk (by decide) (Nat.le_of_ble_eq_true rfl) rfl ?_
  intro p e s m args below meth c ls cx rx hA hw hl
  generalize hQ : MQ below _ args s 0 0 A = Q
  have hx := cx.1.1
  have hb := cx.1.2.1
  have hml := cx.1.2.2.1
  have hown := cx.1.2.2.2.1
  have hts := cx.1.2.2.2.2
  have hl : lv_has ls 2 [(0, .ref a0), (1, .int a1)] := hl
  have fr : oFr τ fs_X5_hold ts_X5_hold σ σ := oFr_rf
  refine lv_aload_n hx hb dX5_hold_0 rfl (lv_at hl 0 rfl) ?_
  refine g_261 cx hw ha0 k_f_X5_34 dX5_hold_1 (fun v1 e1 i1 => ?_)
  refine lv_bipush (v := 40) hx hb dX5_hold_4 (by decide) ?_
  refine lv_icmp_ge (tgt := 29) hx hb dX5_hold_6 (by decide) (fun c2 => ?_) (fun c2 => ?_)
  · --
    have i3 : Iv v1 40 40 := iv_le2 c2 (⟨by decide, by decide⟩ : Iv 40 40 40) i1 (by decide)
    rw [← hQ]
    exact o_rv cx rx hw dX5_hold_29 fr
  · --
    have i4 : Iv v1 0 39 := iv_lt1 (iv_nle c2) i1 (⟨by decide, by decide⟩ : Iv 40 40 40) (by decide)
    refine lv_aload_n hx hb dX5_hold_9 rfl (lv_at hl 0 rfl) ?_
    refine g_260 cx hw ha0 k_f_X5_18 dX5_hold_10 (fun v5 e5 h5 => ?_)
    refine lv_aload_n hx hb dX5_hold_13 rfl (lv_at hl 0 rfl) ?_
    refine g_261 cx hw ha0 k_f_X5_34 dX5_hold_14 (fun v6 e6 i6 => ?_)
    rw [show v6 = v1 from e6.trans e1.symm]
    refine lv_iload_n hx hb dX5_hold_17 rfl (lv_at hl 1 rfl) ?_
    refine o_iast cx hw h5 (by decide) rfl (iv_in i4 (by decide)) trivial dX5_hold_18 (fun σ7 H locs eσ7 hw => ?_)
    have fr := oFr_p fr eσ7 h5 (by decide)
    refine lv_aload_n hx hb dX5_hold_19 rfl (lv_at hl 0 rfl) ?_
    refine lv_dup hx hb dX5_hold_20 rfl ?_
    refine g_261 cx hw ha0 k_f_X5_34 dX5_hold_21 (fun v8 e8 i8 => ?_)
    rw [show v8 = v1 from e8.trans ((kp_p eσ7).trans e1.symm)]
    refine lv_iconst (v := 1) hx hb dX5_hold_24 (by decide) ?_
    refine lv_iadd hx hb dX5_hold_25 ?_
    refine lv_topi (fun v9 e9 => ?_)
    have i9 : Iv v9 1 40 := iv_add e9 i4 (⟨by decide, by decide⟩ : Iv 1 1 1) (by decide)
    have x9 : v9.toInt = v1.toInt + 1 := ex_add e9 i4 (⟨by decide, by decide⟩ : Iv 1 1 1) (by decide)
    refine p_261 cx hw ha0 (iv_w i9 (by decide)) k_f_X5_34 dX5_hold_26 (fun σ10 H locs eσ10 hw => ?_)
    have fr := oFr_i fr eσ10 (by decide)
    rw [← hQ]
    exact o_rv cx rx hw dX5_hold_29 fr
abbrev fs_X5_readNumber : List Nat := [386]
abbrev ts_X5_readNumber : List Nat := []
set_option maxHeartbeats 4000000 in
set_option maxRecDepth 100000 in
theorem c_X5_readNumber (a0 : Nat) (ha0 : oA L τ a0 6) (a1 : Int32) : oMet l A L τ cy D K yX5_readNumber cX5_readNumber 5 (some .int) 3 66 [.ref a0, .int a1] σ (va_Qi (fun r σ1 => oFr τ fs_X5_readNumber ts_X5_readNumber σ σ1) (oPo A L τ cy D) A) := by
  refine oMk (by decide) (Nat.le_of_ble_eq_true rfl) rfl ?_
  intro p e s m args below meth c ls cx rx hA hw hl
  generalize hQ : MQ below _ args s 0 0 A = Q
  have hx := cx.1.1
  have hb := cx.1.2.1
  have hml := cx.1.2.2.1
  have hown := cx.1.2.2.2.1
  have hts := cx.1.2.2.2.2
  have hl : lv_has ls 5 [(0, .ref a0), (1, .int a1)] := hl
  have fr : oFr τ fs_X5_readNumber ts_X5_readNumber σ σ := oFr_rf
  refine lv_iload_n hx hb dX5_readNumber_0 rfl (lv_at hl 1 rfl) ?_
  refine lv_istore_n (lv' := [(2, .int a1), (0, .ref a0), (1, .int a1)]) hx hb dX5_readNumber_1 rfl hl (by decide) rfl (fun ls hl => ?_)
  refine lv_iconst (v := 1) hx hb dX5_readNumber_2 (by decide) ?_
  refine lv_istore_n (lv' := [(3, .int 1), (2, .int a1), (0, .ref a0), (1, .int a1)]) hx hb dX5_readNumber_3 rfl hl (by decide) rfl (fun ls hl => ?_)
  have frE_4 := fr
  have J_4 : ∀ n4 : Nat, ∀ (j4_2 : Int32) (j4_3 : Int32) (ij4_3 : Iv j4_3 1 3), ∀ (σ_4 : oSt) (H : Heap) (locs : List Loc), oI A L τ cy D s.heap σ_4 H locs → oFr τ fs_X5_readNumber ts_X5_readNumber σ σ_4 → (3 - j4_3.toInt).toNat < n4 → ∀ (ls : Array Slot), lv_has ls 5 [(0, .ref a0), (1, .int a1), (2, .int j4_2), (3, .int j4_3)] → W p l e ({ frames := 3, cells := 0, slots := 0, locals := 66 } : Room) s m args below meth c H locs 0 0 Q (F0 m 4 ls []) := by
    intro n4
    induction n4 with
    | zero => intro j4_2 j4_3 ij4_3 σ_4 H locs hw fr   hn_4   ls hl; exact absurd hn_4 (Nat.not_lt_zero _)
    | succ n4 ih_4 =>
      intro j4_2 j4_3 ij4_3 σ_4 H locs hw fr   hn_4   ls hl
      have fr_4 := fr
      refine lv_iload_n hx hb dX5_readNumber_4 rfl (lv_at hl 3 rfl) ?_
      refine lv_iconst (v := 3) hx hb dX5_readNumber_5 (by decide) ?_
      refine lv_icmp_ge (tgt := 41) hx hb dX5_readNumber_6 (by decide) (fun c1 => ?_) (fun c1 => ?_)
      · --
        have i2 : Iv j4_3 3 3 := iv_le2 c1 (⟨by decide, by decide⟩ : Iv 3 3 3) ij4_3 (by decide)
        refine lv_iload_n hx hb dX5_readNumber_41 rfl (lv_at hl 2 rfl) ?_
        rw [← hQ]
        exact o_ri cx rx hw dX5_readNumber_42 fr
      · --
        have i3 : Iv j4_3 1 2 := iv_lt1 (iv_nle c1) ij4_3 (⟨by decide, by decide⟩ : Iv 3 3 3) (by decide)
        refine lv_aload_n hx hb dX5_readNumber_9 rfl (lv_at hl 0 rfl) ?_
        refine lv_iconst (v := 0) hx hb dX5_readNumber_10 (by decide) ?_
        refine lv_bipush (v := 9) hx hb dX5_readNumber_11 (by decide) ?_
        have i4 : Iv (σ_4.1 385 a0) 0 80 := o_fb (j := 385) hw ha0 rfl
        refine o_ci hw (oRunV cx hA hw q_X7_digit k_m_X5_81 rfl ha0 (by decide) (As := [.int 0, .int 9]) (c_X7_digit a0 ha0 0 (iv_w (⟨by decide, by decide⟩ : Iv 0 0 0) (by decide)) 9) (by decide) rfl hl.1 rfl (Nat.le_of_ble_eq_true rfl) dX5_readNumber_13 (by decide)) (fun v6 σ5 H locs hp hw => ?_)
        obtain ⟨p6_0, p6_1, p6_2⟩ := hp
        have fr := oFr_tr fr p6_0 (by decide)
        refine lv_istore (lv' := [(4, .int v6), (0, .ref a0), (1, .int a1), (2, .int j4_2), (3, .int j4_3)]) hx hb dX5_readNumber_16 hl (by decide) rfl (fun ls hl => ?_)
        refine lv_iload hx hb dX5_readNumber_18 (lv_at hl 0 rfl) ?_
        refine lv_iconst (v := (-1)) hx hb dX5_readNumber_20 (by decide) ?_
        refine lv_icmp_ne (tgt := 27) hx hb dX5_readNumber_21 (by decide) (fun c7 => ?_) (fun c7 => ?_)
        · --
          have i8 : Iv v6 0 65487 := iv_ne1 c7 p6_1 (⟨by decide, by decide⟩ : Iv (-1) (-1) (-1)) (by decide)
          refine lv_iload_n hx hb dX5_readNumber_27 rfl (lv_at hl 3 rfl) ?_
          refine lv_bipush (v := 10) hx hb dX5_readNumber_28 (by decide) ?_
          refine lv_imul hx hb dX5_readNumber_30 ?_
          refine lv_topi (fun v9 e9 => ?_)
          refine lv_iload hx hb dX5_readNumber_31 (lv_at hl 0 rfl) ?_
          refine lv_iadd hx hb dX5_readNumber_33 ?_
          refine lv_topi (fun v10 e10 => ?_)
          refine lv_istore_n (lv' := [(2, .int v10), (4, .int v6), (0, .ref a0), (1, .int a1), (3, .int j4_3)]) hx hb dX5_readNumber_34 rfl hl (by decide) rfl (fun ls hl => ?_)
          obtain ⟨v11, e11⟩ : ∃ y : Int32, y = j4_3 + 1 := ⟨_, rfl⟩
          have i11 : Iv v11 2 3 := iv_add e11 i3 (⟨by decide, by decide⟩ : Iv 1 1 1) (by decide)
          have x11 : v11.toInt = j4_3.toInt + 1 := ex_add e11 i3 (⟨by decide, by decide⟩ : Iv 1 1 1) (by decide)
          refine lv_iinc (v := v11) (lv' := [(3, .int v11), (2, .int v10), (4, .int v6), (0, .ref a0), (1, .int a1)]) hx hb dX5_readNumber_35 hl (k := 4) rfl (by rw [e11]; rfl) (by decide) rfl (fun ls hl => ?_)
          refine lv_goto (tgt := 4) hx hb dX5_readNumber_38 (by decide) ?_
          exact ih_4 v10 v11 (iv_w i11 (by decide)) σ5 _ _ hw fr (ms_up x11 (by decide) (iv_w (a' := 1) (b' := 3) i11 (by decide)).2 hn_4) _ (lv_sub hl [3, 4, 1, 0] rfl)
        · --
          have i12 : Iv v6 (-1) (-1) := iv_eq1 c7 p6_1 (⟨by decide, by decide⟩ : Iv (-1) (-1) (-1)) (by decide)
          refine lv_goto (tgt := 41) hx hb dX5_readNumber_24 (by decide) ?_
          refine lv_iload_n hx hb dX5_readNumber_41 rfl (lv_at hl 3 rfl) ?_
          rw [← hQ]
          exact o_ri cx rx hw dX5_readNumber_42 fr
  exact J_4 _ a1 1 (iv_w (⟨by decide, by decide⟩ : Iv 1 1 1) (by decide)) σ _ _ hw fr (Nat.lt_succ_self _) _ (lv_sub hl [2, 3, 1, 0] rfl)
set_option maxHeartbeats 4000000 in
set_option maxRecDepth 100000 in
theorem c_X5_numberOf (a0 : Int32) : oMet l A L τ cy D K yX5_numberOf cX5_numberOf 1 (some .int) 4 106 [.int a0] σ (va_Qi (fun r σ1 => σ1 = σ ∧ Iv r 0 9) (oPo A L τ cy D) A) := by
  refine oMk (by decide) (Nat.le_of_ble_eq_true rfl) rfl ?_
  intro p e s m args below meth c ls cx rx hA hw hl
  generalize hQ : MQ below _ args s 0 0 A = Q
  have hx := cx.1.1
  have hb := cx.1.2.1
  have hml := cx.1.2.2.1
  have hown := cx.1.2.2.2.1
  have hts := cx.1.2.2.2.2
  have hl : lv_has ls 1 [(0, .int a0)] := hl
  refine va_ldcS hx hb hown cx.2.2.2.1.2.1 dX5_numberOf_0 ?_
  refine lv_iload_n hx hb dX5_numberOf_2 rfl (lv_at hl 0 rfl) ?_
  refine lv_i2c hx hb dX5_numberOf_3 rfl ?_
  refine lv_topi (fun v1 e1 => ?_)
  have i1 : Iv v1 0 65535 := iv_i2c e1
  refine o_ci hw (oRunK cx hA hw q_J0_indexOf_0f7a4 k_m_X5_116 1 (by decide) (As := [.int v1]) (c_J0_indexOf_0f7a4_1 v1) (by decide) rfl hl.1 rfl (Nat.le_of_ble_eq_true rfl) dX5_numberOf_4 (by decide)) (fun v3 σ2 H locs hp hw => ?_)
  obtain ⟨p3_0, p3_1, p3_2⟩ := hp
  rw [p3_0] at hw
  refine lv_iconst (v := 1) hx hb dX5_numberOf_7 (by decide) ?_
  refine lv_iadd hx hb dX5_numberOf_8 ?_
  refine lv_topi (fun v4 e4 => ?_)
  have i4 : Iv v4 0 9 := iv_add e4 p3_1 (⟨by decide, by decide⟩ : Iv 1 1 1) (by decide)
  have x4 : v4.toInt = v3.toInt + 1 := ex_add e4 p3_1 (⟨by decide, by decide⟩ : Iv 1 1 1) (by decide)
  rw [← hQ]
  exact o_ri cx rx hw dX5_numberOf_9 ⟨rfl, (iv_w i4 (by decide))⟩
abbrev fs_X5_readThing : List Nat := [259, 261, 263, 264, 265, 386]
abbrev ts_X5_readThing : List Nat := [37]
set_option maxHeartbeats 4000000 in
set_option maxRecDepth 100000 in
theorem c_X5_readThing (a0 : Nat) (ha0 : oA L τ a0 4) (a1 : Nat) (ha1 : oA L τ a1 6) : oMet l A L τ cy D K yX5_readThing cX5_readThing 4 (some .boolean) 5 128 [.ref a0, .ref a1] σ (va_Qi (fun r σ1 => oFr τ fs_X5_readThing ts_X5_readThing σ σ1 ∧ Iv r 0 1) (oPo A L τ cy D) A) := by
  refine oMk (by decide) (Nat.le_of_ble_eq_true rfl) rfl ?_
  intro p e s m args below meth c ls cx rx hA hw hl
  generalize hQ : MQ below _ args s 0 0 A = Q
  have hx := cx.1.1
  have hb := cx.1.2.1
  have hml := cx.1.2.2.1
  have hown := cx.1.2.2.2.1
  have hts := cx.1.2.2.2.2
  have hl : lv_has ls 4 [(0, .ref a0), (1, .ref a1)] := hl
  have fr : oFr τ fs_X5_readThing ts_X5_readThing σ σ := oFr_rf
  refine lv_aload_n hx hb dX5_readThing_0 rfl (lv_at hl 1 rfl) ?_
  refine lv_bipush (v := 45) hx hb dX5_readThing_1 (by decide) ?_
  have i1 : Iv (σ.1 385 a1) 0 80 := o_fb (j := 385) hw ha1 rfl
  refine o_ci hw (oRunV cx hA hw q_X7_take k_m_X5_74 rfl ha1 (by decide) (As := [.int 45]) (c_X7_take a1 ha1 45 (iv_w (⟨by decide, by decide⟩ : Iv 45 45 45) (by decide))) (by decide) rfl hl.1 rfl (Nat.le_of_ble_eq_true rfl) dX5_readThing_3 (by decide)) (fun v3 σ2 H locs hp hw => ?_)
  obtain ⟨p3_0, p3_1, p3_2⟩ := hp
  have fr := oFr_tr fr p3_0 (by decide)
  refine lv_if_eq (tgt := 18) hx hb dX5_readThing_6 (by decide) (fun c4 => ?_) (fun c4 => ?_)
  · --
    have i5 : Iv v3 0 0 := iv_eq1 c4 p3_1 (⟨by decide, by decide⟩ : Iv 0 0 0) (by decide)
    refine lv_aload_n hx hb dX5_readThing_18 rfl (lv_at hl 0 rfl) ?_
    refine g_263 cx hw ha0 k_f_X5_37 dX5_readThing_19 (fun v6 e6 => ?_)
    refine lv_iconst (v := 4) hx hb dX5_readThing_22 (by decide) ?_
    have frE_70 := fr
    have J_70 : ∀ (σ_70 : oSt) (H : Heap) (locs : List Loc), oI A L τ cy D s.heap σ_70 H locs → oFr τ fs_X5_readThing ts_X5_readThing σ σ_70 → Iv (σ_70.1 386 a1) (-2147483648) 2147483647 → ∀ (ls : Array Slot), lv_has ls 4 [(0, .ref a0), (1, .ref a1)] → W p l e ({ frames := 5, cells := 0, slots := 0, locals := 128 } : Room) s m args below meth c H locs 0 0 Q (F0 m 70 ls []) := by
      intro  σ_70 H locs hw fr f70_386_a1     ls hl
      have fr_70 := fr
      refine lv_aload_n hx hb dX5_readThing_70 rfl (lv_at hl 1 rfl) ?_
      refine lv_iconst (v := 0) hx hb dX5_readThing_71 (by decide) ?_
      refine lv_bipush (v := 9) hx hb dX5_readThing_72 (by decide) ?_
      have z7 : (σ_70.1 385 a1).toInt = ((σ.1 385 a1) : Int32).toInt := congrArg Int32.toInt (show σ_70.1 385 a1 = (σ.1 385 a1) from ((kp_c fr_70 (by decide)).trans ((kp_c frE_70 (by decide)).symm.trans (((kp_c p3_0 (by decide)).trans rfl)))))
      have z8 : (σ_70.1 387 a1).toInt = ((σ.1 387 a1) : Int32).toInt := congrArg Int32.toInt (show σ_70.1 387 a1 = (σ.1 387 a1) from ((kp_c fr_70 (by decide)).trans ((kp_c frE_70 (by decide)).symm.trans (((kp_c p3_0 (by decide)).trans rfl)))))
      refine o_ci hw (oRunV cx hA hw q_X7_digit k_m_X5_81 rfl ha1 (by decide) (As := [.int 0, .int 9]) (c_X7_digit a1 ha1 0 (iv_w (⟨by decide, by decide⟩ : Iv 0 0 0) (by decide)) 9) (by decide) rfl hl.1 rfl (Nat.le_of_ble_eq_true rfl) dX5_readThing_74 (by decide)) (fun v10 σ9 H locs hp hw => ?_)
      obtain ⟨p10_0, p10_1, p10_2⟩ := hp
      have fr := oFr_tr fr p10_0 (by decide)
      refine lv_istore_n (lv' := [(2, .int v10), (0, .ref a0), (1, .ref a1)]) hx hb dX5_readThing_77 rfl hl (by decide) rfl (fun ls hl => ?_)
      refine lv_iload_n hx hb dX5_readThing_78 rfl (lv_at hl 0 rfl) ?_
      refine lv_iconst (v := (-1)) hx hb dX5_readThing_79 (by decide) ?_
      have frE_118 := fr
      have J_118 : ∀ (σ_118 : oSt) (H : Heap) (locs : List Loc), oI A L τ cy D s.heap σ_118 H locs → oFr τ fs_X5_readThing ts_X5_readThing σ σ_118 → ∀ (ls : Array Slot), lv_has ls 4 [(0, .ref a0), (1, .ref a1), (2, .int v10)] → W p l e ({ frames := 5, cells := 0, slots := 0, locals := 128 } : Room) s m args below meth c H locs 0 0 Q (F0 m 118 ls []) := by
        intro  σ_118 H locs hw fr      ls hl
        have fr_118 := fr
        refine lv_aload_n hx hb dX5_readThing_118 rfl (lv_at hl 0 rfl) ?_
        refine lv_iconst (v := 0) hx hb dX5_readThing_119 (by decide) ?_
        refine p_265 cx hw ha0 (iv_w (⟨by decide, by decide⟩ : Iv 0 0 0) (by decide)) k_f_X5_43 dX5_readThing_120 (fun σ11 H locs eσ11 hw => ?_)
        have fr := oFr_i fr eσ11 (by decide)
        refine lv_iconst (v := 1) hx hb dX5_readThing_123 (by decide) ?_
        rw [← hQ]
        exact o_rz cx rx hw (iv_nz01 (iv_w (⟨by decide, by decide⟩ : Iv 1 1 1) (by decide))) dX5_readThing_124 ⟨fr, (iv_w (⟨by decide, by decide⟩ : Iv 1 1 1) (by decide))⟩
      refine lv_icmp_eq (tgt := 96) hx hb dX5_readThing_80 (by decide) (fun c12 => ?_) (fun c12 => ?_)
      · --
        have i13 : Iv v10 (-1) (-1) := iv_eq1 c12 p10_1 (⟨by decide, by decide⟩ : Iv (-1) (-1) (-1)) (by decide)
        refine lv_aload_n hx hb dX5_readThing_96 rfl (lv_at hl 2 rfl) ?_
        refine va_ldcS hx hb hown cx.2.2.2.1.2.1 dX5_readThing_97 ?_
        have z14 : (σ9.1 385 a1).toInt = ((σ.1 385 a1) : Int32).toInt := congrArg Int32.toInt (show σ9.1 385 a1 = (σ.1 385 a1) from ((kp_c p10_0 (by decide)).trans ((kp_c fr_70 (by decide)).trans ((kp_c frE_70 (by decide)).symm.trans (((kp_c p3_0 (by decide)).trans rfl))))))
        have z15 : (σ9.1 387 a1).toInt = ((σ.1 387 a1) : Int32).toInt := congrArg Int32.toInt (show σ9.1 387 a1 = (σ.1 387 a1) from ((kp_c p10_0 (by decide)).trans ((kp_c fr_70 (by decide)).trans ((kp_c frE_70 (by decide)).symm.trans (((kp_c p3_0 (by decide)).trans rfl))))))
        refine o_ci hw (oRunV cx hA hw q_X7_takeOneOf k_m_X5_94 rfl ha1 (by decide) (As := [.ref (K.1 1)]) (c_X7_takeOneOf_1 a1 ha1) (by decide) rfl hl.1 rfl (Nat.le_of_ble_eq_true rfl) dX5_readThing_99 (by decide)) (fun v17 σ16 H locs hp hw => ?_)
        obtain ⟨p17_0, p17_1, p17_2⟩ := hp
        have fr := oFr_tr fr p17_0 (by decide)
        refine lv_istore_n (lv' := [(3, .int v17), (2, .int v10), (0, .ref a0), (1, .ref a1)]) hx hb dX5_readThing_102 rfl hl (by decide) rfl (fun ls hl => ?_)
        refine lv_iload_n hx hb dX5_readThing_103 rfl (lv_at hl 0 rfl) ?_
        refine lv_iconst (v := (-1)) hx hb dX5_readThing_104 (by decide) ?_
        refine lv_icmp_ne (tgt := 110) hx hb dX5_readThing_105 (by decide) (fun c18 => ?_) (fun c18 => ?_)
        · --
          have i19 : Iv v17 0 65535 := iv_ne1 c18 p17_1 (⟨by decide, by decide⟩ : Iv (-1) (-1) (-1)) (by decide)
          refine lv_aload_n hx hb dX5_readThing_110 rfl (lv_at hl 2 rfl) ?_
          refine lv_iload_n hx hb dX5_readThing_111 rfl (lv_at hl 0 rfl) ?_
          refine o_ci hw (oRunS cx hA hw q_X5_numberOf k_m_X5_98 (As := [.int v17]) (c_X5_numberOf v17) (by decide) rfl hl.1 rfl (Nat.le_of_ble_eq_true rfl) dX5_readThing_112 (by decide)) (fun v21 σ20 H locs hp hw => ?_)
          obtain ⟨p21_0, p21_1⟩ := hp
          rw [p21_0] at hw
          refine o_cv hw (oRunV cx hA hw q_X5_write k_m_X5_89 rfl ha0 (by decide) (As := [.int v21]) (c_X5_write a0 ha0 v21) (by decide) rfl hl.1 rfl (Nat.le_of_ble_eq_true rfl) dX5_readThing_115 (by decide)) (fun σ22 H locs hp hw => ?_)
          have p23_0 := hp
          have fr := oFr_tr fr p23_0 (by decide)
          exact J_118 σ22 _ _ hw fr _ (lv_sub hl [2, 3, 1] rfl)
        · --
          have i24 : Iv v17 (-1) (-1) := iv_eq1 c18 p17_1 (⟨by decide, by decide⟩ : Iv (-1) (-1) (-1)) (by decide)
          refine lv_iconst (v := 0) hx hb dX5_readThing_108 (by decide) ?_
          rw [← hQ]
          exact o_rz cx rx hw (iv_nz01 (iv_w (⟨by decide, by decide⟩ : Iv 0 0 0) (by decide))) dX5_readThing_109 ⟨fr, (iv_w (⟨by decide, by decide⟩ : Iv 0 0 0) (by decide))⟩
      · --
        have i25 : Iv v10 0 65487 := iv_ne1 c12 p10_1 (⟨by decide, by decide⟩ : Iv (-1) (-1) (-1)) (by decide)
        refine lv_aload_n hx hb dX5_readThing_83 rfl (lv_at hl 1 rfl) ?_
        refine lv_aload_n hx hb dX5_readThing_84 rfl (lv_at hl 2 rfl) ?_
        refine lv_iload_n hx hb dX5_readThing_85 rfl (lv_at hl 0 rfl) ?_
        refine o_ci hw (oRunS cx hA hw q_X5_readNumber k_m_X5_85 (As := [.ref a1, .int v10]) (c_X5_readNumber a1 ha1 v10) (by decide) rfl hl.1 rfl (Nat.le_of_ble_eq_true rfl) dX5_readThing_86 (by decide)) (fun v27 σ26 H locs hp hw => ?_)
        have p27_0 := hp
        have fr := oFr_tr fr p27_0 (by decide)
        refine lv_ineg hx hb dX5_readThing_89 ?_
        refine lv_topi (fun v28 e28 => ?_)
        refine o_cv hw (oRunV cx hA hw q_X5_write k_m_X5_89 rfl ha0 (by decide) (As := [.int v28]) (c_X5_write a0 ha0 v28) (by decide) rfl hl.1 rfl (Nat.le_of_ble_eq_true rfl) dX5_readThing_90 (by decide)) (fun σ29 H locs hp hw => ?_)
        have p30_0 := hp
        have fr := oFr_tr fr p30_0 (by decide)
        refine lv_goto (tgt := 118) hx hb dX5_readThing_93 (by decide) ?_
        exact J_118 σ29 _ _ hw fr _ (lv_sub hl [1, 2, 0] rfl)
    refine lv_icmp_ge (tgt := 70) hx hb dX5_readThing_23 (by decide) (fun c31 => ?_) (fun c31 => ?_)
    · --
      have i32 : Iv v6 4 2147483647 := iv_le2 c31 (⟨by decide, by decide⟩ : Iv 4 4 4) (iv_top v6) (by decide)
      exact J_70 σ2 _ _ hw fr (kn_iv (rfl) (iv_w (iv_top (σ2.1 386 a1)) (by decide))) _ (lv_sub hl [0, 1] rfl)
    · --
      have i33 : Iv v6 (-2147483648) 3 := iv_lt1 (iv_nle c31) (iv_top v6) (⟨by decide, by decide⟩ : Iv 4 4 4) (by decide)
      refine lv_aload_n hx hb dX5_readThing_26 rfl (lv_at hl 1 rfl) ?_
      refine lv_bipush (v := 40) hx hb dX5_readThing_27 (by decide) ?_
      have z34 : (σ2.1 385 a1).toInt = ((σ.1 385 a1) : Int32).toInt := congrArg Int32.toInt (show σ2.1 385 a1 = (σ.1 385 a1) from ((kp_c p3_0 (by decide)).trans rfl))
      have z35 : (σ2.1 387 a1).toInt = ((σ.1 387 a1) : Int32).toInt := congrArg Int32.toInt (show σ2.1 387 a1 = (σ.1 387 a1) from ((kp_c p3_0 (by decide)).trans rfl))
      refine o_ci hw (oRunV cx hA hw q_X7_take k_m_X5_74 rfl ha1 (by decide) (As := [.int 40]) (c_X7_take a1 ha1 40 (iv_w (⟨by decide, by decide⟩ : Iv 40 40 40) (by decide))) (by decide) rfl hl.1 rfl (Nat.le_of_ble_eq_true rfl) dX5_readThing_29 (by decide)) (fun v37 σ36 H locs hp hw => ?_)
      obtain ⟨p37_0, p37_1, p37_2⟩ := hp
      have fr := oFr_tr fr p37_0 (by decide)
      refine lv_if_eq (tgt := 70) hx hb dX5_readThing_32 (by decide) (fun c38 => ?_) (fun c38 => ?_)
      · --
        have i39 : Iv v37 0 0 := iv_eq1 c38 p37_1 (⟨by decide, by decide⟩ : Iv 0 0 0) (by decide)
        exact J_70 σ36 _ _ hw fr (kn_iv (rfl) (iv_w (iv_top (σ36.1 386 a1)) (by decide))) _ (lv_sub hl [0, 1] rfl)
      · --
        have i40 : Iv v37 1 1 := iv_ne1 c38 p37_1 (⟨by decide, by decide⟩ : Iv 0 0 0) (by decide)
        refine lv_aload_n hx hb dX5_readThing_35 rfl (lv_at hl 0 rfl) ?_
        refine lv_bipush (v := 40) hx hb dX5_readThing_36 (by decide) ?_
        refine o_cv hw (oRunV cx hA hw q_X5_hold k_m_X5_78 rfl ha0 (by decide) (As := [.int 40]) (c_X5_hold a0 ha0 40) (by decide) rfl hl.1 rfl (Nat.le_of_ble_eq_true rfl) dX5_readThing_38 (by decide)) (fun σ41 H locs hp hw => ?_)
        have p42_0 := hp
        have fr := oFr_tr fr p42_0 (by decide)
        refine lv_aload_n hx hb dX5_readThing_41 rfl (lv_at hl 0 rfl) ?_
        refine lv_dup hx hb dX5_readThing_42 rfl ?_
        refine g_263 cx hw ha0 k_f_X5_37 dX5_readThing_43 (fun v43 e43 => ?_)
        rw [show v43 = v6 from e43.trans ((kp_c p42_0 (by decide)).trans ((kp_c p37_0 (by decide)).trans e6.symm))]
        refine lv_iconst (v := 1) hx hb dX5_readThing_46 (by decide) ?_
        refine lv_iadd hx hb dX5_readThing_47 ?_
        refine lv_topi (fun v44 e44 => ?_)
        have i44 : Iv v44 (-2147483647) 4 := iv_add e44 i33 (⟨by decide, by decide⟩ : Iv 1 1 1) (by decide)
        have x44 : v44.toInt = v6.toInt + 1 := ex_add e44 i33 (⟨by decide, by decide⟩ : Iv 1 1 1) (by decide)
        refine p_263 cx hw ha0 k_f_X5_37 dX5_readThing_48 (fun σ45 H locs eσ45 hw => ?_)
        have fr := oFr_i fr eσ45 (by decide)
        refine lv_aload_n hx hb dX5_readThing_51 rfl (lv_at hl 0 rfl) ?_
        refine lv_dup hx hb dX5_readThing_52 rfl ?_
        refine g_264 cx hw ha0 k_f_X5_40 dX5_readThing_53 (fun v46 e46 => ?_)
        refine lv_iconst (v := 1) hx hb dX5_readThing_56 (by decide) ?_
        refine lv_aload_n hx hb dX5_readThing_57 rfl (lv_at hl 0 rfl) ?_
        refine g_263 cx hw ha0 k_f_X5_37 dX5_readThing_58 (fun v47 e47 => ?_)
        rw [show v47 = v44 from e47.trans (kp_s eσ45)]
        refine lv_ishl hx hb dX5_readThing_61 ?_
        refine lv_topi (fun v48 e48 => ?_)
        refine lv_iconst (v := (-1)) hx hb dX5_readThing_62 (by decide) ?_
        refine lv_ixor hx hb dX5_readThing_63 ?_
        refine lv_topi (fun v49 e49 => ?_)
        refine lv_iand hx hb dX5_readThing_64 ?_
        refine lv_topi (fun v50 e50 => ?_)
        refine p_264 cx hw ha0 k_f_X5_40 dX5_readThing_65 (fun σ51 H locs eσ51 hw => ?_)
        have fr := oFr_i fr eσ51 (by decide)
        refine lv_iconst (v := 1) hx hb dX5_readThing_68 (by decide) ?_
        rw [← hQ]
        exact o_rz cx rx hw (iv_nz01 (iv_w (⟨by decide, by decide⟩ : Iv 1 1 1) (by decide))) dX5_readThing_69 ⟨fr, (iv_w (⟨by decide, by decide⟩ : Iv 1 1 1) (by decide))⟩
  · --
    have i52 : Iv v3 1 1 := iv_ne1 c4 p3_1 (⟨by decide, by decide⟩ : Iv 0 0 0) (by decide)
    refine lv_aload_n hx hb dX5_readThing_9 rfl (lv_at hl 0 rfl) ?_
    refine lv_sipush (v := 256) hx hb dX5_readThing_10 (by decide) ?_
    refine o_cv hw (oRunV cx hA hw q_X5_hold k_m_X5_78 rfl ha0 (by decide) (As := [.int 256]) (c_X5_hold a0 ha0 256) (by decide) rfl hl.1 rfl (Nat.le_of_ble_eq_true rfl) dX5_readThing_13 (by decide)) (fun σ53 H locs hp hw => ?_)
    have p54_0 := hp
    have fr := oFr_tr fr p54_0 (by decide)
    refine lv_iconst (v := 1) hx hb dX5_readThing_16 (by decide) ?_
    rw [← hQ]
    exact o_rz cx rx hw (iv_nz01 (iv_w (⟨by decide, by decide⟩ : Iv 1 1 1) (by decide))) dX5_readThing_17 ⟨fr, (iv_w (⟨by decide, by decide⟩ : Iv 1 1 1) (by decide))⟩
abbrev fs_X5_readBinding : List Nat := [259, 261, 263, 264, 265, 386]
abbrev ts_X5_readBinding : List Nat := [37]
set_option maxHeartbeats 4000000 in
set_option maxRecDepth 100000 in
theorem c_X5_readBinding (a0 : Nat) (ha0 : oA L τ a0 4) (a1 : Nat) (ha1 : oA L τ a1 6) : oMet l A L τ cy D K yX5_readBinding cX5_readBinding 4 (some .boolean) 2 43 [.ref a0, .ref a1] σ (va_Qi (fun r σ1 => oFr τ fs_X5_readBinding ts_X5_readBinding σ σ1 ∧ Iv r 0 1) (oPo A L τ cy D) A) := by
  refine oMk (by decide) (Nat.le_of_ble_eq_true rfl) rfl ?_
  intro p e s m args below meth c ls cx rx hA hw hl
  generalize hQ : MQ below _ args s 0 0 A = Q
  have hx := cx.1.1
  have hb := cx.1.2.1
  have hml := cx.1.2.2.1
  have hown := cx.1.2.2.2.1
  have hts := cx.1.2.2.2.2
  have hl : lv_has ls 4 [(0, .ref a0), (1, .ref a1)] := hl
  have fr : oFr τ fs_X5_readBinding ts_X5_readBinding σ σ := oFr_rf
  refine lv_aload_n hx hb dX5_readBinding_0 rfl (lv_at hl 0 rfl) ?_
  refine g_263 cx hw ha0 k_f_X5_37 dX5_readBinding_1 (fun v1 e1 => ?_)
  have frE_47 := fr
  have J_47 : ∀ (σ_47 : oSt) (H : Heap) (locs : List Loc), oI A L τ cy D s.heap σ_47 H locs → oFr τ fs_X5_readBinding ts_X5_readBinding σ σ_47 → ∀ (ls : Array Slot), lv_has ls 4 [(0, .ref a0), (1, .ref a1)] → W p l e ({ frames := 2, cells := 0, slots := 0, locals := 43 } : Room) s m args below meth c H locs 0 0 Q (F0 m 47 ls []) := by
    intro  σ_47 H locs hw fr      ls hl
    have fr_47 := fr
    refine lv_aload_n hx hb dX5_readBinding_47 rfl (lv_at hl 1 rfl) ?_
    have i2 : Iv (σ_47.1 385 a1) 0 80 := o_fb (j := 385) hw ha1 rfl
    refine o_ci hw (oRunV cx hA hw q_X7_here k_m_X5_107 rfl ha1 (by decide) (As := []) (c_X7_here a1 ha1) (by decide) rfl hl.1 rfl (Nat.le_of_ble_eq_true rfl) dX5_readBinding_48 (by decide)) (fun v4 σ3 H locs hp hw => ?_)
    obtain ⟨p4_0, p4_1, p4_2⟩ := hp
    rw [p4_0] at hw
    refine lv_istore_n (lv' := [(2, .int v4), (0, .ref a0), (1, .ref a1)]) hx hb dX5_readBinding_51 rfl hl (by decide) rfl (fun ls hl => ?_)
    refine lv_iload_n hx hb dX5_readBinding_52 rfl (lv_at hl 0 rfl) ?_
    refine o_ci hw (oRunS cx hA hw q_X5_strengthOf k_m_X5_110 (As := [.int v4]) (c_X5_strengthOf v4) (by decide) rfl hl.1 rfl (Nat.le_of_ble_eq_true rfl) dX5_readBinding_53 (by decide)) (fun v6 σ5 H locs hp hw => ?_)
    obtain ⟨p6_0, p6_1⟩ := hp
    rw [p6_0] at hw
    refine lv_istore_n (lv' := [(3, .int v6), (2, .int v4), (0, .ref a0), (1, .ref a1)]) hx hb dX5_readBinding_56 rfl hl (by decide) rfl (fun ls hl => ?_)
    refine lv_iload_n hx hb dX5_readBinding_57 rfl (lv_at hl 0 rfl) ?_
    refine lv_if_eq (tgt := 80) hx hb dX5_readBinding_58 (by decide) (fun c7 => ?_) (fun c7 => ?_)
    · --
      have i8 : Iv v6 0 0 := iv_eq1 c7 p6_1 (⟨by decide, by decide⟩ : Iv 0 0 0) (by decide)
      refine lv_iconst (v := 0) hx hb dX5_readBinding_80 (by decide) ?_
      rw [← hQ]
      exact o_rz cx rx hw (iv_nz01 (iv_w (⟨by decide, by decide⟩ : Iv 0 0 0) (by decide))) dX5_readBinding_81 ⟨fr, (iv_w (⟨by decide, by decide⟩ : Iv 0 0 0) (by decide))⟩
    · --
      have i9 : Iv v6 1 4 := iv_ne1 c7 p6_1 (⟨by decide, by decide⟩ : Iv 0 0 0) (by decide)
      refine lv_iload_n hx hb dX5_readBinding_61 rfl (lv_at hl 0 rfl) ?_
      refine lv_iconst (v := 1) hx hb dX5_readBinding_62 (by decide) ?_
      have J_82 : ∀ (H : Heap) (locs : List Loc), oI A L τ cy D s.heap σ_47 H locs → ∀ (ls : Array Slot), lv_has ls 4 [(0, .ref a0), (1, .ref a1), (2, .int v4), (3, .int v6)] → W p l e ({ frames := 2, cells := 0, slots := 0, locals := 43 } : Room) s m args below meth c H locs 0 0 Q (F0 m 82 ls []) := by
        intro  H locs hw     ls hl
        refine lv_iload_n hx hb dX5_readBinding_82 rfl (lv_at hl 3 rfl) ?_
        refine lv_iconst (v := 1) hx hb dX5_readBinding_83 (by decide) ?_
        have frE_102 := fr
        have J_102 : ∀ (σ_102 : oSt) (H : Heap) (locs : List Loc), oI A L τ cy D s.heap σ_102 H locs → oFr τ fs_X5_readBinding ts_X5_readBinding σ σ_102 → Iv (σ_102.1 386 a1) (-2147483648) 2147483647 → ∀ (ls : Array Slot), lv_has ls 4 [(0, .ref a0), (1, .ref a1), (2, .int v4), (3, .int v6)] → W p l e ({ frames := 2, cells := 0, slots := 0, locals := 43 } : Room) s m args below meth c H locs 0 0 Q (F0 m 102 ls []) := by
          intro  σ_102 H locs hw fr f102_386_a1     ls hl
          have fr_102 := fr
          refine lv_aload_n hx hb dX5_readBinding_102 rfl (lv_at hl 1 rfl) ?_
          refine o_cv hw (oRunV cx hA hw q_X7_step k_m_X5_113 rfl ha1 (by decide) (As := []) (c_X7_step a1 ha1) (by decide) rfl hl.1 rfl (Nat.le_of_ble_eq_true rfl) dX5_readBinding_103 (by decide)) (fun σ10 H locs hp hw => ?_)
          have p11_0 := hp
          have fr := oFr_tr fr p11_0 (by decide)
          refine lv_aload_n hx hb dX5_readBinding_106 rfl (lv_at hl 0 rfl) ?_
          refine lv_iload_n hx hb dX5_readBinding_107 rfl (lv_at hl 3 rfl) ?_
          refine o_cv hw (oRunV cx hA hw q_X5_release k_m_X5_51 rfl ha0 (by decide) (As := [.int v6]) (c_X5_release a0 ha0 v6) (by decide) rfl hl.1 rfl (Nat.le_of_ble_eq_true rfl) dX5_readBinding_108 (by decide)) (fun σ12 H locs hp hw => ?_)
          have p13_0 := hp
          have fr := oFr_tr fr p13_0 (by decide)
          refine lv_aload_n hx hb dX5_readBinding_111 rfl (lv_at hl 0 rfl) ?_
          refine lv_iload_n hx hb dX5_readBinding_112 rfl (lv_at hl 2 rfl) ?_
          refine o_cv hw (oRunV cx hA hw q_X5_hold k_m_X5_78 rfl ha0 (by decide) (As := [.int v4]) (c_X5_hold a0 ha0 v4) (by decide) rfl hl.1 rfl (Nat.le_of_ble_eq_true rfl) dX5_readBinding_113 (by decide)) (fun σ14 H locs hp hw => ?_)
          have p15_0 := hp
          have fr := oFr_tr fr p15_0 (by decide)
          refine lv_aload_n hx hb dX5_readBinding_116 rfl (lv_at hl 0 rfl) ?_
          refine lv_iconst (v := 1) hx hb dX5_readBinding_117 (by decide) ?_
          refine p_265 cx hw ha0 (iv_w (⟨by decide, by decide⟩ : Iv 1 1 1) (by decide)) k_f_X5_43 dX5_readBinding_118 (fun σ16 H locs eσ16 hw => ?_)
          have fr := oFr_i fr eσ16 (by decide)
          refine lv_iconst (v := 1) hx hb dX5_readBinding_121 (by decide) ?_
          rw [← hQ]
          exact o_rz cx rx hw (iv_nz01 (iv_w (⟨by decide, by decide⟩ : Iv 1 1 1) (by decide))) dX5_readBinding_122 ⟨fr, (iv_w (⟨by decide, by decide⟩ : Iv 1 1 1) (by decide))⟩
        refine lv_icmp_ne (tgt := 102) hx hb dX5_readBinding_84 (by decide) (fun c17 => ?_) (fun c17 => ?_)
        · --
          have i18 : Iv v6 2 4 := iv_ne1 c17 i9 (⟨by decide, by decide⟩ : Iv 1 1 1) (by decide)
          exact J_102 σ_47 _ _ hw fr (kn_iv (rfl) (iv_w (iv_top (σ_47.1 386 a1)) (by decide))) _ (lv_sub hl [0, 1, 2, 3] rfl)
        · --
          have i19 : Iv v6 1 1 := iv_eq1 c17 i9 (⟨by decide, by decide⟩ : Iv 1 1 1) (by decide)
          refine lv_aload_n hx hb dX5_readBinding_87 rfl (lv_at hl 0 rfl) ?_
          refine lv_dup hx hb dX5_readBinding_88 rfl ?_
          refine g_264 cx hw ha0 k_f_X5_40 dX5_readBinding_89 (fun v20 e20 => ?_)
          refine lv_iconst (v := 1) hx hb dX5_readBinding_92 (by decide) ?_
          refine lv_aload_n hx hb dX5_readBinding_93 rfl (lv_at hl 0 rfl) ?_
          refine g_263 cx hw ha0 k_f_X5_37 dX5_readBinding_94 (fun v21 e21 => ?_)
          refine lv_ishl hx hb dX5_readBinding_97 ?_
          refine lv_topi (fun v22 e22 => ?_)
          refine lv_ior hx hb dX5_readBinding_98 ?_
          refine lv_topi (fun v23 e23 => ?_)
          refine p_264 cx hw ha0 k_f_X5_40 dX5_readBinding_99 (fun σ24 H locs eσ24 hw => ?_)
          have fr := oFr_i fr eσ24 (by decide)
          exact J_102 σ24 _ _ hw fr (kn_iv (((kp_i eσ24 (by decide)).trans rfl)) (iv_w (iv_top (σ_47.1 386 a1)) (by decide))) _ (lv_sub hl [0, 1, 2, 3] rfl)
      refine lv_icmp_ne (tgt := 82) hx hb dX5_readBinding_63 (by decide) (fun c25 => ?_) (fun c25 => ?_)
      · --
        have i26 : Iv v6 2 4 := iv_ne1 c25 i9 (⟨by decide, by decide⟩ : Iv 1 1 1) (by decide)
        exact J_82 _ _ hw _ (lv_sub hl [2, 3, 1, 0] rfl)
      · --
        have i27 : Iv v6 1 1 := iv_eq1 c25 i9 (⟨by decide, by decide⟩ : Iv 1 1 1) (by decide)
        refine lv_aload_n hx hb dX5_readBinding_66 rfl (lv_at hl 2 rfl) ?_
        refine g_264 cx hw ha0 k_f_X5_40 dX5_readBinding_67 (fun v28 e28 => ?_)
        refine lv_aload_n hx hb dX5_readBinding_70 rfl (lv_at hl 2 rfl) ?_
        refine g_263 cx hw ha0 k_f_X5_37 dX5_readBinding_71 (fun v29 e29 => ?_)
        refine lv_ishr hx hb dX5_readBinding_74 ?_
        refine lv_topi (fun v30 e30 => ?_)
        refine lv_iconst (v := 1) hx hb dX5_readBinding_75 (by decide) ?_
        refine lv_iand hx hb dX5_readBinding_76 ?_
        refine lv_topi (fun v31 e31 => ?_)
        have i31 : Iv v31 0 1 := iv_and e31 (⟨by decide, by decide⟩ : Iv 1 1 1) (by decide)
        refine lv_if_eq (tgt := 82) hx hb dX5_readBinding_77 (by decide) (fun c32 => ?_) (fun c32 => ?_)
        · --
          have i33 : Iv v31 0 0 := iv_eq1 c32 i31 (⟨by decide, by decide⟩ : Iv 0 0 0) (by decide)
          exact J_82 _ _ hw _ (lv_sub hl [2, 3, 1, 0] rfl)
        · --
          have i34 : Iv v31 1 1 := iv_ne1 c32 i31 (⟨by decide, by decide⟩ : Iv 0 0 0) (by decide)
          refine lv_iconst (v := 0) hx hb dX5_readBinding_80 (by decide) ?_
          rw [← hQ]
          exact o_rz cx rx hw (iv_nz01 (iv_w (⟨by decide, by decide⟩ : Iv 0 0 0) (by decide))) dX5_readBinding_81 ⟨fr, (iv_w (⟨by decide, by decide⟩ : Iv 0 0 0) (by decide))⟩
  refine lv_if_le (tgt := 47) hx hb dX5_readBinding_4 (by decide) (fun c35 => ?_) (fun c35 => ?_)
  · --
    have i36 : Iv v1 (-2147483648) 0 := iv_le1 c35 (iv_top v1) (⟨by decide, by decide⟩ : Iv 0 0 0) (by decide)
    exact J_47 σ _ _ hw fr _ (lv_sub hl [0, 1] rfl)
  · --
    have i37 : Iv v1 1 2147483647 := iv_lt2 (iv_nle c35) (⟨by decide, by decide⟩ : Iv 0 0 0) (iv_top v1) (by decide)
    refine lv_aload_n hx hb dX5_readBinding_7 rfl (lv_at hl 1 rfl) ?_
    refine lv_bipush (v := 41) hx hb dX5_readBinding_8 (by decide) ?_
    have i38 : Iv (σ.1 385 a1) 0 80 := o_fb (j := 385) hw ha1 rfl
    refine o_ci hw (oRunV cx hA hw q_X7_take k_m_X5_74 rfl ha1 (by decide) (As := [.int 41]) (c_X7_take a1 ha1 41 (iv_w (⟨by decide, by decide⟩ : Iv 41 41 41) (by decide))) (by decide) rfl hl.1 rfl (Nat.le_of_ble_eq_true rfl) dX5_readBinding_10 (by decide)) (fun v40 σ39 H locs hp hw => ?_)
    obtain ⟨p40_0, p40_1, p40_2⟩ := hp
    have fr := oFr_tr fr p40_0 (by decide)
    refine lv_if_eq (tgt := 47) hx hb dX5_readBinding_13 (by decide) (fun c41 => ?_) (fun c41 => ?_)
    · --
      have i42 : Iv v40 0 0 := iv_eq1 c41 p40_1 (⟨by decide, by decide⟩ : Iv 0 0 0) (by decide)
      exact J_47 σ39 _ _ hw fr _ (lv_sub hl [0, 1] rfl)
    · --
      have i43 : Iv v40 1 1 := iv_ne1 c41 p40_1 (⟨by decide, by decide⟩ : Iv 0 0 0) (by decide)
      refine lv_aload_n hx hb dX5_readBinding_16 rfl (lv_at hl 0 rfl) ?_
      refine lv_iconst (v := 1) hx hb dX5_readBinding_17 (by decide) ?_
      refine o_cv hw (oRunV cx hA hw q_X5_release k_m_X5_51 rfl ha0 (by decide) (As := [.int 1]) (c_X5_release a0 ha0 1) (by decide) rfl hl.1 rfl (Nat.le_of_ble_eq_true rfl) dX5_readBinding_18 (by decide)) (fun σ44 H locs hp hw => ?_)
      have p45_0 := hp
      have fr := oFr_tr fr p45_0 (by decide)
      refine lv_aload_n hx hb dX5_readBinding_21 rfl (lv_at hl 0 rfl) ?_
      refine lv_iconst (v := 0) hx hb dX5_readBinding_22 (by decide) ?_
      refine lv_aload_n hx hb dX5_readBinding_23 rfl (lv_at hl 0 rfl) ?_
      refine g_261 cx hw ha0 k_f_X5_34 dX5_readBinding_24 (fun v46 e46 i46 => ?_)
      refine lv_iconst (v := 1) hx hb dX5_readBinding_27 (by decide) ?_
      refine lv_isub hx hb dX5_readBinding_28 ?_
      refine lv_topi (fun v47 e47 => ?_)
      have i47 : Iv v47 (-1) 39 := iv_sub e47 i46 (⟨by decide, by decide⟩ : Iv 1 1 1) (by decide)
      have x47 : v47.toInt = v46.toInt + (-1) := ex_sub e47 i46 (⟨by decide, by decide⟩ : Iv 1 1 1) (by decide)
      refine va_mmax hx hb (hml.trans hl.1.symm) hown (hts _ k_m_X5_102) (hts _ k_s_J9_max_7cf53) (hts _ k_i_J9) (hts _ k_code_J9_max_7cf53) (by decide) (Nat.le_of_ble_eq_true rfl) (by decide) (by decide) dX5_readBinding_29 ?_
      refine lv_topi (fun v48 e48 => ?_)
      have i48 : Iv v48 0 39 := iv_max e48 (⟨by decide, by decide⟩ : Iv 0 0 0) i47 (by decide)
      refine p_261 cx hw ha0 (iv_w i48 (by decide)) k_f_X5_34 dX5_readBinding_32 (fun σ49 H locs eσ49 hw => ?_)
      have fr := oFr_i fr eσ49 (by decide)
      refine lv_aload_n hx hb dX5_readBinding_35 rfl (lv_at hl 0 rfl) ?_
      refine lv_dup hx hb dX5_readBinding_36 rfl ?_
      refine g_263 cx hw ha0 k_f_X5_37 dX5_readBinding_37 (fun v50 e50 => ?_)
      rw [show v50 = v1 from e50.trans ((kp_i eσ49 (by decide)).trans ((kp_c p45_0 (by decide)).trans ((kp_c p40_0 (by decide)).trans e1.symm)))]
      refine lv_iconst (v := 1) hx hb dX5_readBinding_40 (by decide) ?_
      refine lv_isub hx hb dX5_readBinding_41 ?_
      refine lv_topi (fun v51 e51 => ?_)
      have i51 : Iv v51 0 2147483646 := iv_sub e51 i37 (⟨by decide, by decide⟩ : Iv 1 1 1) (by decide)
      have x51 : v51.toInt = v1.toInt + (-1) := ex_sub e51 i37 (⟨by decide, by decide⟩ : Iv 1 1 1) (by decide)
      refine p_263 cx hw ha0 k_f_X5_37 dX5_readBinding_42 (fun σ52 H locs eσ52 hw => ?_)
      have fr := oFr_i fr eσ52 (by decide)
      refine lv_iconst (v := 1) hx hb dX5_readBinding_45 (by decide) ?_
      rw [← hQ]
      exact o_rz cx rx hw (iv_nz01 (iv_w (⟨by decide, by decide⟩ : Iv 1 1 1) (by decide))) dX5_readBinding_46 ⟨fr, (iv_w (⟨by decide, by decide⟩ : Iv 1 1 1) (by decide))⟩
abbrev fs_X5_learn : List Nat := [257, 259, 261, 263, 264, 265, 386, 387]
abbrev ts_X5_learn : List Nat := [37]
set_option maxHeartbeats 4000000 in
set_option maxRecDepth 100000 in
theorem c_X5_learn (a0 : Nat) (ha0 : oA L τ a0 4) (a1 : Nat) (ha1 : oA L τ a1 6) : oMet l A L τ cy D K yX5_learn cX5_learn 4 (some .int) 6 151 [.ref a0, .ref a1] σ (va_Qi (fun r σ1 => oFr τ fs_X5_learn ts_X5_learn σ σ1) (oPo A L τ cy D) A) := by
  refine oMk (by decide) (Nat.le_of_ble_eq_true rfl) rfl ?_
  intro p e s m args below meth c ls cx rx hA hw hl
  generalize hQ : MQ below _ args s 0 0 A = Q
  have hx := cx.1.1
  have hb := cx.1.2.1
  have hml := cx.1.2.2.1
  have hown := cx.1.2.2.2.1
  have hts := cx.1.2.2.2.2
  have hl : lv_has ls 4 [(0, .ref a0), (1, .ref a1)] := hl
  have fr : oFr τ fs_X5_learn ts_X5_learn σ σ := oFr_rf
  refine lv_aload_n hx hb dX5_learn_0 rfl (lv_at hl 1 rfl) ?_
  refine lv_bipush (v := 40) hx hb dX5_learn_1 (by decide) ?_
  refine o_cv hw (oRunV cx hA hw q_X7_begin k_m_X5_24 rfl ha1 (by decide) (As := [.int 40]) (c_X7_begin a1 ha1 40) (by decide) rfl hl.1 rfl (Nat.le_of_ble_eq_true rfl) dX5_learn_3 (by decide)) (fun σ1 H locs hp hw => ?_)
  obtain ⟨p2_0, p2_1⟩ := hp
  have fr := oFr_tr fr p2_0 (by decide)
  refine lv_aload_n hx hb dX5_learn_6 rfl (lv_at hl 0 rfl) ?_
  refine lv_iconst (v := 0) hx hb dX5_learn_7 (by decide) ?_
  refine p_259 cx hw ha0 (iv_w (⟨by decide, by decide⟩ : Iv 0 0 0) (by decide)) k_f_X5_30 dX5_learn_8 (fun σ3 H locs eσ3 hw => ?_)
  have fr := oFr_i fr eσ3 (by decide)
  refine lv_aload_n hx hb dX5_learn_11 rfl (lv_at hl 0 rfl) ?_
  refine lv_iconst (v := 0) hx hb dX5_learn_12 (by decide) ?_
  refine p_261 cx hw ha0 (iv_w (⟨by decide, by decide⟩ : Iv 0 0 0) (by decide)) k_f_X5_34 dX5_learn_13 (fun σ4 H locs eσ4 hw => ?_)
  have fr := oFr_i fr eσ4 (by decide)
  refine lv_aload_n hx hb dX5_learn_16 rfl (lv_at hl 0 rfl) ?_
  refine lv_iconst (v := 0) hx hb dX5_learn_17 (by decide) ?_
  refine p_263 cx hw ha0 k_f_X5_37 dX5_learn_18 (fun σ5 H locs eσ5 hw => ?_)
  have fr := oFr_i fr eσ5 (by decide)
  refine lv_aload_n hx hb dX5_learn_21 rfl (lv_at hl 0 rfl) ?_
  refine lv_iconst (v := 0) hx hb dX5_learn_22 (by decide) ?_
  refine p_264 cx hw ha0 k_f_X5_40 dX5_learn_23 (fun σ6 H locs eσ6 hw => ?_)
  have fr := oFr_i fr eσ6 (by decide)
  refine lv_aload_n hx hb dX5_learn_26 rfl (lv_at hl 0 rfl) ?_
  refine lv_iconst (v := 1) hx hb dX5_learn_27 (by decide) ?_
  refine p_265 cx hw ha0 (iv_w (⟨by decide, by decide⟩ : Iv 1 1 1) (by decide)) k_f_X5_43 dX5_learn_28 (fun σ7 H locs eσ7 hw => ?_)
  have fr := oFr_i fr eσ7 (by decide)
  refine lv_iconst (v := 0) hx hb dX5_learn_31 (by decide) ?_
  refine lv_istore_n (lv' := [(2, .int 0), (0, .ref a0), (1, .ref a1)]) hx hb dX5_learn_32 rfl hl (by decide) rfl (fun ls hl => ?_)
  have frE_33 := fr
  have J_33 : ∀ n33 : Nat, ∀ (j33_2 : Int32) (ij33_2 : Iv j33_2 0 41), ∀ (σ_33 : oSt) (H : Heap) (locs : List Loc), oI A L τ cy D s.heap σ_33 H locs → oFr τ fs_X5_learn ts_X5_learn σ σ_33 → Iv (σ_33.1 387 a1) (-2147483648) 2147483647 → (41 - j33_2.toInt).toNat < n33 → ∀ (ls : Array Slot), lv_has ls 4 [(0, .ref a0), (1, .ref a1), (2, .int j33_2)] → W p l e ({ frames := 6, cells := 0, slots := 0, locals := 151 } : Room) s m args below meth c H locs 0 0 Q (F0 m 33 ls []) := by
    intro n33
    induction n33 with
    | zero => intro j33_2 ij33_2 σ_33 H locs hw fr f33_387_a1  hn_33   ls hl; exact absurd hn_33 (Nat.not_lt_zero _)
    | succ n33 ih_33 =>
      intro j33_2 ij33_2 σ_33 H locs hw fr f33_387_a1  hn_33   ls hl
      have fr_33 := fr
      refine lv_iload_n hx hb dX5_learn_33 rfl (lv_at hl 2 rfl) ?_
      refine lv_bipush (v := 40) hx hb dX5_learn_34 (by decide) ?_
      refine lv_icmp_gt (tgt := 126) hx hb dX5_learn_36 (by decide) (fun c8 => ?_) (fun c8 => ?_)
      · --
        have i9 : Iv j33_2 41 41 := iv_lt2 c8 (⟨by decide, by decide⟩ : Iv 40 40 40) ij33_2 (by decide)
        refine lv_aload_n hx hb dX5_learn_126 rfl (lv_at hl 1 rfl) ?_
        refine o_ci hw (oRunV cx hA hw q_X7_fault k_m_X5_70 rfl ha1 (by decide) (As := []) (c_X7_fault a1 ha1) (by decide) rfl hl.1 rfl (Nat.le_of_ble_eq_true rfl) dX5_learn_127 (by decide)) (fun v11 σ10 H locs hp hw => ?_)
        obtain ⟨p11_0, p11_1⟩ := hp
        rw [p11_0] at hw
        rw [← hQ]
        exact o_ri cx rx hw dX5_learn_130 fr
      · --
        have i12 : Iv j33_2 0 40 := iv_le1 (iv_nlt c8) ij33_2 (⟨by decide, by decide⟩ : Iv 40 40 40) (by decide)
        refine lv_aload_n hx hb dX5_learn_39 rfl (lv_at hl 0 rfl) ?_
        refine g_265 cx hw ha0 k_f_X5_43 dX5_learn_40 (fun v13 e13 => ?_)
        have J_90 : ∀ (H : Heap) (locs : List Loc), oI A L τ cy D s.heap σ_33 H locs → ∀ (ls : Array Slot), lv_has ls 4 [(0, .ref a0), (1, .ref a1), (2, .int j33_2)] → W p l e ({ frames := 6, cells := 0, slots := 0, locals := 151 } : Room) s m args below meth c H locs 0 0 Q (F0 m 90 ls []) := by
          intro  H locs hw     ls hl
          refine lv_aload_n hx hb dX5_learn_90 rfl (lv_at hl 0 rfl) ?_
          refine g_265 cx hw ha0 k_f_X5_43 dX5_learn_91 (fun v14 e14 => ?_)
          rw [show v14 = v13 from e14.trans e13.symm]
          have frE_110 := fr
          have J_110 : ∀ (k110_0 : Int32) (ik110_0 : Iv k110_0 0 1), ∀ (σ_110 : oSt) (H : Heap) (locs : List Loc), oI A L τ cy D s.heap σ_110 H locs → oFr τ fs_X5_learn ts_X5_learn σ σ_110 → Iv (σ_110.1 387 a1) (-2147483648) 2147483647 → ∀ (ls : Array Slot), lv_has ls 4 [(0, .ref a0), (1, .ref a1), (2, .int j33_2)] → W p l e ({ frames := 6, cells := 0, slots := 0, locals := 151 } : Room) s m args below meth c H locs 0 0 Q (F0 m 110 ls [.int k110_0]) := by
            intro k110_0 ik110_0 σ_110 H locs hw fr f110_387_a1     ls hl
            have fr_110 := fr
            refine lv_istore_n (lv' := [(3, .int k110_0), (0, .ref a0), (1, .ref a1), (2, .int j33_2)]) hx hb dX5_learn_110 rfl hl (by decide) rfl (fun ls hl => ?_)
            refine lv_iload_n hx hb dX5_learn_111 rfl (lv_at hl 0 rfl) ?_
            refine lv_if_ne (tgt := 120) hx hb dX5_learn_112 (by decide) (fun c15 => ?_) (fun c15 => ?_)
            · --
              have i16 : Iv k110_0 1 1 := iv_ne1 c15 ik110_0 (⟨by decide, by decide⟩ : Iv 0 0 0) (by decide)
              obtain ⟨v17, e17⟩ : ∃ y : Int32, y = j33_2 + 1 := ⟨_, rfl⟩
              have i17 : Iv v17 1 41 := iv_add e17 i12 (⟨by decide, by decide⟩ : Iv 1 1 1) (by decide)
              have x17 : v17.toInt = j33_2.toInt + 1 := ex_add e17 i12 (⟨by decide, by decide⟩ : Iv 1 1 1) (by decide)
              refine lv_iinc (v := v17) (lv' := [(2, .int v17), (3, .int k110_0), (0, .ref a0), (1, .ref a1)]) hx hb dX5_learn_120 hl (k := 3) rfl (by rw [e17]; rfl) (by decide) rfl (fun ls hl => ?_)
              refine lv_goto (tgt := 33) hx hb dX5_learn_123 (by decide) ?_
              exact ih_33 v17 (iv_w i17 (by decide)) σ_110 _ _ hw fr (kn_iv (rfl) (iv_w f110_387_a1 (by decide))) (ms_up x17 (by decide) (iv_w (a' := 0) (b' := 41) i17 (by decide)).2 hn_33) _ (lv_sub hl [2, 3, 0] rfl)
            · --
              have i18 : Iv k110_0 0 0 := iv_eq1 c15 ik110_0 (⟨by decide, by decide⟩ : Iv 0 0 0) (by decide)
              refine lv_aload_n hx hb dX5_learn_115 rfl (lv_at hl 2 rfl) ?_
              refine o_ci hw (oRunV cx hA hw q_X7_fault k_m_X5_70 rfl ha1 (by decide) (As := []) (c_X7_fault a1 ha1) (by decide) rfl hl.1 rfl (Nat.le_of_ble_eq_true rfl) dX5_learn_116 (by decide)) (fun v20 σ19 H locs hp hw => ?_)
              obtain ⟨p20_0, p20_1⟩ := hp
              rw [p20_0] at hw
              rw [← hQ]
              exact o_ri cx rx hw dX5_learn_119 fr
          refine lv_if_eq (tgt := 105) hx hb dX5_learn_94 (by decide) (fun c21 => ?_) (fun c21 => ?_)
          · --
            have i22 : Iv v13 0 0 := iv_eq1 c21 (iv_top v13) (⟨by decide, by decide⟩ : Iv 0 0 0) (by decide)
            refine lv_aload_n hx hb dX5_learn_105 rfl (lv_at hl 0 rfl) ?_
            refine lv_aload_n hx hb dX5_learn_106 rfl (lv_at hl 1 rfl) ?_
            refine o_ci hw (oRunV cx hA hw q_X5_readBinding k_m_X5_67 rfl ha0 (by decide) (As := [.ref a1]) (c_X5_readBinding a0 ha0 a1 ha1) (by decide) rfl hl.1 rfl (Nat.le_of_ble_eq_true rfl) dX5_learn_107 (by decide)) (fun v24 σ23 H locs hp hw => ?_)
            obtain ⟨p24_0, p24_1⟩ := hp
            have fr := oFr_tr fr p24_0 (by decide)
            exact J_110 v24 p24_1 σ23 _ _ hw fr (kn_iv (((kp_c p24_0 (by decide)).trans rfl)) (iv_w f33_387_a1 (by decide))) _ (lv_sub hl [0, 1, 2] rfl)
          · --
            refine lv_aload_n hx hb dX5_learn_97 rfl (lv_at hl 0 rfl) ?_
            refine lv_aload_n hx hb dX5_learn_98 rfl (lv_at hl 1 rfl) ?_
            refine o_ci hw (oRunV cx hA hw q_X5_readThing k_m_X5_63 rfl ha0 (by decide) (As := [.ref a1]) (c_X5_readThing a0 ha0 a1 ha1) (by decide) rfl hl.1 rfl (Nat.le_of_ble_eq_true rfl) dX5_learn_99 (by decide)) (fun v26 σ25 H locs hp hw => ?_)
            obtain ⟨p26_0, p26_1⟩ := hp
            have fr := oFr_tr fr p26_0 (by decide)
            refine lv_goto (tgt := 110) hx hb dX5_learn_102 (by decide) ?_
            exact J_110 v26 p26_1 σ25 _ _ hw fr (kn_iv (((kp_c p26_0 (by decide)).trans rfl)) (iv_w f33_387_a1 (by decide))) _ (lv_sub hl [0, 1, 2] rfl)
        refine lv_if_ne (tgt := 90) hx hb dX5_learn_43 (by decide) (fun c27 => ?_) (fun c27 => ?_)
        · --
          exact J_90 _ _ hw _ (lv_sub hl [0, 1, 2] rfl)
        · --
          have i28 : Iv v13 0 0 := iv_eq1 c27 (iv_top v13) (⟨by decide, by decide⟩ : Iv 0 0 0) (by decide)
          refine lv_aload_n hx hb dX5_learn_46 rfl (lv_at hl 0 rfl) ?_
          refine g_263 cx hw ha0 k_f_X5_37 dX5_learn_47 (fun v29 e29 => ?_)
          refine lv_if_ne (tgt := 90) hx hb dX5_learn_50 (by decide) (fun c30 => ?_) (fun c30 => ?_)
          · --
            exact J_90 _ _ hw _ (lv_sub hl [0, 1, 2] rfl)
          · --
            have i31 : Iv v29 0 0 := iv_eq1 c30 (iv_top v29) (⟨by decide, by decide⟩ : Iv 0 0 0) (by decide)
            refine lv_aload_n hx hb dX5_learn_53 rfl (lv_at hl 1 rfl) ?_
            have i32 : Iv (σ_33.1 385 a1) 0 80 := o_fb (j := 385) hw ha1 rfl
            refine o_ci hw (oRunV cx hA hw q_X7_isAtEnd k_m_X5_47 rfl ha1 (by decide) (As := []) (c_X7_isAtEnd a1 ha1) (by decide) rfl hl.1 rfl (Nat.le_of_ble_eq_true rfl) dX5_learn_54 (by decide)) (fun v34 σ33 H locs hp hw => ?_)
            obtain ⟨p34_0, p34_1, p34_2⟩ := hp
            rw [p34_0] at hw
            refine lv_if_eq (tgt := 90) hx hb dX5_learn_57 (by decide) (fun c35 => ?_) (fun c35 => ?_)
            · --
              have i36 : Iv v34 0 0 := iv_eq1 c35 p34_1 (⟨by decide, by decide⟩ : Iv 0 0 0) (by decide)
              exact J_90 _ _ hw _ (lv_sub hl [0, 1, 2] rfl)
            · --
              have i37 : Iv v34 1 1 := iv_ne1 c35 p34_1 (⟨by decide, by decide⟩ : Iv 0 0 0) (by decide)
              refine lv_aload_n hx hb dX5_learn_60 rfl (lv_at hl 0 rfl) ?_
              refine lv_iconst (v := 1) hx hb dX5_learn_61 (by decide) ?_
              refine o_cv hw (oRunV cx hA hw q_X5_release k_m_X5_51 rfl ha0 (by decide) (As := [.int 1]) (c_X5_release a0 ha0 1) (by decide) rfl hl.1 rfl (Nat.le_of_ble_eq_true rfl) dX5_learn_62 (by decide)) (fun σ38 H locs hp hw => ?_)
              have p39_0 := hp
              have fr := oFr_tr fr p39_0 (by decide)
              refine lv_aload_n hx hb dX5_learn_65 rfl (lv_at hl 0 rfl) ?_
              refine g_258 cx hw ha0 k_f_X5_15 dX5_learn_66 (fun v40 e40 h40 => ?_)
              refine lv_iconst (v := 0) hx hb dX5_learn_69 (by decide) ?_
              refine lv_aload_n hx hb dX5_learn_70 rfl (lv_at hl 0 rfl) ?_
              refine g_256 cx hw ha0 k_f_X5_9 dX5_learn_71 (fun v41 e41 h41 => ?_)
              refine lv_iconst (v := 0) hx hb dX5_learn_74 (by decide) ?_
              refine lv_bipush (v := 40) hx hb dX5_learn_75 (by decide) ?_
              refine o_copyi cx hw h40 h41 (by decide) rfl (by decide) k_m_X5_54 hl.1 (by decide) (Nat.le_of_ble_eq_true rfl) dX5_learn_77 (fun σ42 H locs eσ42 hw => ?_)
              have fr := oFr_p fr eσ42 h41 (by decide)
              refine lv_aload_n hx hb dX5_learn_80 rfl (lv_at hl 0 rfl) ?_
              refine lv_aload_n hx hb dX5_learn_81 rfl (lv_at hl 0 rfl) ?_
              refine g_259 cx hw ha0 k_f_X5_30 dX5_learn_82 (fun v43 e43 i43 => ?_)
              refine p_257 cx hw ha0 (iv_w i43 (by decide)) k_f_X5_60 dX5_learn_85 (fun σ44 H locs eσ44 hw => ?_)
              have fr := oFr_i fr eσ44 (by decide)
              refine lv_iconst (v := 0) hx hb dX5_learn_88 (by decide) ?_
              rw [← hQ]
              exact o_ri cx rx hw dX5_learn_89 fr
  exact J_33 _ 0 (iv_w (⟨by decide, by decide⟩ : Iv 0 0 0) (by decide)) σ7 _ _ hw fr (kn_iv (((kp_i eσ7 (by decide)).trans ((kp_i eσ6 (by decide)).trans ((kp_i eσ5 (by decide)).trans ((kp_i eσ4 (by decide)).trans ((kp_i eσ3 (by decide)).trans rfl)))))) (iv_w (iv_top (σ1.1 387 a1)) (by decide))) (Nat.lt_succ_self _) _ (lv_sub hl [1, 2, 0] rfl)
set_option maxHeartbeats 4000000 in
set_option maxRecDepth 100000 in
theorem c_X2_isThere (a0 : Nat) (ha0 : oA L τ a0 1) (a1 : Int32) : oMet l A L τ cy D K yX2_isThere cX2_isThere 2 (some .boolean) 1 22 [.ref a0, .int a1] σ (va_Qi (fun r σ1 => σ1 = σ ∧ Iv r 0 1 ∧ (¬ r = 0 → Iv a1 0 63)) (oPo A L τ cy D) A) := by
  refine oMk (by decide) (Nat.le_of_ble_eq_true rfl) rfl ?_
  intro p e s m args below meth c ls cx rx hA hw hl
  generalize hQ : MQ below _ args s 0 0 A = Q
  have hx := cx.1.1
  have hb := cx.1.2.1
  have hml := cx.1.2.2.1
  have hown := cx.1.2.2.2.1
  have hts := cx.1.2.2.2.2
  have hl : lv_has ls 2 [(0, .ref a0), (1, .int a1)] := hl
  refine lv_aload_n hx hb dX2_isThere_0 rfl (lv_at hl 0 rfl) ?_
  refine g_68 cx hw ha0 k_f_X2_44 dX2_isThere_1 (fun v1 e1 => ?_)
  refine lv_iload_n hx hb dX2_isThere_4 rfl (lv_at hl 1 rfl) ?_
  refine o_ci hw (oRunS cx hA hw q_X0_has k_m_X2_86 (As := [.long v1, .int a1]) (c_X0_has v1 a1) (by decide) rfl hl.1 rfl (Nat.le_of_ble_eq_true rfl) dX2_isThere_5 (by decide)) (fun v3 σ2 H locs hp hw => ?_)
  obtain ⟨p3_0, p3_1, p3_2, p3_3⟩ := hp
  rw [p3_0] at hw
  rw [← hQ]
  exact o_rz cx rx hw (iv_nz01 (iv_w p3_1 (by decide))) dX2_isThere_8 ⟨rfl, (iv_w p3_1 (by decide)), (fun h => iv_w (p3_2 h) (by decide))⟩
set_option maxHeartbeats 4000000 in
set_option maxRecDepth 100000 in
theorem c_X2_openTo (a0 : Nat) (ha0 : oA L τ a0 1) (a1 : Int32) : oMet l A L τ cy D K yX2_openTo cX2_openTo 5 (some .long) 1 20 [.ref a0, .int a1] σ (va_Ql (fun r σ1 => σ1 = σ) (oPo A L τ cy D) A) := by
  refine oMk (by decide) (Nat.le_of_ble_eq_true rfl) rfl ?_
  intro p e s m args below meth c ls cx rx hA hw hl
  generalize hQ : MQ below _ args s 0 0 A = Q
  have hx := cx.1.1
  have hb := cx.1.2.1
  have hml := cx.1.2.2.1
  have hown := cx.1.2.2.2.1
  have hts := cx.1.2.2.2.2
  have hl : lv_has ls 5 [(0, .ref a0), (1, .int a1)] := hl
  refine lv_aload_n hx hb dX2_openTo_0 rfl (lv_at hl 0 rfl) ?_
  refine g_69 cx hw ha0 k_f_X2_48 dX2_openTo_1 (fun v1 e1 => ?_)
  refine lv_lstore_n (lv' := [(2, .long v1), (0, .ref a0), (1, .int a1)]) hx hb dX2_openTo_4 rfl hl (by decide) rfl (fun ls hl => ?_)
  refine lv_iconst (v := 0) hx hb dX2_openTo_5 (by decide) ?_
  refine lv_istore (lv' := [(4, .int 0), (2, .long v1), (0, .ref a0), (1, .int a1)]) hx hb dX2_openTo_6 hl (by decide) rfl (fun ls hl => ?_)
  have J_8 : ∀ n8 : Nat, ∀ (j8_2 : Int64) (j8_4 : Int32) (ij8_4 : Iv j8_4 0 6), ∀ (H : Heap) (locs : List Loc), oI A L τ cy D s.heap σ H locs → (6 - j8_4.toInt).toNat < n8 → ∀ (ls : Array Slot), lv_has ls 5 [(0, .ref a0), (1, .int a1), (2, .long j8_2), (4, .int j8_4)] → W p l e ({ frames := 1, cells := 0, slots := 0, locals := 20 } : Room) s m args below meth c H locs 0 0 Q (F0 m 8 ls []) := by
    intro n8
    induction n8 with
    | zero => intro j8_2 j8_4 ij8_4 H locs hw  hn_8   ls hl; exact absurd hn_8 (Nat.not_lt_zero _)
    | succ n8 ih_8 =>
      intro j8_2 j8_4 ij8_4 H locs hw  hn_8   ls hl
      refine lv_iload hx hb dX2_openTo_8 (lv_at hl 3 rfl) ?_
      refine lv_aload_n hx hb dX2_openTo_10 rfl (lv_at hl 0 rfl) ?_
      refine g_66 cx hw ha0 k_f_X2_54 dX2_openTo_11 (fun v2 e2 i2 => ?_)
      refine lv_icmp_ge (tgt := 45) hx hb dX2_openTo_14 (by decide) (fun c3 => ?_) (fun c3 => ?_)
      · --
        refine lv_lload_n hx hb dX2_openTo_45 rfl (lv_at hl 2 rfl) ?_
        rw [← hQ]
        exact o_rl cx rx hw dX2_openTo_46 rfl
      · --
        have i4 : Iv j8_4 0 5 := iv_lt1 (iv_nle c3) ij8_4 i2 (by decide)
        have i5 : Iv v2 1 6 := iv_lt2 (iv_nle c3) ij8_4 i2 (by decide)
        refine lv_iload_n hx hb dX2_openTo_17 rfl (lv_at hl 1 rfl) ?_
        refine lv_iload hx hb dX2_openTo_18 (lv_at hl 3 rfl) ?_
        refine lv_ishr hx hb dX2_openTo_20 ?_
        refine lv_topi (fun v6 e6 => ?_)
        refine lv_iconst (v := 1) hx hb dX2_openTo_21 (by decide) ?_
        refine lv_iand hx hb dX2_openTo_22 ?_
        refine lv_topi (fun v7 e7 => ?_)
        have i7 : Iv v7 0 1 := iv_and e7 (⟨by decide, by decide⟩ : Iv 1 1 1) (by decide)
        have J_39 : ∀ (j39_2 : Int64), ∀ (H : Heap) (locs : List Loc), oI A L τ cy D s.heap σ H locs → ∀ (ls : Array Slot), lv_has ls 5 [(0, .ref a0), (1, .int a1), (2, .long j39_2), (4, .int j8_4)] → W p l e ({ frames := 1, cells := 0, slots := 0, locals := 20 } : Room) s m args below meth c H locs 0 0 Q (F0 m 39 ls []) := by
          intro j39_2 H locs hw     ls hl
          obtain ⟨v8, e8⟩ : ∃ y : Int32, y = j8_4 + 1 := ⟨_, rfl⟩
          have i8 : Iv v8 1 6 := iv_add e8 i4 (⟨by decide, by decide⟩ : Iv 1 1 1) (by decide)
          have x8 : v8.toInt = j8_4.toInt + 1 := ex_add e8 i4 (⟨by decide, by decide⟩ : Iv 1 1 1) (by decide)
          refine lv_iinc (v := v8) (lv' := [(4, .int v8), (0, .ref a0), (1, .int a1), (2, .long j39_2)]) hx hb dX2_openTo_39 hl (k := 3) rfl (by rw [e8]; rfl) (by decide) rfl (fun ls hl => ?_)
          refine lv_goto (tgt := 8) hx hb dX2_openTo_42 (by decide) ?_
          exact ih_8 j39_2 v8 (iv_w i8 (by decide)) _ _ hw (ms_up x8 (by decide) (iv_w (a' := 0) (b' := 6) i8 (by decide)).2 hn_8) _ (lv_sub hl [1, 2, 3, 0] rfl)
        refine lv_if_eq (tgt := 39) hx hb dX2_openTo_23 (by decide) (fun c9 => ?_) (fun c9 => ?_)
        · --
          have i10 : Iv v7 0 0 := iv_eq1 c9 i7 (⟨by decide, by decide⟩ : Iv 0 0 0) (by decide)
          exact J_39 j8_2 _ _ hw _ (lv_sub hl [0, 1, 2, 3] rfl)
        · --
          have i11 : Iv v7 1 1 := iv_ne1 c9 i7 (⟨by decide, by decide⟩ : Iv 0 0 0) (by decide)
          refine lv_lload_n hx hb dX2_openTo_26 rfl (lv_at hl 2 rfl) ?_
          refine lv_aload_n hx hb dX2_openTo_27 rfl (lv_at hl 0 rfl) ?_
          refine g_67 cx hw ha0 k_f_X2_9 dX2_openTo_28 (fun v12 e12 h12 => ?_)
          refine lv_iload hx hb dX2_openTo_31 (lv_at hl 3 rfl) ?_
          refine o_iald cx hw h12 (by decide) rfl (iv_in i4 (by decide)) dX2_openTo_33 (fun v13 e13 b13 => ?_)
          refine o_cl hw (oRunS cx hA hw q_X0_bit k_m_X2_74 (As := [.int v13]) (c_X0_bit v13) (by decide) rfl hl.1 rfl (Nat.le_of_ble_eq_true rfl) dX2_openTo_34 (by decide)) (fun v15 σ14 H locs hp hw => ?_)
          obtain ⟨p15_0, p15_1⟩ := hp
          rw [p15_0] at hw
          refine lv_lor hx hb dX2_openTo_37 ?_
          refine lv_topl (fun v16 e16 => ?_)
          refine lv_lstore_n (lv' := [(2, .long v16), (0, .ref a0), (1, .int a1), (4, .int j8_4)]) hx hb dX2_openTo_38 rfl hl (by decide) rfl (fun ls hl => ?_)
          exact J_39 v16 _ _ hw _ (lv_sub hl [1, 2, 0, 3] rfl)
  exact J_8 _ v1 0 (iv_w (⟨by decide, by decide⟩ : Iv 0 0 0) (by decide)) _ _ hw (Nat.lt_succ_self _) _ (lv_sub hl [2, 3, 1, 0] rfl)
set_option maxHeartbeats 4000000 in
set_option maxRecDepth 100000 in
theorem c_X2_kindOf (a0 : Nat) (ha0 : oA L τ a0 1) (a1 : Int32) (a2 : Int32) : oMet l A L τ cy D K yX2_kindOf cX2_kindOf 3 (some .int) 2 44 [.ref a0, .int a1, .int a2] σ (va_Qi (fun r σ1 => σ1 = σ ∧ Iv r 0 3) (oPo A L τ cy D) A) := by
  refine oMk (by decide) (Nat.le_of_ble_eq_true rfl) rfl ?_
  intro p e s m args below meth c ls cx rx hA hw hl
  generalize hQ : MQ below _ args s 0 0 A = Q
  have hx := cx.1.1
  have hb := cx.1.2.1
  have hml := cx.1.2.2.1
  have hown := cx.1.2.2.2.1
  have hts := cx.1.2.2.2.2
  have hl : lv_has ls 3 [(0, .ref a0), (1, .int a1), (2, .int a2)] := hl
  refine lv_aload_n hx hb dX2_kindOf_0 rfl (lv_at hl 0 rfl) ?_
  refine g_69 cx hw ha0 k_f_X2_48 dX2_kindOf_1 (fun v1 e1 => ?_)
  refine lv_iload_n hx hb dX2_kindOf_4 rfl (lv_at hl 1 rfl) ?_
  refine o_ci hw (oRunS cx hA hw q_X0_has k_m_X2_86 (As := [.long v1, .int a1]) (c_X0_has v1 a1) (by decide) rfl hl.1 rfl (Nat.le_of_ble_eq_true rfl) dX2_kindOf_5 (by decide)) (fun v3 σ2 H locs hp hw => ?_)
  obtain ⟨p3_0, p3_1, p3_2, p3_3⟩ := hp
  rw [p3_0] at hw
  refine lv_if_eq (tgt := 13) hx hb dX2_kindOf_8 (by decide) (fun c4 => ?_) (fun c4 => ?_)
  · --
    have i5 : Iv v3 0 0 := iv_eq1 c4 p3_1 (⟨by decide, by decide⟩ : Iv 0 0 0) (by decide)
    refine lv_aload_n hx hb dX2_kindOf_13 rfl (lv_at hl 0 rfl) ?_
    refine g_70 cx hw ha0 k_f_X2_51 dX2_kindOf_14 (fun v6 e6 => ?_)
    refine lv_iload_n hx hb dX2_kindOf_17 rfl (lv_at hl 1 rfl) ?_
    refine o_ci hw (oRunS cx hA hw q_X0_has k_m_X2_86 (As := [.long v6, .int a1]) (c_X0_has v6 a1) (by decide) rfl hl.1 rfl (Nat.le_of_ble_eq_true rfl) dX2_kindOf_18 (by decide)) (fun v8 σ7 H locs hp hw => ?_)
    obtain ⟨p8_0, p8_1, p8_2, p8_3⟩ := hp
    rw [p8_0] at hw
    refine lv_if_eq (tgt := 26) hx hb dX2_kindOf_21 (by decide) (fun c9 => ?_) (fun c9 => ?_)
    · --
      have i10 : Iv v8 0 0 := iv_eq1 c9 p8_1 (⟨by decide, by decide⟩ : Iv 0 0 0) (by decide)
      refine lv_aload_n hx hb dX2_kindOf_26 rfl (lv_at hl 0 rfl) ?_
      refine lv_iload_n hx hb dX2_kindOf_27 rfl (lv_at hl 2 rfl) ?_
      refine o_cl hw (oRunV cx hA hw q_X2_openTo k_m_X2_90 rfl ha0 (by decide) (As := [.int a2]) (c_X2_openTo a0 ha0 a2) (by decide) rfl hl.1 rfl (Nat.le_of_ble_eq_true rfl) dX2_kindOf_28 (by decide)) (fun v12 σ11 H locs hp hw => ?_)
      have p12_0 := hp
      rw [p12_0] at hw
      refine lv_iload_n hx hb dX2_kindOf_31 rfl (lv_at hl 1 rfl) ?_
      refine o_ci hw (oRunS cx hA hw q_X0_has k_m_X2_86 (As := [.long v12, .int a1]) (c_X0_has v12 a1) (by decide) rfl hl.1 rfl (Nat.le_of_ble_eq_true rfl) dX2_kindOf_32 (by decide)) (fun v14 σ13 H locs hp hw => ?_)
      obtain ⟨p14_0, p14_1, p14_2, p14_3⟩ := hp
      rw [p14_0] at hw
      refine lv_if_eq (tgt := 42) hx hb dX2_kindOf_35 (by decide) (fun c15 => ?_) (fun c15 => ?_)
      · --
        have i16 : Iv v14 0 0 := iv_eq1 c15 p14_1 (⟨by decide, by decide⟩ : Iv 0 0 0) (by decide)
        refine lv_iconst (v := 2) hx hb dX2_kindOf_42 (by decide) ?_
        rw [← hQ]
        exact o_ri cx rx hw dX2_kindOf_43 ⟨rfl, (iv_w (⟨by decide, by decide⟩ : Iv 2 2 2) (by decide))⟩
      · --
        have i17 : Iv v14 1 1 := iv_ne1 c15 p14_1 (⟨by decide, by decide⟩ : Iv 0 0 0) (by decide)
        have i18 : Iv a1 0 63 := p14_2 c15
        refine lv_iconst (v := 3) hx hb dX2_kindOf_38 (by decide) ?_
        refine lv_goto (tgt := 43) hx hb dX2_kindOf_39 (by decide) ?_
        rw [← hQ]
        exact o_ri cx rx hw dX2_kindOf_43 ⟨rfl, (iv_w (⟨by decide, by decide⟩ : Iv 3 3 3) (by decide))⟩
    · --
      have i19 : Iv v8 1 1 := iv_ne1 c9 p8_1 (⟨by decide, by decide⟩ : Iv 0 0 0) (by decide)
      have i20 : Iv a1 0 63 := p8_2 c9
      refine lv_iconst (v := 1) hx hb dX2_kindOf_24 (by decide) ?_
      rw [← hQ]
      exact o_ri cx rx hw dX2_kindOf_25 ⟨rfl, (iv_w (⟨by decide, by decide⟩ : Iv 1 1 1) (by decide))⟩
  · --
    have i21 : Iv v3 1 1 := iv_ne1 c4 p3_1 (⟨by decide, by decide⟩ : Iv 0 0 0) (by decide)
    have i22 : Iv a1 0 63 := p3_2 c4
    refine lv_iconst (v := 0) hx hb dX2_kindOf_11 (by decide) ?_
    rw [← hQ]
    exact o_ri cx rx hw dX2_kindOf_12 ⟨rfl, (iv_w (⟨by decide, by decide⟩ : Iv 0 0 0) (by decide))⟩
set_option maxHeartbeats 4000000 in
set_option maxRecDepth 100000 in
theorem c_X6_isRoad (a0 : Nat) (ha0 : oA L τ a0 5) (a1 : Int32) (ia1 : Iv a1 0 63) (a2 : Int32) : oMet l A L τ cy D K yX6_isRoad cX6_isRoad 3 (some .boolean) 0 0 [.ref a0, .int a1, .int a2] σ (va_Qi (fun r σ1 => σ1 = σ ∧ Iv r 0 1) (oPo A L τ cy D) A) := by
  refine oMk (by decide) (Nat.le_of_ble_eq_true rfl) rfl ?_
  intro p e s m args below meth c ls cx rx hA hw hl
  generalize hQ : MQ below _ args s 0 0 A = Q
  have hx := cx.1.1
  have hb := cx.1.2.1
  have hml := cx.1.2.2.1
  have hown := cx.1.2.2.2.1
  have hts := cx.1.2.2.2.2
  have hl : lv_has ls 3 [(0, .ref a0), (1, .int a1), (2, .int a2)] := hl
  refine lv_aload_n hx hb dX6_isRoad_0 rfl (lv_at hl 0 rfl) ?_
  refine g_323 cx hw ha0 k_f_X6_21 dX6_isRoad_1 (fun v1 e1 h1 => ?_)
  refine lv_iload_n hx hb dX6_isRoad_4 rfl (lv_at hl 1 rfl) ?_
  refine o_iald cx hw h1 (by decide) rfl (iv_in ia1 (by decide)) dX6_isRoad_5 (fun v2 e2 b2 => ?_)
  refine lv_iconst (v := (-1)) hx hb dX6_isRoad_6 (by decide) ?_
  refine lv_icmp_eq (tgt := 29) hx hb dX6_isRoad_7 (by decide) (fun c3 => ?_) (fun c3 => ?_)
  · --
    have i4 : Iv v2 (-1) (-1) := iv_eq1 c3 (iv_top v2) (⟨by decide, by decide⟩ : Iv (-1) (-1) (-1)) (by decide)
    refine lv_iconst (v := 0) hx hb dX6_isRoad_29 (by decide) ?_
    rw [← hQ]
    exact o_rz cx rx hw (iv_nz01 (iv_w (⟨by decide, by decide⟩ : Iv 0 0 0) (by decide))) dX6_isRoad_30 ⟨rfl, (iv_w (⟨by decide, by decide⟩ : Iv 0 0 0) (by decide))⟩
  · --
    refine lv_aload_n hx hb dX6_isRoad_10 rfl (lv_at hl 0 rfl) ?_
    refine g_331 cx hw ha0 k_f_X6_52 dX6_isRoad_11 (fun v5 e5 => ?_)
    refine lv_aload_n hx hb dX6_isRoad_14 rfl (lv_at hl 0 rfl) ?_
    refine g_323 cx hw ha0 k_f_X6_21 dX6_isRoad_15 (fun v6 e6 h6 => ?_)
    rw [show v6 = v1 from Option.some.inj (e6.symm.trans (e1))]
    refine lv_iload_n hx hb dX6_isRoad_18 rfl (lv_at hl 1 rfl) ?_
    refine o_iald cx hw h1 (by decide) rfl (iv_in ia1 (by decide)) dX6_isRoad_19 (fun v7 e7 b7 => ?_)
    refine lv_isub hx hb dX6_isRoad_20 ?_
    refine lv_topi (fun v8 e8 => ?_)
    refine lv_iload_n hx hb dX6_isRoad_21 rfl (lv_at hl 2 rfl) ?_
    refine lv_icmp_gt (tgt := 29) hx hb dX6_isRoad_22 (by decide) (fun c9 => ?_) (fun c9 => ?_)
    · --
      have i10 : Iv a2 (-2147483648) 2147483646 := iv_lt1 c9 (iv_top a2) (iv_top v8) (by decide)
      have i11 : Iv v8 (-2147483647) 2147483647 := iv_lt2 c9 (iv_top a2) (iv_top v8) (by decide)
      refine lv_iconst (v := 0) hx hb dX6_isRoad_29 (by decide) ?_
      rw [← hQ]
      exact o_rz cx rx hw (iv_nz01 (iv_w (⟨by decide, by decide⟩ : Iv 0 0 0) (by decide))) dX6_isRoad_30 ⟨rfl, (iv_w (⟨by decide, by decide⟩ : Iv 0 0 0) (by decide))⟩
    · --
      refine lv_iconst (v := 1) hx hb dX6_isRoad_25 (by decide) ?_
      refine lv_goto (tgt := 30) hx hb dX6_isRoad_26 (by decide) ?_
      rw [← hQ]
      exact o_rz cx rx hw (iv_nz01 (iv_w (⟨by decide, by decide⟩ : Iv 1 1 1) (by decide))) dX6_isRoad_30 ⟨rfl, (iv_w (⟨by decide, by decide⟩ : Iv 1 1 1) (by decide))⟩
set_option maxHeartbeats 4000000 in
set_option maxRecDepth 100000 in
theorem c_X6_herdsAt (a0 : Nat) (ha0 : oA L τ a0 5) (a1 : Int32) : oMet l A L τ cy D K yX6_herdsAt cX6_herdsAt 4 (some .int) 0 0 [.ref a0, .int a1] σ (va_Qi (fun r σ1 => σ1 = σ ∧ Iv r 0 63) (oPo A L τ cy D) A) := by
  refine oMk (by decide) (Nat.le_of_ble_eq_true rfl) rfl ?_
  intro p e s m args below meth c ls cx rx hA hw hl
  generalize hQ : MQ below _ args s 0 0 A = Q
  have hx := cx.1.1
  have hb := cx.1.2.1
  have hml := cx.1.2.2.1
  have hown := cx.1.2.2.2.1
  have hts := cx.1.2.2.2.2
  have hl : lv_has ls 4 [(0, .ref a0), (1, .int a1)] := hl
  refine lv_iconst (v := 0) hx hb dX6_herdsAt_0 (by decide) ?_
  refine lv_istore_n (lv' := [(2, .int 0), (0, .ref a0), (1, .int a1)]) hx hb dX6_herdsAt_1 rfl hl (by decide) rfl (fun ls hl => ?_)
  refine lv_iconst (v := 0) hx hb dX6_herdsAt_2 (by decide) ?_
  refine lv_istore_n (lv' := [(3, .int 0), (2, .int 0), (0, .ref a0), (1, .int a1)]) hx hb dX6_herdsAt_3 rfl hl (by decide) rfl (fun ls hl => ?_)
  have J_4 : ∀ n4 : Nat, ∀ (j4_2 : Int32) (ij4_2 : Iv j4_2 0 63) (j4_3 : Int32) (ij4_3 : Iv j4_3 0 6), ∀ (H : Heap) (locs : List Loc), oI A L τ cy D s.heap σ H locs → (6 - j4_3.toInt).toNat < n4 → ∀ (ls : Array Slot), lv_has ls 4 [(0, .ref a0), (1, .int a1), (2, .int j4_2), (3, .int j4_3)] → W p l e ({ frames := 0, cells := 0, slots := 0, locals := 0 } : Room) s m args below meth c H locs 0 0 Q (F0 m 4 ls []) := by
    intro n4
    induction n4 with
    | zero => intro j4_2 ij4_2 j4_3 ij4_3 H locs hw  hn_4   ls hl; exact absurd hn_4 (Nat.not_lt_zero _)
    | succ n4 ih_4 =>
      intro j4_2 ij4_2 j4_3 ij4_3 H locs hw  hn_4   ls hl
      refine lv_iload_n hx hb dX6_herdsAt_4 rfl (lv_at hl 3 rfl) ?_
      refine lv_aload_n hx hb dX6_herdsAt_5 rfl (lv_at hl 0 rfl) ?_
      refine g_327 cx hw ha0 k_f_X6_39 dX6_herdsAt_6 (fun v1 e1 i1 => ?_)
      refine lv_icmp_ge (tgt := 34) hx hb dX6_herdsAt_9 (by decide) (fun c2 => ?_) (fun c2 => ?_)
      · --
        refine lv_iload_n hx hb dX6_herdsAt_34 rfl (lv_at hl 2 rfl) ?_
        rw [← hQ]
        exact o_ri cx rx hw dX6_herdsAt_35 ⟨rfl, (iv_w ij4_2 (by decide))⟩
      · --
        have i3 : Iv j4_3 0 5 := iv_lt1 (iv_nle c2) ij4_3 i1 (by decide)
        have i4 : Iv v1 1 6 := iv_lt2 (iv_nle c2) ij4_3 i1 (by decide)
        refine lv_aload_n hx hb dX6_herdsAt_12 rfl (lv_at hl 0 rfl) ?_
        refine g_325 cx hw ha0 k_f_X6_27 dX6_herdsAt_13 (fun v5 e5 h5 => ?_)
        refine lv_iload_n hx hb dX6_herdsAt_16 rfl (lv_at hl 3 rfl) ?_
        refine o_iald cx hw h5 (by decide) rfl (iv_in i3 (by decide)) dX6_herdsAt_17 (fun v6 e6 b6 => ?_)
        have i6 : Iv v6 0 63 := b6
        refine lv_iload_n hx hb dX6_herdsAt_18 rfl (lv_at hl 1 rfl) ?_
        have J_28 : ∀ (j28_2 : Int32) (ij28_2 : Iv j28_2 0 63), ∀ (H : Heap) (locs : List Loc), oI A L τ cy D s.heap σ H locs → ∀ (ls : Array Slot), lv_has ls 4 [(0, .ref a0), (1, .int a1), (2, .int j28_2), (3, .int j4_3)] → W p l e ({ frames := 0, cells := 0, slots := 0, locals := 0 } : Room) s m args below meth c H locs 0 0 Q (F0 m 28 ls []) := by
          intro j28_2 ij28_2 H locs hw     ls hl
          obtain ⟨v7, e7⟩ : ∃ y : Int32, y = j4_3 + 1 := ⟨_, rfl⟩
          have i7 : Iv v7 1 6 := iv_add e7 i3 (⟨by decide, by decide⟩ : Iv 1 1 1) (by decide)
          have x7 : v7.toInt = j4_3.toInt + 1 := ex_add e7 i3 (⟨by decide, by decide⟩ : Iv 1 1 1) (by decide)
          refine lv_iinc (v := v7) (lv' := [(3, .int v7), (0, .ref a0), (1, .int a1), (2, .int j28_2)]) hx hb dX6_herdsAt_28 hl (k := 3) rfl (by rw [e7]; rfl) (by decide) rfl (fun ls hl => ?_)
          refine lv_goto (tgt := 4) hx hb dX6_herdsAt_31 (by decide) ?_
          exact ih_4 j28_2 ij28_2 v7 (iv_w i7 (by decide)) _ _ hw (ms_up x7 (by decide) (iv_w (a' := 0) (b' := 6) i7 (by decide)).2 hn_4) _ (lv_sub hl [1, 2, 3, 0] rfl)
        refine lv_icmp_ne (tgt := 28) hx hb dX6_herdsAt_19 (by decide) (fun c8 => ?_) (fun c8 => ?_)
        · --
          exact J_28 j4_2 ij4_2 _ _ hw _ (lv_sub hl [0, 1, 2, 3] rfl)
        · --
          have i9 : Iv a1 0 63 := iv_eq1 (Eq.symm c8) (iv_top a1) i6 (by decide)
          refine lv_iload_n hx hb dX6_herdsAt_22 rfl (lv_at hl 2 rfl) ?_
          refine lv_iconst (v := 1) hx hb dX6_herdsAt_23 (by decide) ?_
          refine lv_iload_n hx hb dX6_herdsAt_24 rfl (lv_at hl 3 rfl) ?_
          refine lv_ishl hx hb dX6_herdsAt_25 ?_
          refine lv_topi (fun v10 e10 => ?_)
          have i10 : Iv v10 1 32 := iv_shl1 e10 i3 (by decide)
          refine lv_ior hx hb dX6_herdsAt_26 ?_
          refine lv_topi (fun v11 e11 => ?_)
          have i11 : Iv v11 0 63 := iv_or e11 ij4_2 i10 6 (by decide)
          refine lv_istore_n (lv' := [(2, .int v11), (0, .ref a0), (1, .int a1), (3, .int j4_3)]) hx hb dX6_herdsAt_27 rfl hl (by decide) rfl (fun ls hl => ?_)
          exact J_28 v11 i11 _ _ hw _ (lv_sub hl [1, 2, 0, 3] rfl)
  exact J_4 _ 0 (iv_w (⟨by decide, by decide⟩ : Iv 0 0 0) (by decide)) 0 (iv_w (⟨by decide, by decide⟩ : Iv 0 0 0) (by decide)) _ _ hw (Nat.lt_succ_self _) _ (lv_sub hl [2, 3, 1, 0] rfl)
set_option maxHeartbeats 4000000 in
set_option maxRecDepth 100000 in
theorem c_X6_hasHerd (a0 : Nat) (ha0 : oA L τ a0 5) (a1 : Int32) : oMet l A L τ cy D K yX6_hasHerd cX6_hasHerd 2 (some .boolean) 0 0 [.ref a0, .int a1] σ (va_Qi (fun r σ1 => σ1 = σ ∧ Iv r 0 1 ∧ (¬ r = 0 → Iv a1 0 5)) (oPo A L τ cy D) A) := by
  refine oMk (by decide) (Nat.le_of_ble_eq_true rfl) rfl ?_
  intro p e s m args below meth c ls cx rx hA hw hl
  generalize hQ : MQ below _ args s 0 0 A = Q
  have hx := cx.1.1
  have hb := cx.1.2.1
  have hml := cx.1.2.2.1
  have hown := cx.1.2.2.2.1
  have hts := cx.1.2.2.2.2
  have hl : lv_has ls 2 [(0, .ref a0), (1, .int a1)] := hl
  refine lv_iload_n hx hb dX6_hasHerd_0 rfl (lv_at hl 1 rfl) ?_
  refine lv_if_lt (tgt := 16) hx hb dX6_hasHerd_1 (by decide) (fun c1 => ?_) (fun c1 => ?_)
  · --
    have i2 : Iv a1 (-2147483648) (-1) := iv_lt1 c1 (iv_top a1) (⟨by decide, by decide⟩ : Iv 0 0 0) (by decide)
    refine lv_iconst (v := 0) hx hb dX6_hasHerd_16 (by decide) ?_
    rw [← hQ]
    exact o_rz cx rx hw (iv_nz01 (iv_w (⟨by decide, by decide⟩ : Iv 0 0 0) (by decide))) dX6_hasHerd_17 ⟨rfl, (iv_w (⟨by decide, by decide⟩ : Iv 0 0 0) (by decide)), (fun h => absurd rfl h)⟩
  · --
    have i3 : Iv a1 0 2147483647 := iv_le2 (iv_nlt c1) (⟨by decide, by decide⟩ : Iv 0 0 0) (iv_top a1) (by decide)
    refine lv_iload_n hx hb dX6_hasHerd_4 rfl (lv_at hl 1 rfl) ?_
    refine lv_aload_n hx hb dX6_hasHerd_5 rfl (lv_at hl 0 rfl) ?_
    refine g_327 cx hw ha0 k_f_X6_39 dX6_hasHerd_6 (fun v4 e4 i4 => ?_)
    refine lv_icmp_ge (tgt := 16) hx hb dX6_hasHerd_9 (by decide) (fun c5 => ?_) (fun c5 => ?_)
    · --
      refine lv_iconst (v := 0) hx hb dX6_hasHerd_16 (by decide) ?_
      rw [← hQ]
      exact o_rz cx rx hw (iv_nz01 (iv_w (⟨by decide, by decide⟩ : Iv 0 0 0) (by decide))) dX6_hasHerd_17 ⟨rfl, (iv_w (⟨by decide, by decide⟩ : Iv 0 0 0) (by decide)), (fun h => absurd rfl h)⟩
    · --
      have i6 : Iv a1 0 5 := iv_lt1 (iv_nle c5) i3 i4 (by decide)
      have i7 : Iv v4 1 6 := iv_lt2 (iv_nle c5) i3 i4 (by decide)
      refine lv_iconst (v := 1) hx hb dX6_hasHerd_12 (by decide) ?_
      refine lv_goto (tgt := 17) hx hb dX6_hasHerd_13 (by decide) ?_
      rw [← hQ]
      exact o_rz cx rx hw (iv_nz01 (iv_w (⟨by decide, by decide⟩ : Iv 1 1 1) (by decide))) dX6_hasHerd_17 ⟨rfl, (iv_w (⟨by decide, by decide⟩ : Iv 1 1 1) (by decide)), (fun _ => iv_w i6 (by decide))⟩
set_option maxHeartbeats 4000000 in
set_option maxRecDepth 100000 in
theorem c_J6_bitCount_0f7a4 (a0 : Int32) : oMet l A L τ cy D K yJ6_bitCount_0f7a4 cJ6_bitCount_0f7a4 1 (some .int) 0 0 [.int a0] σ (va_Qi (fun r σ1 => σ1 = σ ∧ Iv r 0 63) (oPo A L τ cy D) A) := by
  refine oMk (by decide) (Nat.le_of_ble_eq_true rfl) rfl ?_
  intro p e s m args below meth c ls cx rx hA hw hl
  generalize hQ : MQ below _ args s 0 0 A = Q
  have hx := cx.1.1
  have hb := cx.1.2.1
  have hml := cx.1.2.2.1
  have hown := cx.1.2.2.2.1
  have hts := cx.1.2.2.2.2
  have hl : lv_has ls 1 [(0, .int a0)] := hl
  refine lv_iload_n hx hb dJ6_bitCount_0f7a4_0 rfl (lv_at hl 0 rfl) ?_
  refine lv_iload_n hx hb dJ6_bitCount_0f7a4_1 rfl (lv_at hl 0 rfl) ?_
  refine lv_iconst (v := 1) hx hb dJ6_bitCount_0f7a4_2 (by decide) ?_
  refine lv_iushr hx hb dJ6_bitCount_0f7a4_3 rfl ?_
  refine lv_topi (fun v1 e1 => ?_)
  refine lv_ldcw (v := 1431655765) hx hb hown (hts _ k_k_J6_265) dJ6_bitCount_0f7a4_4 ?_
  refine lv_iand hx hb dJ6_bitCount_0f7a4_7 ?_
  refine lv_topi (fun v2 e2 => ?_)
  have i2 : Iv v2 0 1431655765 := iv_and e2 (⟨by decide, by decide⟩ : Iv 1431655765 1431655765 1431655765) (by decide)
  refine lv_isub hx hb dJ6_bitCount_0f7a4_8 ?_
  refine lv_topi (fun v3 e3 => ?_)
  refine lv_istore_n (lv' := [(0, .int v3)]) hx hb dJ6_bitCount_0f7a4_9 rfl hl (by decide) rfl (fun ls hl => ?_)
  refine lv_iload_n hx hb dJ6_bitCount_0f7a4_10 rfl (lv_at hl 0 rfl) ?_
  refine lv_ldcw (v := 858993459) hx hb hown (hts _ k_k_J6_266) dJ6_bitCount_0f7a4_11 ?_
  refine lv_iand hx hb dJ6_bitCount_0f7a4_14 ?_
  refine lv_topi (fun v4 e4 => ?_)
  have i4 : Iv v4 0 858993459 := iv_and e4 (⟨by decide, by decide⟩ : Iv 858993459 858993459 858993459) (by decide)
  refine lv_iload_n hx hb dJ6_bitCount_0f7a4_15 rfl (lv_at hl 0 rfl) ?_
  refine lv_iconst (v := 2) hx hb dJ6_bitCount_0f7a4_16 (by decide) ?_
  refine lv_iushr hx hb dJ6_bitCount_0f7a4_17 rfl ?_
  refine lv_topi (fun v5 e5 => ?_)
  refine lv_ldcw (v := 858993459) hx hb hown (hts _ k_k_J6_266) dJ6_bitCount_0f7a4_18 ?_
  refine lv_iand hx hb dJ6_bitCount_0f7a4_21 ?_
  refine lv_topi (fun v6 e6 => ?_)
  have i6 : Iv v6 0 858993459 := iv_and e6 (⟨by decide, by decide⟩ : Iv 858993459 858993459 858993459) (by decide)
  refine lv_iadd hx hb dJ6_bitCount_0f7a4_22 ?_
  refine lv_topi (fun v7 e7 => ?_)
  have i7 : Iv v7 0 1717986918 := iv_add e7 i4 i6 (by decide)
  have x7 : v7.toInt = v4.toInt + v6.toInt := ex_add e7 i4 i6 (by decide)
  refine lv_istore_n (lv' := [(0, .int v7)]) hx hb dJ6_bitCount_0f7a4_23 rfl hl (by decide) rfl (fun ls hl => ?_)
  refine lv_iload_n hx hb dJ6_bitCount_0f7a4_24 rfl (lv_at hl 0 rfl) ?_
  refine lv_iload_n hx hb dJ6_bitCount_0f7a4_25 rfl (lv_at hl 0 rfl) ?_
  refine lv_iconst (v := 4) hx hb dJ6_bitCount_0f7a4_26 (by decide) ?_
  refine lv_iushr hx hb dJ6_bitCount_0f7a4_27 rfl ?_
  refine lv_topi (fun v8 e8 => ?_)
  refine lv_iadd hx hb dJ6_bitCount_0f7a4_28 ?_
  refine lv_topi (fun v9 e9 => ?_)
  refine lv_ldcw (v := 252645135) hx hb hown (hts _ k_k_J6_267) dJ6_bitCount_0f7a4_29 ?_
  refine lv_iand hx hb dJ6_bitCount_0f7a4_32 ?_
  refine lv_topi (fun v10 e10 => ?_)
  have i10 : Iv v10 0 252645135 := iv_and e10 (⟨by decide, by decide⟩ : Iv 252645135 252645135 252645135) (by decide)
  refine lv_istore_n (lv' := [(0, .int v10)]) hx hb dJ6_bitCount_0f7a4_33 rfl hl (by decide) rfl (fun ls hl => ?_)
  refine lv_iload_n hx hb dJ6_bitCount_0f7a4_34 rfl (lv_at hl 0 rfl) ?_
  refine lv_iload_n hx hb dJ6_bitCount_0f7a4_35 rfl (lv_at hl 0 rfl) ?_
  refine lv_bipush (v := 8) hx hb dJ6_bitCount_0f7a4_36 (by decide) ?_
  refine lv_iushr hx hb dJ6_bitCount_0f7a4_38 rfl ?_
  refine lv_topi (fun v11 e11 => ?_)
  refine lv_iadd hx hb dJ6_bitCount_0f7a4_39 ?_
  refine lv_topi (fun v12 e12 => ?_)
  refine lv_istore_n (lv' := [(0, .int v12)]) hx hb dJ6_bitCount_0f7a4_40 rfl hl (by decide) rfl (fun ls hl => ?_)
  refine lv_iload_n hx hb dJ6_bitCount_0f7a4_41 rfl (lv_at hl 0 rfl) ?_
  refine lv_iload_n hx hb dJ6_bitCount_0f7a4_42 rfl (lv_at hl 0 rfl) ?_
  refine lv_bipush (v := 16) hx hb dJ6_bitCount_0f7a4_43 (by decide) ?_
  refine lv_iushr hx hb dJ6_bitCount_0f7a4_45 rfl ?_
  refine lv_topi (fun v13 e13 => ?_)
  have i13 : Iv v13 0 65535 := iv_ushr16 e13
  refine lv_iadd hx hb dJ6_bitCount_0f7a4_46 ?_
  refine lv_topi (fun v14 e14 => ?_)
  refine lv_istore_n (lv' := [(0, .int v14)]) hx hb dJ6_bitCount_0f7a4_47 rfl hl (by decide) rfl (fun ls hl => ?_)
  refine lv_iload_n hx hb dJ6_bitCount_0f7a4_48 rfl (lv_at hl 0 rfl) ?_
  refine lv_bipush (v := 63) hx hb dJ6_bitCount_0f7a4_49 (by decide) ?_
  refine lv_iand hx hb dJ6_bitCount_0f7a4_51 ?_
  refine lv_topi (fun v15 e15 => ?_)
  have i15 : Iv v15 0 63 := iv_and e15 (⟨by decide, by decide⟩ : Iv 63 63 63) (by decide)
  rw [← hQ]
  exact o_ri cx rx hw dJ6_bitCount_0f7a4_52 ⟨rfl, (iv_w i15 (by decide))⟩
abbrev fs_X5_reckon : List Nat := []
abbrev ts_X5_reckon : List Nat := [37]
set_option maxHeartbeats 4000000 in
set_option maxRecDepth 100000 in
theorem c_X5_reckon (a0 : Nat) (ha0 : oA L τ a0 4) (a1 : Nat) (ha1 : oA L τ a1 38) : oMet l A L τ cy D K yX5_reckon cX5_reckon 7 (some .int) 0 0 [.ref a0, .ref a1] σ (va_Qi (fun r σ1 => oFr τ fs_X5_reckon ts_X5_reckon σ σ1) (oPo A L τ cy D) A) := by
  refine oMk (by decide) (Nat.le_of_ble_eq_true rfl) rfl ?_
  intro p e s m args below meth c ls cx rx hA hw hl
  generalize hQ : MQ below _ args s 0 0 A = Q
  have hx := cx.1.1
  have hb := cx.1.2.1
  have hml := cx.1.2.2.1
  have hown := cx.1.2.2.2.1
  have hts := cx.1.2.2.2.2
  have hl : lv_has ls 7 [(0, .ref a0), (1, .ref a1)] := hl
  have fr : oFr τ fs_X5_reckon ts_X5_reckon σ σ := oFr_rf
  refine lv_iconst (v := 0) hx hb dX5_reckon_0 (by decide) ?_
  refine lv_istore_n (lv' := [(2, .int 0), (0, .ref a0), (1, .ref a1)]) hx hb dX5_reckon_1 rfl hl (by decide) rfl (fun ls hl => ?_)
  refine lv_aload_n hx hb dX5_reckon_2 rfl (lv_at hl 1 rfl) ?_
  refine g_262 cx hw ha0 k_f_X5_21 dX5_reckon_3 (fun v1 e1 h1 => ?_)
  refine lv_iconst (v := 0) hx hb dX5_reckon_6 (by decide) ?_
  refine lv_iconst (v := 0) hx hb dX5_reckon_7 (by decide) ?_
  refine o_iast cx hw h1 (by decide) rfl (iv_in (⟨by decide, by decide⟩ : Iv 0 0 0) (by decide)) trivial dX5_reckon_8 (fun σ2 H locs eσ2 hw => ?_)
  have fr := oFr_p fr eσ2 h1 (by decide)
  refine lv_iconst (v := 0) hx hb dX5_reckon_9 (by decide) ?_
  refine lv_istore_n (lv' := [(3, .int 0), (2, .int 0), (0, .ref a0), (1, .ref a1)]) hx hb dX5_reckon_10 rfl hl (by decide) rfl (fun ls hl => ?_)
  have frE_11 := fr
  have J_11 : ∀ n11 : Nat, ∀ (j11_2 : Int32) (ij11_2 : Iv j11_2 0 40) (j11_3 : Int32) (ij11_3 : Iv j11_3 0 40), ∀ (σ_11 : oSt) (H : Heap) (locs : List Loc), oI A L τ cy D s.heap σ_11 H locs → oFr τ fs_X5_reckon ts_X5_reckon σ σ_11 → (40 - j11_3.toInt).toNat < n11 → j11_2.toInt ≤ j11_3.toInt + 0 → ∀ (ls : Array Slot), lv_has ls 7 [(0, .ref a0), (1, .ref a1), (2, .int j11_2), (3, .int j11_3)] → W p l e ({ frames := 0, cells := 0, slots := 0, locals := 0 } : Room) s m args below meth c H locs 0 0 Q (F0 m 11 ls []) := by
    intro n11
    induction n11 with
    | zero => intro j11_2 ij11_2 j11_3 ij11_3 σ_11 H locs hw fr   hn_11   le11_0 ls hl; exact absurd hn_11 (Nat.not_lt_zero _)
    | succ n11 ih_11 =>
      intro j11_2 ij11_2 j11_3 ij11_3 σ_11 H locs hw fr   hn_11   le11_0 ls hl
      have fr_11 := fr
      refine lv_iload_n hx hb dX5_reckon_11 rfl (lv_at hl 3 rfl) ?_
      refine lv_aload_n hx hb dX5_reckon_12 rfl (lv_at hl 0 rfl) ?_
      refine g_257 cx hw ha0 k_f_X5_60 dX5_reckon_13 (fun v3 e3 i3 => ?_)
      refine lv_icmp_ge (tgt := 329) hx hb dX5_reckon_16 (by decide) (fun c4 => ?_) (fun c4 => ?_)
      · --
        refine lv_aload_n hx hb dX5_reckon_329 rfl (lv_at hl 0 rfl) ?_
        refine g_262 cx hw ha0 k_f_X5_21 dX5_reckon_330 (fun v5 e5 h5 => ?_)
        rw [show v5 = v1 from Option.some.inj (e5.symm.trans (((kr_c fr_11 (by decide)).trans ((kr_c frE_11 (by decide)).symm.trans (((kr_p eσ2).trans e1))))))]
        refine lv_iconst (v := 0) hx hb dX5_reckon_333 (by decide) ?_
        refine o_iald cx hw h1 (by decide) rfl (iv_in (⟨by decide, by decide⟩ : Iv 0 0 0) (by decide)) dX5_reckon_334 (fun v6 e6 b6 => ?_)
        rw [← hQ]
        exact o_ri cx rx hw dX5_reckon_335 fr
      · --
        have i7 : Iv j11_3 0 39 := iv_lt1 (iv_nle c4) ij11_3 i3 (by decide)
        have i8 : Iv j11_2 0 39 := iv_leh le11_0 ij11_2 i7 (by decide)
        have i9 : Iv v3 1 40 := iv_lt2 (iv_nle c4) ij11_3 i3 (by decide)
        refine lv_aload_n hx hb dX5_reckon_19 rfl (lv_at hl 0 rfl) ?_
        refine g_256 cx hw ha0 k_f_X5_9 dX5_reckon_20 (fun v10 e10 h10 => ?_)
        refine lv_iload_n hx hb dX5_reckon_23 rfl (lv_at hl 3 rfl) ?_
        refine o_iald cx hw h10 (by decide) rfl (iv_in i7 (by decide)) dX5_reckon_24 (fun v11 e11 b11 => ?_)
        refine lv_istore (lv' := [(4, .int v11), (0, .ref a0), (1, .ref a1), (2, .int j11_2), (3, .int j11_3)]) hx hb dX5_reckon_25 hl (by decide) rfl (fun ls hl => ?_)
        refine lv_iload hx hb dX5_reckon_27 (lv_at hl 0 rfl) ?_
        refine lv_aload_n hx hb dX5_reckon_29 rfl (lv_at hl 2 rfl) ?_
        refine o_alen (v := 9) cx hw ha1 (by decide) rfl (by decide) dX5_reckon_30 ?_
        have frE_323 := fr
        have J_323 : ∀ (j323_2 : Int32) (ij323_2 : Iv j323_2 0 40), ∀ (σ_323 : oSt) (H : Heap) (locs : List Loc), oI A L τ cy D s.heap σ_323 H locs → oFr τ fs_X5_reckon ts_X5_reckon σ σ_323 → j323_2.toInt ≤ j11_3.toInt + 1 → ∀ (ls : Array Slot), lv_has ls 7 [(0, .ref a0), (1, .ref a1), (2, .int j323_2), (3, .int j11_3), (4, .int v11)] → W p l e ({ frames := 0, cells := 0, slots := 0, locals := 0 } : Room) s m args below meth c H locs 0 0 Q (F0 m 323 ls []) := by
          intro j323_2 ij323_2 σ_323 H locs hw fr      le323_0 ls hl
          have fr_323 := fr
          obtain ⟨v12, e12⟩ : ∃ y : Int32, y = j11_3 + 1 := ⟨_, rfl⟩
          have i12 : Iv v12 1 40 := iv_add e12 i7 (⟨by decide, by decide⟩ : Iv 1 1 1) (by decide)
          have x12 : v12.toInt = j11_3.toInt + 1 := ex_add e12 i7 (⟨by decide, by decide⟩ : Iv 1 1 1) (by decide)
          refine lv_iinc (v := v12) (lv' := [(3, .int v12), (0, .ref a0), (1, .ref a1), (2, .int j323_2), (4, .int v11)]) hx hb dX5_reckon_323 hl (k := 3) rfl (by rw [e12]; rfl) (by decide) rfl (fun ls hl => ?_)
          refine lv_goto (tgt := 11) hx hb dX5_reckon_326 (by decide) ?_
          exact ih_11 j323_2 ij323_2 v12 (iv_w i12 (by decide)) σ_323 _ _ hw fr (ms_up x12 (by decide) (iv_w (a' := 0) (b' := 40) i12 (by decide)).2 hn_11) (le_lin (Int.add_zero _).symm x12 le323_0 (by decide)) _ (lv_sub hl [1, 2, 3, 0] rfl)
        refine lv_icmp_gt (tgt := 63) hx hb dX5_reckon_31 (by decide) (fun c13 => ?_) (fun c13 => ?_)
        · --
          have i14 : Iv v11 10 2147483647 := iv_lt2 c13 (⟨by decide, by decide⟩ : Iv 9 9 9) (iv_top v11) (by decide)
          refine lv_iload hx hb dX5_reckon_63 (lv_at hl 0 rfl) ?_
          refine lv_sipush (v := 256) hx hb dX5_reckon_65 (by decide) ?_
          have J_96 : ∀ (H : Heap) (locs : List Loc), oI A L τ cy D s.heap σ_11 H locs → ∀ (ls : Array Slot), lv_has ls 7 [(0, .ref a0), (1, .ref a1), (2, .int j11_2), (3, .int j11_3), (4, .int v11)] → W p l e ({ frames := 0, cells := 0, slots := 0, locals := 0 } : Room) s m args below meth c H locs 0 0 Q (F0 m 96 ls []) := by
            intro  H locs hw     ls hl
            refine lv_iload_n hx hb dX5_reckon_96 rfl (lv_at hl 2 rfl) ?_
            refine lv_iconst (v := 2) hx hb dX5_reckon_97 (by decide) ?_
            refine lv_icmp_lt (tgt := 323) hx hb dX5_reckon_98 (by decide) (fun c15 => ?_) (fun c15 => ?_)
            · --
              have i16 : Iv j11_2 0 1 := iv_lt1 c15 i8 (⟨by decide, by decide⟩ : Iv 2 2 2) (by decide)
              exact J_323 j11_2 (iv_w i16 (by decide)) σ_11 _ _ hw fr (le_iv i16 i7 (by decide)) _ (lv_sub hl [0, 1, 2, 3, 4] rfl)
            · --
              have i17 : Iv j11_2 2 39 := iv_le2 (iv_nlt c15) (⟨by decide, by decide⟩ : Iv 2 2 2) i8 (by decide)
              have i18 : Iv j11_3 2 39 := iv_lel le11_0 i17 i7 (by decide)
              refine lv_aload_n hx hb dX5_reckon_101 rfl (lv_at hl 0 rfl) ?_
              refine g_262 cx hw ha0 k_f_X5_21 dX5_reckon_102 (fun v19 e19 h19 => ?_)
              rw [show v19 = v1 from Option.some.inj (e19.symm.trans (((kr_c fr_11 (by decide)).trans ((kr_c frE_11 (by decide)).symm.trans (((kr_p eσ2).trans e1))))))]
              refine lv_iload_n hx hb dX5_reckon_105 rfl (lv_at hl 2 rfl) ?_
              refine lv_iconst (v := 1) hx hb dX5_reckon_106 (by decide) ?_
              refine lv_isub hx hb dX5_reckon_107 ?_
              refine lv_topi (fun v20 e20 => ?_)
              have i20 : Iv v20 1 38 := iv_sub e20 i17 (⟨by decide, by decide⟩ : Iv 1 1 1) (by decide)
              have x20 : v20.toInt = j11_2.toInt + (-1) := ex_sub e20 i17 (⟨by decide, by decide⟩ : Iv 1 1 1) (by decide)
              refine o_iald cx hw h1 (by decide) rfl (iv_in i20 (by decide)) dX5_reckon_108 (fun v21 e21 b21 => ?_)
              refine lv_istore (lv' := [(5, .int v21), (0, .ref a0), (1, .ref a1), (2, .int j11_2), (3, .int j11_3), (4, .int v11)]) hx hb dX5_reckon_109 hl (by decide) rfl (fun ls hl => ?_)
              refine lv_aload_n hx hb dX5_reckon_111 rfl (lv_at hl 1 rfl) ?_
              refine g_262 cx hw ha0 k_f_X5_21 dX5_reckon_112 (fun v22 e22 h22 => ?_)
              rw [show v22 = v1 from Option.some.inj (e22.symm.trans (((kr_c fr_11 (by decide)).trans ((kr_c frE_11 (by decide)).symm.trans (((kr_p eσ2).trans e1))))))]
              refine lv_iload_n hx hb dX5_reckon_115 rfl (lv_at hl 3 rfl) ?_
              refine lv_iconst (v := 2) hx hb dX5_reckon_116 (by decide) ?_
              refine lv_isub hx hb dX5_reckon_117 ?_
              refine lv_topi (fun v23 e23 => ?_)
              have i23 : Iv v23 0 37 := iv_sub e23 i17 (⟨by decide, by decide⟩ : Iv 2 2 2) (by decide)
              have x23 : v23.toInt = j11_2.toInt + (-2) := ex_sub e23 i17 (⟨by decide, by decide⟩ : Iv 2 2 2) (by decide)
              refine o_iald cx hw h1 (by decide) rfl (iv_in i23 (by decide)) dX5_reckon_118 (fun v24 e24 b24 => ?_)
              refine lv_istore (lv' := [(6, .int v24), (5, .int v21), (0, .ref a0), (1, .ref a1), (2, .int j11_2), (3, .int j11_3), (4, .int v11)]) hx hb dX5_reckon_119 hl (by decide) rfl (fun ls hl => ?_)
              obtain ⟨v25, e25⟩ : ∃ y : Int32, y = j11_2 + (-1) := ⟨_, rfl⟩
              have i25 : Iv v25 1 38 := iv_add e25 i17 (⟨by decide, by decide⟩ : Iv (-1) (-1) (-1)) (by decide)
              have x25 : v25.toInt = j11_2.toInt + (-1) := ex_add e25 i17 (⟨by decide, by decide⟩ : Iv (-1) (-1) (-1)) (by decide)
              refine lv_iinc (v := v25) (lv' := [(2, .int v25), (6, .int v24), (5, .int v21), (0, .ref a0), (1, .ref a1), (3, .int j11_3), (4, .int v11)]) hx hb dX5_reckon_121 hl (k := 4) rfl (by rw [e25]; rfl) (by decide) rfl (fun ls hl => ?_)
              refine lv_iload hx hb dX5_reckon_124 (lv_at hl 6 rfl) ?_
              by_cases q26 : v11 = 42
              · --
                refine lv_lookup (off := 159) (tgt := 285) hx hb dX5_reckon_126 (by decide) (by rw [q26] <;> decide) (by decide) ?_
                have i27 : Iv v11 42 42 := iv_eq1 q26 i14 (⟨by decide, by decide⟩ : Iv 42 42 42) (by decide)
                refine lv_aload_n hx hb dX5_reckon_285 rfl (lv_at hl 3 rfl) ?_
                refine g_262 cx hw ha0 k_f_X5_21 dX5_reckon_286 (fun v28 e28 h28 => ?_)
                rw [show v28 = v1 from Option.some.inj (e28.symm.trans (((kr_c fr_11 (by decide)).trans ((kr_c frE_11 (by decide)).symm.trans (((kr_p eσ2).trans e1))))))]
                refine lv_iload_n hx hb dX5_reckon_289 rfl (lv_at hl 0 rfl) ?_
                refine lv_iconst (v := 1) hx hb dX5_reckon_290 (by decide) ?_
                refine lv_isub hx hb dX5_reckon_291 ?_
                refine lv_topi (fun v29 e29 => ?_)
                have i29 : Iv v29 0 37 := iv_sub e29 i25 (⟨by decide, by decide⟩ : Iv 1 1 1) (by decide)
                have x29 : v29.toInt = v25.toInt + (-1) := ex_sub e29 i25 (⟨by decide, by decide⟩ : Iv 1 1 1) (by decide)
                refine lv_iload hx hb dX5_reckon_292 (lv_at hl 1 rfl) ?_
                refine lv_iload hx hb dX5_reckon_294 (lv_at hl 2 rfl) ?_
                refine lv_imul hx hb dX5_reckon_296 ?_
                refine lv_topi (fun v30 e30 => ?_)
                refine o_iast cx hw h1 (by decide) rfl (iv_in i29 (by decide)) trivial dX5_reckon_297 (fun σ31 H locs eσ31 hw => ?_)
                have fr := oFr_p fr eσ31 h1 (by decide)
                refine lv_goto (tgt := 323) hx hb dX5_reckon_298 (by decide) ?_
                exact J_323 v25 (iv_w i25 (by decide)) σ31 _ _ hw fr (le_lin x25 (Int.add_zero _).symm le11_0 (by decide)) _ (lv_sub hl [3, 4, 0, 5, 6] rfl)
              by_cases q32 : v11 = 43
              · --
                refine lv_lookup (off := 127) (tgt := 253) hx hb dX5_reckon_126 (by decide) (by rw [q32] <;> decide) (by decide) ?_
                have i33 : Iv v11 43 43 := iv_eq1 q32 i14 (⟨by decide, by decide⟩ : Iv 43 43 43) (by decide)
                refine lv_aload_n hx hb dX5_reckon_253 rfl (lv_at hl 3 rfl) ?_
                refine g_262 cx hw ha0 k_f_X5_21 dX5_reckon_254 (fun v34 e34 h34 => ?_)
                rw [show v34 = v1 from Option.some.inj (e34.symm.trans (((kr_c fr_11 (by decide)).trans ((kr_c frE_11 (by decide)).symm.trans (((kr_p eσ2).trans e1))))))]
                refine lv_iload_n hx hb dX5_reckon_257 rfl (lv_at hl 0 rfl) ?_
                refine lv_iconst (v := 1) hx hb dX5_reckon_258 (by decide) ?_
                refine lv_isub hx hb dX5_reckon_259 ?_
                refine lv_topi (fun v35 e35 => ?_)
                have i35 : Iv v35 0 37 := iv_sub e35 i25 (⟨by decide, by decide⟩ : Iv 1 1 1) (by decide)
                have x35 : v35.toInt = v25.toInt + (-1) := ex_sub e35 i25 (⟨by decide, by decide⟩ : Iv 1 1 1) (by decide)
                refine lv_iload hx hb dX5_reckon_260 (lv_at hl 1 rfl) ?_
                refine lv_iload hx hb dX5_reckon_262 (lv_at hl 2 rfl) ?_
                refine lv_iadd hx hb dX5_reckon_264 ?_
                refine lv_topi (fun v36 e36 => ?_)
                refine o_iast cx hw h1 (by decide) rfl (iv_in i35 (by decide)) trivial dX5_reckon_265 (fun σ37 H locs eσ37 hw => ?_)
                have fr := oFr_p fr eσ37 h1 (by decide)
                refine lv_goto (tgt := 323) hx hb dX5_reckon_266 (by decide) ?_
                exact J_323 v25 (iv_w i25 (by decide)) σ37 _ _ hw fr (le_lin x25 (Int.add_zero _).symm le11_0 (by decide)) _ (lv_sub hl [3, 4, 0, 5, 6] rfl)
              by_cases q38 : v11 = 45
              · --
                refine lv_lookup (off := 143) (tgt := 269) hx hb dX5_reckon_126 (by decide) (by rw [q38] <;> decide) (by decide) ?_
                have i39 : Iv v11 45 45 := iv_eq1 q38 i14 (⟨by decide, by decide⟩ : Iv 45 45 45) (by decide)
                refine lv_aload_n hx hb dX5_reckon_269 rfl (lv_at hl 3 rfl) ?_
                refine g_262 cx hw ha0 k_f_X5_21 dX5_reckon_270 (fun v40 e40 h40 => ?_)
                rw [show v40 = v1 from Option.some.inj (e40.symm.trans (((kr_c fr_11 (by decide)).trans ((kr_c frE_11 (by decide)).symm.trans (((kr_p eσ2).trans e1))))))]
                refine lv_iload_n hx hb dX5_reckon_273 rfl (lv_at hl 0 rfl) ?_
                refine lv_iconst (v := 1) hx hb dX5_reckon_274 (by decide) ?_
                refine lv_isub hx hb dX5_reckon_275 ?_
                refine lv_topi (fun v41 e41 => ?_)
                have i41 : Iv v41 0 37 := iv_sub e41 i25 (⟨by decide, by decide⟩ : Iv 1 1 1) (by decide)
                have x41 : v41.toInt = v25.toInt + (-1) := ex_sub e41 i25 (⟨by decide, by decide⟩ : Iv 1 1 1) (by decide)
                refine lv_iload hx hb dX5_reckon_276 (lv_at hl 1 rfl) ?_
                refine lv_iload hx hb dX5_reckon_278 (lv_at hl 2 rfl) ?_
                refine lv_isub hx hb dX5_reckon_280 ?_
                refine lv_topi (fun v42 e42 => ?_)
                refine o_iast cx hw h1 (by decide) rfl (iv_in i41 (by decide)) trivial dX5_reckon_281 (fun σ43 H locs eσ43 hw => ?_)
                have fr := oFr_p fr eσ43 h1 (by decide)
                refine lv_goto (tgt := 323) hx hb dX5_reckon_282 (by decide) ?_
                exact J_323 v25 (iv_w i25 (by decide)) σ43 _ _ hw fr (le_lin x25 (Int.add_zero _).symm le11_0 (by decide)) _ (lv_sub hl [3, 4, 0, 5, 6] rfl)
              by_cases q44 : v11 = 60
              · --
                refine lv_lookup (off := 58) (tgt := 184) hx hb dX5_reckon_126 (by decide) (by rw [q44] <;> decide) (by decide) ?_
                have i45 : Iv v11 60 60 := iv_eq1 q44 i14 (⟨by decide, by decide⟩ : Iv 60 60 60) (by decide)
                refine lv_aload_n hx hb dX5_reckon_184 rfl (lv_at hl 3 rfl) ?_
                refine g_262 cx hw ha0 k_f_X5_21 dX5_reckon_185 (fun v46 e46 h46 => ?_)
                rw [show v46 = v1 from Option.some.inj (e46.symm.trans (((kr_c fr_11 (by decide)).trans ((kr_c frE_11 (by decide)).symm.trans (((kr_p eσ2).trans e1))))))]
                refine lv_iload_n hx hb dX5_reckon_188 rfl (lv_at hl 0 rfl) ?_
                refine lv_iconst (v := 1) hx hb dX5_reckon_189 (by decide) ?_
                refine lv_isub hx hb dX5_reckon_190 ?_
                refine lv_topi (fun v47 e47 => ?_)
                have i47 : Iv v47 0 37 := iv_sub e47 i25 (⟨by decide, by decide⟩ : Iv 1 1 1) (by decide)
                have x47 : v47.toInt = v25.toInt + (-1) := ex_sub e47 i25 (⟨by decide, by decide⟩ : Iv 1 1 1) (by decide)
                refine lv_iload hx hb dX5_reckon_191 (lv_at hl 1 rfl) ?_
                refine lv_iload hx hb dX5_reckon_193 (lv_at hl 2 rfl) ?_
                have J_203 : ∀ (k203_2 : Int32) (ik203_2 : Iv k203_2 0 1), ∀ (H : Heap) (locs : List Loc), oI A L τ cy D s.heap σ_11 H locs → ∀ (ls : Array Slot), lv_has ls 7 [(0, .ref a0), (1, .ref a1), (2, .int v25), (3, .int j11_3), (4, .int v11), (5, .int v21), (6, .int v24)] → W p l e ({ frames := 0, cells := 0, slots := 0, locals := 0 } : Room) s m args below meth c H locs 0 0 Q (F0 m 203 ls [.int k203_2, .int v47, .ref v1]) := by
                  intro k203_2 ik203_2 H locs hw     ls hl
                  refine o_iast cx hw h1 (by decide) rfl (iv_in i47 (by decide)) trivial dX5_reckon_203 (fun σ48 H locs eσ48 hw => ?_)
                  have fr := oFr_p fr eσ48 h1 (by decide)
                  refine lv_goto (tgt := 323) hx hb dX5_reckon_204 (by decide) ?_
                  exact J_323 v25 (iv_w i25 (by decide)) σ48 _ _ hw fr (le_lin x25 (Int.add_zero _).symm le11_0 (by decide)) _ (lv_sub hl [0, 1, 2, 3, 4] rfl)
                refine lv_icmp_ge (tgt := 202) hx hb dX5_reckon_195 (by decide) (fun c49 => ?_) (fun c49 => ?_)
                · --
                  refine lv_iconst (v := 0) hx hb dX5_reckon_202 (by decide) ?_
                  exact J_203 0 (iv_w (⟨by decide, by decide⟩ : Iv 0 0 0) (by decide)) _ _ hw _ (lv_sub hl [3, 4, 0, 5, 6, 2, 1] rfl)
                · --
                  have i50 : Iv v24 (-2147483648) 2147483646 := iv_lt1 (iv_nle c49) (iv_top v24) (iv_top v21) (by decide)
                  have i51 : Iv v21 (-2147483647) 2147483647 := iv_lt2 (iv_nle c49) (iv_top v24) (iv_top v21) (by decide)
                  refine lv_iconst (v := 1) hx hb dX5_reckon_198 (by decide) ?_
                  refine lv_goto (tgt := 203) hx hb dX5_reckon_199 (by decide) ?_
                  exact J_203 1 (iv_w (⟨by decide, by decide⟩ : Iv 1 1 1) (by decide)) _ _ hw _ (lv_sub hl [3, 4, 0, 5, 6, 2, 1] rfl)
              by_cases q52 : v11 = 61
              · --
                refine lv_lookup (off := 104) (tgt := 230) hx hb dX5_reckon_126 (by decide) (by rw [q52] <;> decide) (by decide) ?_
                have i53 : Iv v11 61 61 := iv_eq1 q52 i14 (⟨by decide, by decide⟩ : Iv 61 61 61) (by decide)
                refine lv_aload_n hx hb dX5_reckon_230 rfl (lv_at hl 3 rfl) ?_
                refine g_262 cx hw ha0 k_f_X5_21 dX5_reckon_231 (fun v54 e54 h54 => ?_)
                rw [show v54 = v1 from Option.some.inj (e54.symm.trans (((kr_c fr_11 (by decide)).trans ((kr_c frE_11 (by decide)).symm.trans (((kr_p eσ2).trans e1))))))]
                refine lv_iload_n hx hb dX5_reckon_234 rfl (lv_at hl 0 rfl) ?_
                refine lv_iconst (v := 1) hx hb dX5_reckon_235 (by decide) ?_
                refine lv_isub hx hb dX5_reckon_236 ?_
                refine lv_topi (fun v55 e55 => ?_)
                have i55 : Iv v55 0 37 := iv_sub e55 i25 (⟨by decide, by decide⟩ : Iv 1 1 1) (by decide)
                have x55 : v55.toInt = v25.toInt + (-1) := ex_sub e55 i25 (⟨by decide, by decide⟩ : Iv 1 1 1) (by decide)
                refine lv_iload hx hb dX5_reckon_237 (lv_at hl 1 rfl) ?_
                refine lv_iload hx hb dX5_reckon_239 (lv_at hl 2 rfl) ?_
                have J_249 : ∀ (k249_2 : Int32) (ik249_2 : Iv k249_2 0 1), ∀ (H : Heap) (locs : List Loc), oI A L τ cy D s.heap σ_11 H locs → ∀ (ls : Array Slot), lv_has ls 7 [(0, .ref a0), (1, .ref a1), (2, .int v25), (3, .int j11_3), (4, .int v11), (5, .int v21), (6, .int v24)] → W p l e ({ frames := 0, cells := 0, slots := 0, locals := 0 } : Room) s m args below meth c H locs 0 0 Q (F0 m 249 ls [.int k249_2, .int v55, .ref v1]) := by
                  intro k249_2 ik249_2 H locs hw     ls hl
                  refine o_iast cx hw h1 (by decide) rfl (iv_in i55 (by decide)) trivial dX5_reckon_249 (fun σ56 H locs eσ56 hw => ?_)
                  have fr := oFr_p fr eσ56 h1 (by decide)
                  refine lv_goto (tgt := 323) hx hb dX5_reckon_250 (by decide) ?_
                  exact J_323 v25 (iv_w i25 (by decide)) σ56 _ _ hw fr (le_lin x25 (Int.add_zero _).symm le11_0 (by decide)) _ (lv_sub hl [0, 1, 2, 3, 4] rfl)
                refine lv_icmp_ne (tgt := 248) hx hb dX5_reckon_241 (by decide) (fun c57 => ?_) (fun c57 => ?_)
                · --
                  refine lv_iconst (v := 0) hx hb dX5_reckon_248 (by decide) ?_
                  exact J_249 0 (iv_w (⟨by decide, by decide⟩ : Iv 0 0 0) (by decide)) _ _ hw _ (lv_sub hl [3, 4, 0, 5, 6, 2, 1] rfl)
                · --
                  refine lv_iconst (v := 1) hx hb dX5_reckon_244 (by decide) ?_
                  refine lv_goto (tgt := 249) hx hb dX5_reckon_245 (by decide) ?_
                  exact J_249 1 (iv_w (⟨by decide, by decide⟩ : Iv 1 1 1) (by decide)) _ _ hw _ (lv_sub hl [3, 4, 0, 5, 6, 2, 1] rfl)
              by_cases q58 : v11 = 62
              · --
                refine lv_lookup (off := 81) (tgt := 207) hx hb dX5_reckon_126 (by decide) (by rw [q58] <;> decide) (by decide) ?_
                have i59 : Iv v11 62 62 := iv_eq1 q58 i14 (⟨by decide, by decide⟩ : Iv 62 62 62) (by decide)
                refine lv_aload_n hx hb dX5_reckon_207 rfl (lv_at hl 3 rfl) ?_
                refine g_262 cx hw ha0 k_f_X5_21 dX5_reckon_208 (fun v60 e60 h60 => ?_)
                rw [show v60 = v1 from Option.some.inj (e60.symm.trans (((kr_c fr_11 (by decide)).trans ((kr_c frE_11 (by decide)).symm.trans (((kr_p eσ2).trans e1))))))]
                refine lv_iload_n hx hb dX5_reckon_211 rfl (lv_at hl 0 rfl) ?_
                refine lv_iconst (v := 1) hx hb dX5_reckon_212 (by decide) ?_
                refine lv_isub hx hb dX5_reckon_213 ?_
                refine lv_topi (fun v61 e61 => ?_)
                have i61 : Iv v61 0 37 := iv_sub e61 i25 (⟨by decide, by decide⟩ : Iv 1 1 1) (by decide)
                have x61 : v61.toInt = v25.toInt + (-1) := ex_sub e61 i25 (⟨by decide, by decide⟩ : Iv 1 1 1) (by decide)
                refine lv_iload hx hb dX5_reckon_214 (lv_at hl 1 rfl) ?_
                refine lv_iload hx hb dX5_reckon_216 (lv_at hl 2 rfl) ?_
                have J_226 : ∀ (k226_2 : Int32) (ik226_2 : Iv k226_2 0 1), ∀ (H : Heap) (locs : List Loc), oI A L τ cy D s.heap σ_11 H locs → ∀ (ls : Array Slot), lv_has ls 7 [(0, .ref a0), (1, .ref a1), (2, .int v25), (3, .int j11_3), (4, .int v11), (5, .int v21), (6, .int v24)] → W p l e ({ frames := 0, cells := 0, slots := 0, locals := 0 } : Room) s m args below meth c H locs 0 0 Q (F0 m 226 ls [.int k226_2, .int v61, .ref v1]) := by
                  intro k226_2 ik226_2 H locs hw     ls hl
                  refine o_iast cx hw h1 (by decide) rfl (iv_in i61 (by decide)) trivial dX5_reckon_226 (fun σ62 H locs eσ62 hw => ?_)
                  have fr := oFr_p fr eσ62 h1 (by decide)
                  refine lv_goto (tgt := 323) hx hb dX5_reckon_227 (by decide) ?_
                  exact J_323 v25 (iv_w i25 (by decide)) σ62 _ _ hw fr (le_lin x25 (Int.add_zero _).symm le11_0 (by decide)) _ (lv_sub hl [0, 1, 2, 3, 4] rfl)
                refine lv_icmp_le (tgt := 225) hx hb dX5_reckon_218 (by decide) (fun c63 => ?_) (fun c63 => ?_)
                · --
                  refine lv_iconst (v := 0) hx hb dX5_reckon_225 (by decide) ?_
                  exact J_226 0 (iv_w (⟨by decide, by decide⟩ : Iv 0 0 0) (by decide)) _ _ hw _ (lv_sub hl [3, 4, 0, 5, 6, 2, 1] rfl)
                · --
                  have i64 : Iv v21 (-2147483648) 2147483646 := iv_lt1 (iv_nle c63) (iv_top v21) (iv_top v24) (by decide)
                  have i65 : Iv v24 (-2147483647) 2147483647 := iv_lt2 (iv_nle c63) (iv_top v21) (iv_top v24) (by decide)
                  refine lv_iconst (v := 1) hx hb dX5_reckon_221 (by decide) ?_
                  refine lv_goto (tgt := 226) hx hb dX5_reckon_222 (by decide) ?_
                  exact J_226 1 (iv_w (⟨by decide, by decide⟩ : Iv 1 1 1) (by decide)) _ _ hw _ (lv_sub hl [3, 4, 0, 5, 6, 2, 1] rfl)
              have q26 := iv_nt q26 (k := 42) (by decide)
              have q32 := iv_nt q32 (k := 43) (by decide)
              have q38 := iv_nt q38 (k := 45) (by decide)
              have q44 := iv_nt q44 (k := 60) (by decide)
              have q52 := iv_nt q52 (k := 61) (by decide)
              have q58 := iv_nt q58 (k := 62) (by decide)
              refine lv_lookup (off := 175) (tgt := 301) hx hb dX5_reckon_126 (by decide) (by simp [Op.lookupswitch.offset, q26, Ne.symm q26, q32, Ne.symm q32, q38, Ne.symm q38, q44, Ne.symm q44, q52, Ne.symm q52, q58, Ne.symm q58]) (by decide) ?_
              refine lv_aload_n hx hb dX5_reckon_301 rfl (lv_at hl 3 rfl) ?_
              refine g_262 cx hw ha0 k_f_X5_21 dX5_reckon_302 (fun v66 e66 h66 => ?_)
              rw [show v66 = v1 from Option.some.inj (e66.symm.trans (((kr_c fr_11 (by decide)).trans ((kr_c frE_11 (by decide)).symm.trans (((kr_p eσ2).trans e1))))))]
              refine lv_iload_n hx hb dX5_reckon_305 rfl (lv_at hl 0 rfl) ?_
              refine lv_iconst (v := 1) hx hb dX5_reckon_306 (by decide) ?_
              refine lv_isub hx hb dX5_reckon_307 ?_
              refine lv_topi (fun v67 e67 => ?_)
              have i67 : Iv v67 0 37 := iv_sub e67 i25 (⟨by decide, by decide⟩ : Iv 1 1 1) (by decide)
              have x67 : v67.toInt = v25.toInt + (-1) := ex_sub e67 i25 (⟨by decide, by decide⟩ : Iv 1 1 1) (by decide)
              refine lv_iload hx hb dX5_reckon_308 (lv_at hl 2 rfl) ?_
              have J_322 : ∀ (k322_2 : Int32), ∀ (H : Heap) (locs : List Loc), oI A L τ cy D s.heap σ_11 H locs → ∀ (ls : Array Slot), lv_has ls 7 [(0, .ref a0), (1, .ref a1), (2, .int v25), (3, .int j11_3), (4, .int v11), (5, .int v21), (6, .int v24)] → W p l e ({ frames := 0, cells := 0, slots := 0, locals := 0 } : Room) s m args below meth c H locs 0 0 Q (F0 m 322 ls [.int k322_2, .int v67, .ref v1]) := by
                intro k322_2 H locs hw     ls hl
                refine o_iast cx hw h1 (by decide) rfl (iv_in i67 (by decide)) trivial dX5_reckon_322 (fun σ68 H locs eσ68 hw => ?_)
                have fr := oFr_p fr eσ68 h1 (by decide)
                exact J_323 v25 (iv_w i25 (by decide)) σ68 _ _ hw fr (le_lin x25 (Int.add_zero _).symm le11_0 (by decide)) _ (lv_sub hl [0, 1, 2, 3, 4] rfl)
              refine lv_if_ne (tgt := 317) hx hb dX5_reckon_310 (by decide) (fun c69 => ?_) (fun c69 => ?_)
              · --
                refine lv_iload hx hb dX5_reckon_317 (lv_at hl 1 rfl) ?_
                refine lv_iload hx hb dX5_reckon_319 (lv_at hl 2 rfl) ?_
                refine lv_idiv hx hb dX5_reckon_321 c69 ?_
                refine lv_topi (fun v70 e70 => ?_)
                exact J_322 v70 _ _ hw _ (lv_sub hl [3, 4, 0, 5, 6, 2, 1] rfl)
              · --
                have i71 : Iv v21 0 0 := iv_eq1 c69 (iv_top v21) (⟨by decide, by decide⟩ : Iv 0 0 0) (by decide)
                refine lv_iconst (v := 0) hx hb dX5_reckon_313 (by decide) ?_
                refine lv_goto (tgt := 322) hx hb dX5_reckon_314 (by decide) ?_
                exact J_322 0 _ _ hw _ (lv_sub hl [3, 4, 0, 5, 6, 2, 1] rfl)
          refine lv_icmp_ne (tgt := 96) hx hb dX5_reckon_68 (by decide) (fun c72 => ?_) (fun c72 => ?_)
          · --
            exact J_96 _ _ hw _ (lv_sub hl [1, 2, 3, 4, 0] rfl)
          · --
            have i73 : Iv v11 256 256 := iv_eq1 c72 i14 (⟨by decide, by decide⟩ : Iv 256 256 256) (by decide)
            refine lv_iload_n hx hb dX5_reckon_71 rfl (lv_at hl 3 rfl) ?_
            refine lv_iconst (v := 1) hx hb dX5_reckon_72 (by decide) ?_
            refine lv_icmp_lt (tgt := 96) hx hb dX5_reckon_73 (by decide) (fun c74 => ?_) (fun c74 => ?_)
            · --
              have i75 : Iv j11_2 0 0 := iv_lt1 c74 i8 (⟨by decide, by decide⟩ : Iv 1 1 1) (by decide)
              exact J_96 _ _ hw _ (lv_sub hl [1, 2, 3, 4, 0] rfl)
            · --
              have i76 : Iv j11_2 1 39 := iv_le2 (iv_nlt c74) (⟨by decide, by decide⟩ : Iv 1 1 1) i8 (by decide)
              have i77 : Iv j11_3 1 39 := iv_lel le11_0 i76 i7 (by decide)
              refine lv_aload_n hx hb dX5_reckon_76 rfl (lv_at hl 1 rfl) ?_
              refine g_262 cx hw ha0 k_f_X5_21 dX5_reckon_77 (fun v78 e78 h78 => ?_)
              rw [show v78 = v1 from Option.some.inj (e78.symm.trans (((kr_c fr_11 (by decide)).trans ((kr_c frE_11 (by decide)).symm.trans (((kr_p eσ2).trans e1))))))]
              refine lv_iload_n hx hb dX5_reckon_80 rfl (lv_at hl 3 rfl) ?_
              refine lv_iconst (v := 1) hx hb dX5_reckon_81 (by decide) ?_
              refine lv_isub hx hb dX5_reckon_82 ?_
              refine lv_topi (fun v79 e79 => ?_)
              have i79 : Iv v79 0 38 := iv_sub e79 i76 (⟨by decide, by decide⟩ : Iv 1 1 1) (by decide)
              have x79 : v79.toInt = j11_2.toInt + (-1) := ex_sub e79 i76 (⟨by decide, by decide⟩ : Iv 1 1 1) (by decide)
              refine lv_aload_n hx hb dX5_reckon_83 rfl (lv_at hl 1 rfl) ?_
              refine g_262 cx hw ha0 k_f_X5_21 dX5_reckon_84 (fun v80 e80 h80 => ?_)
              rw [show v80 = v1 from Option.some.inj (e80.symm.trans (((kr_c fr_11 (by decide)).trans ((kr_c frE_11 (by decide)).symm.trans (((kr_p eσ2).trans e1))))))]
              refine lv_iload_n hx hb dX5_reckon_87 rfl (lv_at hl 3 rfl) ?_
              refine lv_iconst (v := 1) hx hb dX5_reckon_88 (by decide) ?_
              refine lv_isub hx hb dX5_reckon_89 ?_
              refine lv_topi (fun v81 e81 => ?_)
              have i81 : Iv v81 0 38 := iv_sub e81 i76 (⟨by decide, by decide⟩ : Iv 1 1 1) (by decide)
              have x81 : v81.toInt = j11_2.toInt + (-1) := ex_sub e81 i76 (⟨by decide, by decide⟩ : Iv 1 1 1) (by decide)
              refine o_iald cx hw h1 (by decide) rfl (iv_in i81 (by decide)) dX5_reckon_90 (fun v82 e82 b82 => ?_)
              refine lv_ineg hx hb dX5_reckon_91 ?_
              refine lv_topi (fun v83 e83 => ?_)
              refine o_iast cx hw h1 (by decide) rfl (iv_in i79 (by decide)) trivial dX5_reckon_92 (fun σ84 H locs eσ84 hw => ?_)
              have fr := oFr_p fr eσ84 h1 (by decide)
              refine lv_goto (tgt := 323) hx hb dX5_reckon_93 (by decide) ?_
              exact J_323 j11_2 (iv_w i76 (by decide)) σ84 _ _ hw fr (le_lin (Int.add_zero _).symm (Int.add_zero _).symm le11_0 (by decide)) _ (lv_sub hl [1, 2, 3, 4, 0] rfl)
        · --
          have i85 : Iv v11 (-2147483648) 9 := iv_le1 (iv_nlt c13) (iv_top v11) (⟨by decide, by decide⟩ : Iv 9 9 9) (by decide)
          refine lv_aload_n hx hb dX5_reckon_34 rfl (lv_at hl 1 rfl) ?_
          refine g_262 cx hw ha0 k_f_X5_21 dX5_reckon_35 (fun v86 e86 h86 => ?_)
          rw [show v86 = v1 from Option.some.inj (e86.symm.trans (((kr_c fr_11 (by decide)).trans ((kr_c frE_11 (by decide)).symm.trans (((kr_p eσ2).trans e1))))))]
          refine lv_iload_n hx hb dX5_reckon_38 rfl (lv_at hl 3 rfl) ?_
          refine lv_iload hx hb dX5_reckon_39 (lv_at hl 0 rfl) ?_
          have J_56 : ∀ (k56_2 : Int32), ∀ (H : Heap) (locs : List Loc), oI A L τ cy D s.heap σ_11 H locs → ∀ (ls : Array Slot), lv_has ls 7 [(0, .ref a0), (1, .ref a1), (2, .int j11_2), (3, .int j11_3), (4, .int v11)] → W p l e ({ frames := 0, cells := 0, slots := 0, locals := 0 } : Room) s m args below meth c H locs 0 0 Q (F0 m 56 ls [.int k56_2, .int j11_2, .ref v1]) := by
            intro k56_2 H locs hw     ls hl
            refine o_iast cx hw h1 (by decide) rfl (iv_in i8 (by decide)) trivial dX5_reckon_56 (fun σ87 H locs eσ87 hw => ?_)
            have fr := oFr_p fr eσ87 h1 (by decide)
            obtain ⟨v88, e88⟩ : ∃ y : Int32, y = j11_2 + 1 := ⟨_, rfl⟩
            have i88 : Iv v88 1 40 := iv_add e88 i8 (⟨by decide, by decide⟩ : Iv 1 1 1) (by decide)
            have x88 : v88.toInt = j11_2.toInt + 1 := ex_add e88 i8 (⟨by decide, by decide⟩ : Iv 1 1 1) (by decide)
            refine lv_iinc (v := v88) (lv' := [(2, .int v88), (0, .ref a0), (1, .ref a1), (3, .int j11_3), (4, .int v11)]) hx hb dX5_reckon_57 hl (k := 2) rfl (by rw [e88]; rfl) (by decide) rfl (fun ls hl => ?_)
            refine lv_goto (tgt := 323) hx hb dX5_reckon_60 (by decide) ?_
            exact J_323 v88 (iv_w i88 (by decide)) σ87 _ _ hw fr (le_lin x88 (Int.add_zero _).symm le11_0 (by decide)) _ (lv_sub hl [1, 2, 0, 3, 4] rfl)
          refine lv_if_gt (tgt := 50) hx hb dX5_reckon_41 (by decide) (fun c89 => ?_) (fun c89 => ?_)
          · --
            have i90 : Iv v11 1 9 := iv_lt2 c89 (⟨by decide, by decide⟩ : Iv 0 0 0) i85 (by decide)
            refine lv_aload_n hx hb dX5_reckon_50 rfl (lv_at hl 2 rfl) ?_
            refine lv_iload hx hb dX5_reckon_51 (lv_at hl 0 rfl) ?_
            refine lv_iconst (v := 1) hx hb dX5_reckon_53 (by decide) ?_
            refine lv_isub hx hb dX5_reckon_54 ?_
            refine lv_topi (fun v91 e91 => ?_)
            have i91 : Iv v91 0 8 := iv_sub e91 i90 (⟨by decide, by decide⟩ : Iv 1 1 1) (by decide)
            have x91 : v91.toInt = v11.toInt + (-1) := ex_sub e91 i90 (⟨by decide, by decide⟩ : Iv 1 1 1) (by decide)
            refine o_iald cx hw ha1 (by decide) rfl (iv_in i91 (by decide)) dX5_reckon_55 (fun v92 e92 b92 => ?_)
            exact J_56 v92 _ _ hw _ (lv_sub hl [1, 2, 3, 4, 0] rfl)
          · --
            have i93 : Iv v11 (-2147483648) 0 := iv_le1 (iv_nlt c89) i85 (⟨by decide, by decide⟩ : Iv 0 0 0) (by decide)
            refine lv_iload hx hb dX5_reckon_44 (lv_at hl 0 rfl) ?_
            refine lv_ineg hx hb dX5_reckon_46 ?_
            refine lv_topi (fun v94 e94 => ?_)
            refine lv_goto (tgt := 56) hx hb dX5_reckon_47 (by decide) ?_
            exact J_56 v94 _ _ hw _ (lv_sub hl [1, 2, 3, 4, 0] rfl)
  exact J_11 _ 0 (iv_w (⟨by decide, by decide⟩ : Iv 0 0 0) (by decide)) 0 (iv_w (⟨by decide, by decide⟩ : Iv 0 0 0) (by decide)) σ2 _ _ hw fr (Nat.lt_succ_self _) (le_iv (⟨by decide, by decide⟩ : Iv 0 0 0) (⟨by decide, by decide⟩ : Iv 0 0 0) (by decide)) _ (lv_sub hl [2, 3, 1, 0] rfl)
end OM
