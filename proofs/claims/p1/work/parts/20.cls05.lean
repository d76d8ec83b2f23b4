section OM
variable {l : Launch} {A : Nat → Prop} {L : List Nat} {τ : Nat → Nat} {cy : Nat → ClassId} {D : va_G} {K : (Nat → Nat) × (Nat → Nat)} {σ : oSt}
set_option maxHeartbeats 4000000 in
set_option maxRecDepth 100000 in
theorem c_X6_firstHerdAt (a0 : Nat) (ha0 : oA L τ a0 5) (a1 : Int32) : oMet l A L τ cy D K yX6_firstHerdAt cX6_firstHerdAt 2 (some .int) 3 64 [.ref a0, .int a1] σ (va_Qi (fun r σ1 => σ1 = σ) (oPo A L τ cy D) A) := by
  refine oMk (by decide) (Nat.le_of_ble_eq_true rfl) rfl ?_
  intro p e s m args below meth c ls cx rx hA hw hl
  generalize hQ : MQ below _ args s 0 0 A = Q
  have hx := cx.1.1
  have hb := cx.1.2.1
  have hml := cx.1.2.2.1
  have hown := cx.1.2.2.2.1
  have hts := cx.1.2.2.2.2
  have hl : lv_has ls 2 [(0, .ref a0), (1, .int a1)] := hl
  refine lv_aload_n hx hb dX6_firstHerdAt_0 rfl (lv_at hl 0 rfl) ?_
  refine lv_iload_n hx hb dX6_firstHerdAt_1 rfl (lv_at hl 1 rfl) ?_
  refine o_ci hw (oRunV cx hA hw q_X6_herdsAt k_m_X6_75 rfl ha0 (by decide) (As := [.int a1]) (c_X6_herdsAt a0 ha0 a1) (by decide) rfl hl.1 rfl (Nat.le_of_ble_eq_true rfl) dX6_firstHerdAt_2 (by decide)) (fun v2 σ1 H locs hp hw => ?_)
  obtain ⟨p2_0, p2_1⟩ := hp
  rw [p2_0] at hw
  refine lv_i2l hx hb dX6_firstHerdAt_5 rfl ?_
  refine lv_topl (fun v3 e3 => ?_)
  refine o_ci hw (oRunS cx hA hw q_X0_firstOf k_m_X6_79 (As := [.long v3]) (c_X0_firstOf v3) (by decide) rfl hl.1 rfl (Nat.le_of_ble_eq_true rfl) dX6_firstHerdAt_6 (by decide)) (fun v5 σ4 H locs hp hw => ?_)
  have p5_0 := hp
  rw [p5_0] at hw
  rw [← hQ]
  exact o_ri cx rx hw dX6_firstHerdAt_9 rfl
abbrev fs_X10_trodden : List Nat := [193, 327, 328, 329, 330, 331, 517]
abbrev ts_X10_trodden : List Nat := [32, 33, 34, 36, 37, 38]
set_option maxHeartbeats 4000000 in
set_option maxRecDepth 100000 in
theorem c_X10_trodden (a0 : Nat) (ha0 : oA L τ a0 9) (a1 : Int32) : oMet l A L τ cy D K yX10_trodden cX10_trodden 4 (some .int) 5 129 [.ref a0, .int a1] σ (va_Qi (fun r σ1 => oFr τ fs_X10_trodden ts_X10_trodden σ σ1 ∧ Iv r (-2) 100) (oPo A L τ cy D) A) := by
  refine oMk (by decide) (Nat.le_of_ble_eq_true rfl) rfl ?_
  intro p e s m args below meth c ls cx rx hA hw hl
  generalize hQ : MQ below _ args s 0 0 A = Q
  have hx := cx.1.1
  have hb := cx.1.2.1
  have hml := cx.1.2.2.1
  have hown := cx.1.2.2.2.1
  have hts := cx.1.2.2.2.2
  have hl : lv_has ls 4 [(0, .ref a0), (1, .int a1)] := hl
  have fr : oFr τ fs_X10_trodden ts_X10_trodden σ σ := oFr_rf
  refine lv_aload_n hx hb dX10_trodden_0 rfl (lv_at hl 0 rfl) ?_
  refine g_578 cx hw ha0 k_f_X10_26 dX10_trodden_1 (fun v1 e1 h1 => ?_)
  refine lv_iload_n hx hb dX10_trodden_4 rfl (lv_at hl 1 rfl) ?_
  refine o_ci hw (oRunV cx hA hw q_X2_isThere k_m_X10_135 rfl h1 (by decide) (As := [.int a1]) (c_X2_isThere v1 h1 a1) (by decide) rfl hl.1 rfl (Nat.le_of_ble_eq_true rfl) dX10_trodden_5 (by decide)) (fun v3 σ2 H locs hp hw => ?_)
  obtain ⟨p3_0, p3_1, p3_2⟩ := hp
  rw [p3_0] at hw
  refine lv_if_ne (tgt := 13) hx hb dX10_trodden_8 (by decide) (fun c4 => ?_) (fun c4 => ?_)
  · --
    have i5 : Iv v3 1 1 := iv_ne1 c4 p3_1 (⟨by decide, by decide⟩ : Iv 0 0 0) (by decide)
    have i6 : Iv a1 0 63 := p3_2 c4
    refine lv_aload_n hx hb dX10_trodden_13 rfl (lv_at hl 0 rfl) ?_
    refine g_583 cx hw ha0 k_f_X10_61 dX10_trodden_14 (fun v7 e7 h7 => ?_)
    refine o_cr hw (oRunV cx hA hw q_X1_begin k_m_X10_377 rfl h7 (by decide) (As := []) (c_X1_begin v7 h7) (by decide) rfl hl.1 rfl (Nat.le_of_ble_eq_true rfl) dX10_trodden_17 (by decide)) (fun v9 σ8 H locs hp hw => ?_)
    obtain ⟨p9_0, p9_1⟩ := hp
    have fr := oFr_tr fr p9_0 (by decide)
    refine lv_astore_n (lv' := [(2, .ref v9), (0, .ref a0), (1, .int a1)]) hx hb dX10_trodden_20 rfl hl (by decide) rfl (fun ls hl => ?_)
    refine lv_aload_n hx hb dX10_trodden_21 rfl (lv_at hl 0 rfl) ?_
    refine lv_iload_n hx hb dX10_trodden_22 rfl (lv_at hl 2 rfl) ?_
    refine o_ci hw (oRunV cx hA hw q_X6_herdsAt k_m_X10_174 rfl p9_1 (by decide) (As := [.int a1]) (c_X6_herdsAt v9 p9_1 a1) (by decide) rfl hl.1 rfl (Nat.le_of_ble_eq_true rfl) dX10_trodden_23 (by decide)) (fun v11 σ10 H locs hp hw => ?_)
    obtain ⟨p11_0, p11_1⟩ := hp
    rw [p11_0] at hw
    have J_43 : ∀ (k43_0 : Int32) (ik43_0 : Iv k43_0 (-1) 100), ∀ (σ_43 : oSt) (H : Heap) (locs : List Loc), oI A L τ cy D s.heap σ_43 H locs → oFr τ fs_X10_trodden ts_X10_trodden σ σ_43 → ∀ (ls : Array Slot), lv_has ls 4 [(0, .ref a0), (1, .int a1), (2, .ref v9)] → W p l e ({ frames := 5, cells := 0, slots := 0, locals := 129 } : Room) s m args below meth c H locs 0 0 Q (F0 m 43 ls [.int k43_0]) := by
      intro k43_0 ik43_0   σ_43 H locs hw fr   ls hl
      refine lv_istore_n (lv' := [(3, .int k43_0), (0, .ref a0), (1, .int a1), (2, .ref v9)]) hx hb dX10_trodden_43 rfl hl (by decide) rfl (fun ls hl => ?_)
      refine lv_iload_n hx hb dX10_trodden_44 rfl (lv_at hl 0 rfl) ?_
      refine lv_iconst (v := (-1)) hx hb dX10_trodden_45 (by decide) ?_
      refine lv_icmp_ne (tgt := 52) hx hb dX10_trodden_46 (by decide) (fun c12 => ?_) (fun c12 => ?_)
      · --
        have i13 : Iv k43_0 0 100 := iv_ne1 c12 ik43_0 (⟨by decide, by decide⟩ : Iv (-1) (-1) (-1)) (by decide)
        refine lv_aload_n hx hb dX10_trodden_52 rfl (lv_at hl 1 rfl) ?_
        refine g_577 cx hw ha0 k_f_X10_19 dX10_trodden_53 (fun v14 e14 h14 => ?_)
        refine o_cv hw (oRunV cx hA hw q_X4_start k_m_X10_292 rfl h14 (by decide) (As := []) (c_X4_start v14 h14) (by decide) rfl hl.1 rfl (Nat.le_of_ble_eq_true rfl) dX10_trodden_56 (by decide)) (fun σ15 H locs hp hw => ?_)
        have p16_0 := hp
        have fr := oFr_tr fr p16_0 (by decide)
        refine lv_aload_n hx hb dX10_trodden_59 rfl (lv_at hl 1 rfl) ?_
        refine g_577 cx hw ha0 k_f_X10_19 dX10_trodden_60 (fun v17 e17 h17 => ?_)
        rw [show v17 = v14 from Option.some.inj (e17.symm.trans (((kr_c p16_0 (by decide)).trans e14)))]
        refine lv_aload_n hx hb dX10_trodden_63 rfl (lv_at hl 3 rfl) ?_
        refine lv_iload_n hx hb dX10_trodden_64 rfl (lv_at hl 2 rfl) ?_
        refine o_ci hw (oRunV cx hA hw q_X6_firstHerdAt k_m_X10_383 rfl p9_1 (by decide) (As := [.int a1]) (c_X6_firstHerdAt v9 p9_1 a1) (by decide) rfl hl.1 rfl (Nat.le_of_ble_eq_true rfl) dX10_trodden_65 (by decide)) (fun v19 σ18 H locs hp hw => ?_)
        have p19_0 := hp
        rw [p19_0] at hw
        refine lv_i2l hx hb dX10_trodden_68 rfl ?_
        refine lv_topl (fun v20 e20 => ?_)
        refine o_cv hw (oRunV cx hA hw q_X4_put k_m_X10_295 rfl h14 (by decide) (As := [.long v20]) (c_X4_put v14 h14 v20) (by decide) rfl hl.1 rfl (Nat.le_of_ble_eq_true rfl) dX10_trodden_69 (by decide)) (fun σ21 H locs hp hw => ?_)
        have p22_0 := hp
        have fr := oFr_tr fr p22_0 (by decide)
        refine lv_iload_n hx hb dX10_trodden_72 rfl (lv_at hl 0 rfl) ?_
        rw [← hQ]
        exact o_ri cx rx hw dX10_trodden_73 ⟨fr, (iv_w i13 (by decide))⟩
      · --
        have i23 : Iv k43_0 (-1) (-1) := iv_eq1 c12 ik43_0 (⟨by decide, by decide⟩ : Iv (-1) (-1) (-1)) (by decide)
        refine lv_bipush (v := (-2)) hx hb dX10_trodden_49 (by decide) ?_
        rw [← hQ]
        exact o_ri cx rx hw dX10_trodden_51 ⟨fr, (iv_w (⟨by decide, by decide⟩ : Iv (-2) (-2) (-2)) (by decide))⟩
    refine lv_if_eq (tgt := 33) hx hb dX10_trodden_26 (by decide) (fun c24 => ?_) (fun c24 => ?_)
    · --
      have i25 : Iv v11 0 0 := iv_eq1 c24 p11_1 (⟨by decide, by decide⟩ : Iv 0 0 0) (by decide)
      refine lv_aload_n hx hb dX10_trodden_33 rfl (lv_at hl 1 rfl) ?_
      refine g_583 cx hw ha0 k_f_X10_61 dX10_trodden_34 (fun v26 e26 h26 => ?_)
      rw [show v26 = v7 from Option.some.inj (e26.symm.trans (((kr_c p9_0 (by decide)).trans e7)))]
      refine lv_iload_n hx hb dX10_trodden_37 rfl (lv_at hl 2 rfl) ?_
      refine lv_bipush (v := 100) hx hb dX10_trodden_38 (by decide) ?_
      refine o_ci hw (oRunV cx hA hw q_X1_hourOfComing k_m_X10_380 rfl h7 (by decide) (As := [.int a1, .int 100]) (c_X1_hourOfComing v7 h7 a1 100 (iv_w (⟨by decide, by decide⟩ : Iv 100 100 100) (by decide))) (by decide) rfl hl.1 rfl (Nat.le_of_ble_eq_true rfl) dX10_trodden_40 (by decide)) (fun v28 σ27 H locs hp hw => ?_)
      obtain ⟨p28_0, p28_1⟩ := hp
      have fr := oFr_tr fr p28_0 (by decide)
      exact J_43 v28 p28_1 σ27 _ _ hw fr _ (lv_sub hl [1, 2, 0] rfl)
    · --
      have i29 : Iv v11 1 63 := iv_ne1 c24 p11_1 (⟨by decide, by decide⟩ : Iv 0 0 0) (by decide)
      refine lv_iconst (v := 0) hx hb dX10_trodden_29 (by decide) ?_
      refine lv_goto (tgt := 43) hx hb dX10_trodden_30 (by decide) ?_
      exact J_43 0 (iv_w (⟨by decide, by decide⟩ : Iv 0 0 0) (by decide)) σ8 _ _ hw fr _ (lv_sub hl [1, 2, 0] rfl)
  · --
    have i30 : Iv v3 0 0 := iv_eq1 c4 p3_1 (⟨by decide, by decide⟩ : Iv 0 0 0) (by decide)
    refine lv_iconst (v := (-1)) hx hb dX10_trodden_11 (by decide) ?_
    rw [← hQ]
    exact o_ri cx rx hw dX10_trodden_12 ⟨fr, (iv_w (⟨by decide, by decide⟩ : Iv (-1) (-1) (-1)) (by decide))⟩
abbrev fs_X10_meets : List Nat := [193, 327, 328, 329, 330, 331, 517]
abbrev ts_X10_meets : List Nat := [32, 33, 34, 36, 37, 38]
set_option maxHeartbeats 4000000 in
set_option maxRecDepth 100000 in
theorem c_X10_meets (a0 : Nat) (ha0 : oA L τ a0 9) : oMet l A L τ cy D K yX10_meets cX10_meets 4 (some .int) 4 106 [.ref a0] σ (va_Qi (fun r σ1 => oFr τ fs_X10_meets ts_X10_meets σ σ1 ∧ Iv r (-2) 100) (oPo A L τ cy D) A) := by
  refine oMk (by decide) (Nat.le_of_ble_eq_true rfl) rfl ?_
  intro p e s m args below meth c ls cx rx hA hw hl
  generalize hQ : MQ below _ args s 0 0 A = Q
  have hx := cx.1.1
  have hb := cx.1.2.1
  have hml := cx.1.2.2.1
  have hown := cx.1.2.2.2.1
  have hts := cx.1.2.2.2.2
  have hl : lv_has ls 4 [(0, .ref a0)] := hl
  have fr : oFr τ fs_X10_meets ts_X10_meets σ σ := oFr_rf
  refine lv_aload_n hx hb dX10_meets_0 rfl (lv_at hl 0 rfl) ?_
  refine g_583 cx hw ha0 k_f_X10_61 dX10_meets_1 (fun v1 e1 h1 => ?_)
  refine o_cr hw (oRunV cx hA hw q_X1_begin k_m_X10_377 rfl h1 (by decide) (As := []) (c_X1_begin v1 h1) (by decide) rfl hl.1 rfl (Nat.le_of_ble_eq_true rfl) dX10_meets_4 (by decide)) (fun v3 σ2 H locs hp hw => ?_)
  obtain ⟨p3_0, p3_1⟩ := hp
  have fr := oFr_tr fr p3_0 (by decide)
  refine lv_astore_n (lv' := [(1, .ref v3), (0, .ref a0)]) hx hb dX10_meets_7 rfl hl (by decide) rfl (fun ls hl => ?_)
  refine lv_iconst (v := 0) hx hb dX10_meets_8 (by decide) ?_
  refine lv_istore_n (lv' := [(2, .int 0), (1, .ref v3), (0, .ref a0)]) hx hb dX10_meets_9 rfl hl (by decide) rfl (fun ls hl => ?_)
  have J_10 : ∀ n : Nat, ∀ (j10_2 : Int32) (ij10_2 : Iv j10_2 0 101), (101 - j10_2.toInt).toNat < n → ∀ (σ_10 : oSt) (H : Heap) (locs : List Loc), oI A L τ cy D s.heap σ_10 H locs → oFr τ fs_X10_meets ts_X10_meets σ σ_10 → ∀ (ls : Array Slot), lv_has ls 4 [(0, .ref a0), (1, .ref v3), (2, .int j10_2)] → W p l e ({ frames := 4, cells := 0, slots := 0, locals := 106 } : Room) s m args below meth c H locs 0 0 Q (F0 m 10 ls []) := by
    intro n
    induction n with
    | zero => intro j10_2 ij10_2 hn_10  σ_10 H locs hw fr   ls hl; exact absurd hn_10 (Nat.not_lt_zero _)
    | succ n ih_10 =>
      intro j10_2 ij10_2 hn_10  σ_10 H locs hw fr   ls hl
      refine lv_iload_n hx hb dX10_meets_10 rfl (lv_at hl 2 rfl) ?_
      refine lv_bipush (v := 100) hx hb dX10_meets_11 (by decide) ?_
      refine lv_icmp_gt (tgt := 69) hx hb dX10_meets_13 (by decide) (fun c4 => ?_) (fun c4 => ?_)
      · --
        have i5 : Iv j10_2 101 101 := iv_lt2 c4 (⟨by decide, by decide⟩ : Iv 100 100 100) ij10_2 (by decide)
        refine lv_bipush (v := (-2)) hx hb dX10_meets_69 (by decide) ?_
        rw [← hQ]
        exact o_ri cx rx hw dX10_meets_71 ⟨fr, (iv_w (⟨by decide, by decide⟩ : Iv (-2) (-2) (-2)) (by decide))⟩
      · --
        have i6 : Iv j10_2 0 100 := iv_le1 (iv_nlt c4) ij10_2 (⟨by decide, by decide⟩ : Iv 100 100 100) (by decide)
        refine lv_iload_n hx hb dX10_meets_16 rfl (lv_at hl 2 rfl) ?_
        have J_29 : ∀ (σ_29 : oSt) (H : Heap) (locs : List Loc), oI A L τ cy D s.heap σ_29 H locs → oFr τ fs_X10_meets ts_X10_meets σ σ_29 → ∀ (ls : Array Slot), lv_has ls 4 [(0, .ref a0), (1, .ref v3), (2, .int j10_2)] → W p l e ({ frames := 4, cells := 0, slots := 0, locals := 106 } : Room) s m args below meth c H locs 0 0 Q (F0 m 29 ls []) := by
          intro    σ_29 H locs hw fr   ls hl
          refine lv_aload_n hx hb dX10_meets_29 rfl (lv_at hl 1 rfl) ?_
          refine lv_aload_n hx hb dX10_meets_30 rfl (lv_at hl 0 rfl) ?_
          refine g_580 cx hw ha0 k_f_X10_42 dX10_meets_31 (fun v7 e7 h7 => ?_)
          refine g_514 cx hw h7 k_f_X10_167 dX10_meets_34 (fun v8 e8 => ?_)
          refine o_ci hw (oRunV cx hA hw q_X6_sizeOfMeeting k_m_X10_367 rfl p3_1 (by decide) (As := [.int v8]) (c_X6_sizeOfMeeting v3 p3_1 v8) (by decide) rfl hl.1 rfl (Nat.le_of_ble_eq_true rfl) dX10_meets_37 (by decide)) (fun v10 σ9 H locs hp hw => ?_)
          obtain ⟨p10_0, p10_1⟩ := hp
          rw [p10_0] at hw
          refine lv_istore_n (lv' := [(3, .int v10), (0, .ref a0), (1, .ref v3), (2, .int j10_2)]) hx hb dX10_meets_40 rfl hl (by decide) rfl (fun ls hl => ?_)
          refine lv_iload_n hx hb dX10_meets_41 rfl (lv_at hl 0 rfl) ?_
          refine lv_if_le (tgt := 63) hx hb dX10_meets_42 (by decide) (fun c11 => ?_) (fun c11 => ?_)
          · --
            have i12 : Iv v10 0 0 := iv_le1 c11 p10_1 (⟨by decide, by decide⟩ : Iv 0 0 0) (by decide)
            obtain ⟨v13, e13⟩ : ∃ y : Int32, y = j10_2 + 1 := ⟨_, rfl⟩
            have i13 : Iv v13 1 101 := iv_add e13 i6 (⟨by decide, by decide⟩ : Iv 1 1 1) (by decide)
            have x13 : v13.toInt = j10_2.toInt + 1 := ex_add e13 i6 (⟨by decide, by decide⟩ : Iv 1 1 1) (by decide)
            refine lv_iinc (v := v13) (lv' := [(2, .int v13), (3, .int v10), (0, .ref a0), (1, .ref v3)]) hx hb dX10_meets_63 hl (k := 3) rfl (by rw [e13]; rfl) (by decide) rfl (fun ls hl => ?_)
            refine lv_goto (tgt := 10) hx hb dX10_meets_66 (by decide) ?_
            exact ih_10 v13 (iv_w i13 (by decide)) (ms_up x13 (by decide) (iv_w (a' := 0) (b' := 101) i13 (by decide)).2 hn_10) σ_29 _ _ hw fr _ (lv_sub hl [2, 3, 0] rfl)
          · --
            have i14 : Iv v10 1 127 := iv_lt2 (iv_nle c11) (⟨by decide, by decide⟩ : Iv 0 0 0) p10_1 (by decide)
            refine lv_aload_n hx hb dX10_meets_45 rfl (lv_at hl 1 rfl) ?_
            refine g_577 cx hw ha0 k_f_X10_19 dX10_meets_46 (fun v15 e15 h15 => ?_)
            refine o_cv hw (oRunV cx hA hw q_X4_start k_m_X10_292 rfl h15 (by decide) (As := []) (c_X4_start v15 h15) (by decide) rfl hl.1 rfl (Nat.le_of_ble_eq_true rfl) dX10_meets_49 (by decide)) (fun σ16 H locs hp hw => ?_)
            have p17_0 := hp
            have fr := oFr_tr fr p17_0 (by decide)
            refine lv_aload_n hx hb dX10_meets_52 rfl (lv_at hl 1 rfl) ?_
            refine g_577 cx hw ha0 k_f_X10_19 dX10_meets_53 (fun v18 e18 h18 => ?_)
            rw [show v18 = v15 from Option.some.inj (e18.symm.trans (((kr_c p17_0 (by decide)).trans e15)))]
            refine lv_iload_n hx hb dX10_meets_56 rfl (lv_at hl 0 rfl) ?_
            refine lv_i2l hx hb dX10_meets_57 rfl ?_
            refine lv_topl (fun v19 e19 => ?_)
            refine o_cv hw (oRunV cx hA hw q_X4_put k_m_X10_295 rfl h15 (by decide) (As := [.long v19]) (c_X4_put v15 h15 v19) (by decide) rfl hl.1 rfl (Nat.le_of_ble_eq_true rfl) dX10_meets_58 (by decide)) (fun σ20 H locs hp hw => ?_)
            have p21_0 := hp
            have fr := oFr_tr fr p21_0 (by decide)
            refine lv_iload_n hx hb dX10_meets_61 rfl (lv_at hl 3 rfl) ?_
            rw [← hQ]
            exact o_ri cx rx hw dX10_meets_62 ⟨fr, (iv_w i6 (by decide))⟩
        refine lv_if_le (tgt := 29) hx hb dX10_meets_17 (by decide) (fun c22 => ?_) (fun c22 => ?_)
        · --
          have i23 : Iv j10_2 0 0 := iv_le1 c22 i6 (⟨by decide, by decide⟩ : Iv 0 0 0) (by decide)
          exact J_29 σ_10 _ _ hw fr _ (lv_sub hl [0, 1, 2] rfl)
        · --
          have i24 : Iv j10_2 1 100 := iv_lt2 (iv_nle c22) (⟨by decide, by decide⟩ : Iv 0 0 0) i6 (by decide)
          refine lv_aload_n hx hb dX10_meets_20 rfl (lv_at hl 0 rfl) ?_
          refine g_580 cx hw ha0 k_f_X10_42 dX10_meets_21 (fun v25 e25 h25 => ?_)
          refine lv_aload_n hx hb dX10_meets_24 rfl (lv_at hl 1 rfl) ?_
          refine o_ci hw (oRunV cx hA hw q_X9_pass k_m_X10_269 rfl h25 (by decide) (As := [.ref v3]) (c_X9_pass v25 h25 v3 p3_1) (by decide) rfl hl.1 rfl (Nat.le_of_ble_eq_true rfl) dX10_meets_25 (by decide)) (fun v27 σ26 H locs hp hw => ?_)
          have p27_0 := hp
          have fr := oFr_tr fr p27_0 (by decide)
          refine lv_pop hx hb dX10_meets_28 rfl ?_
          exact J_29 σ26 _ _ hw fr _ (lv_sub hl [0, 1, 2] rfl)
  exact J_10 _ 0 (iv_w (⟨by decide, by decide⟩ : Iv 0 0 0) (by decide)) (Nat.lt_succ_self _) σ2 _ _ hw fr _ (lv_sub hl [2, 1, 0] rfl)
abbrev fs_X1_hourOfReturn : List Nat := [327, 328, 329, 330, 331, 517]
abbrev ts_X1_hourOfReturn : List Nat := [32, 33, 34, 37, 38]
set_option maxHeartbeats 4000000 in
set_option maxRecDepth 100000 in
theorem c_X1_hourOfReturn (a0 : Nat) (ha0 : oA L τ a0 0) (a1 : Int32) (ia1 : Iv a1 0 5) : oMet l A L τ cy D K yX1_hourOfReturn cX1_hourOfReturn 4 (some .int) 4 106 [.ref a0, .int a1] σ (va_Qi (fun r σ1 => oFr τ fs_X1_hourOfReturn ts_X1_hourOfReturn σ σ1 ∧ Iv r (-1) 100) (oPo A L τ cy D) A) := by
  refine oMk (by decide) (Nat.le_of_ble_eq_true rfl) rfl ?_
  intro p e s m args below meth c ls cx rx hA hw hl
  generalize hQ : MQ below _ args s 0 0 A = Q
  have hx := cx.1.1
  have hb := cx.1.2.1
  have hml := cx.1.2.2.1
  have hown := cx.1.2.2.2.1
  have hts := cx.1.2.2.2.2
  have hl : lv_has ls 4 [(0, .ref a0), (1, .int a1)] := hl
  have fr : oFr τ fs_X1_hourOfReturn ts_X1_hourOfReturn σ σ := oFr_rf
  refine lv_aload_n hx hb dX1_hourOfReturn_0 rfl (lv_at hl 0 rfl) ?_
  refine o_cr hw (oRunV cx hA hw q_X1_begin k_m_X1_46 rfl ha0 (by decide) (As := []) (c_X1_begin a0 ha0) (by decide) rfl hl.1 rfl (Nat.le_of_ble_eq_true rfl) dX1_hourOfReturn_1 (by decide)) (fun v2 σ1 H locs hp hw => ?_)
  obtain ⟨p2_0, p2_1⟩ := hp
  have fr := oFr_tr fr p2_0 (by decide)
  refine lv_pop hx hb dX1_hourOfReturn_4 rfl ?_
  refine lv_aload_n hx hb dX1_hourOfReturn_5 rfl (lv_at hl 0 rfl) ?_
  refine g_4 cx hw ha0 k_f_X1_18 dX1_hourOfReturn_6 (fun v3 e3 h3 => ?_)
  refine lv_iconst (v := (-1)) hx hb dX1_hourOfReturn_9 (by decide) ?_
  refine o_cv hw (oRunS cx hA hw q_J7_fill_53178 k_m_X1_62 (As := [.ref v3, .int (-1)]) (c_J7_fill_53178 v3 h3 (-1)) (by decide) rfl hl.1 rfl (Nat.le_of_ble_eq_true rfl) dX1_hourOfReturn_10 (by decide)) (fun σ4 H locs hp hw => ?_)
  have p5_0 := hp
  have fr := oFr_tr fr p5_0 (by decide)
  refine lv_aload_n hx hb dX1_hourOfReturn_13 rfl (lv_at hl 0 rfl) ?_
  refine g_4 cx hw ha0 k_f_X1_18 dX1_hourOfReturn_14 (fun v6 e6 h6 => ?_)
  rw [show v6 = v3 from Option.some.inj (e6.symm.trans (((kr_c p5_0 (by decide)).trans e3)))]
  refine lv_aload_n hx hb dX1_hourOfReturn_17 rfl (lv_at hl 0 rfl) ?_
  refine g_3 cx hw ha0 k_f_X1_12 dX1_hourOfReturn_18 (fun v7 e7 h7 => ?_)
  refine g_325 cx hw h7 k_f_X1_68 dX1_hourOfReturn_21 (fun v8 e8 h8 => ?_)
  refine lv_iload_n hx hb dX1_hourOfReturn_24 rfl (lv_at hl 1 rfl) ?_
  refine o_iald cx hw h8 (by decide) rfl (iv_in ia1 (by decide)) dX1_hourOfReturn_25 (fun v9 e9 b9 => ?_)
  have i9 : Iv v9 0 63 := b9
  refine lv_iconst (v := 0) hx hb dX1_hourOfReturn_26 (by decide) ?_
  refine o_iast cx hw h3 (by decide) rfl (iv_in i9 (by decide)) trivial dX1_hourOfReturn_27 (fun σ10 H locs eσ10 hw => ?_)
  have fr := oFr_p fr eσ10 h3 (by decide)
  refine lv_iconst (v := 1) hx hb dX1_hourOfReturn_28 (by decide) ?_
  refine lv_istore_n (lv' := [(2, .int 1), (0, .ref a0), (1, .int a1)]) hx hb dX1_hourOfReturn_29 rfl hl (by decide) rfl (fun ls hl => ?_)
  have J_30 : ∀ n : Nat, ∀ (j30_2 : Int32) (ij30_2 : Iv j30_2 1 101), (101 - j30_2.toInt).toNat < n → ∀ (σ_30 : oSt) (H : Heap) (locs : List Loc), oI A L τ cy D s.heap σ_30 H locs → oFr τ fs_X1_hourOfReturn ts_X1_hourOfReturn σ σ_30 → ∀ (ls : Array Slot), lv_has ls 4 [(0, .ref a0), (1, .int a1), (2, .int j30_2)] → W p l e ({ frames := 4, cells := 0, slots := 0, locals := 106 } : Room) s m args below meth c H locs 0 0 Q (F0 m 30 ls []) := by
    intro n
    induction n with
    | zero => intro j30_2 ij30_2 hn_30  σ_30 H locs hw fr   ls hl; exact absurd hn_30 (Nat.not_lt_zero _)
    | succ n ih_30 =>
      intro j30_2 ij30_2 hn_30  σ_30 H locs hw fr   ls hl
      refine lv_iload_n hx hb dX1_hourOfReturn_30 rfl (lv_at hl 2 rfl) ?_
      refine lv_bipush (v := 100) hx hb dX1_hourOfReturn_31 (by decide) ?_
      refine lv_icmp_gt (tgt := 83) hx hb dX1_hourOfReturn_33 (by decide) (fun c11 => ?_) (fun c11 => ?_)
      · --
        have i12 : Iv j30_2 101 101 := iv_lt2 c11 (⟨by decide, by decide⟩ : Iv 100 100 100) ij30_2 (by decide)
        refine lv_iconst (v := (-1)) hx hb dX1_hourOfReturn_83 (by decide) ?_
        rw [← hQ]
        exact o_ri cx rx hw dX1_hourOfReturn_84 ⟨fr, (iv_w (⟨by decide, by decide⟩ : Iv (-1) (-1) (-1)) (by decide))⟩
      · --
        have i13 : Iv j30_2 1 100 := iv_le1 (iv_nlt c11) ij30_2 (⟨by decide, by decide⟩ : Iv 100 100 100) (by decide)
        refine lv_aload_n hx hb dX1_hourOfReturn_36 rfl (lv_at hl 0 rfl) ?_
        refine g_2 cx hw ha0 k_f_X1_33 dX1_hourOfReturn_37 (fun v14 e14 h14 => ?_)
        refine lv_aload_n hx hb dX1_hourOfReturn_40 rfl (lv_at hl 0 rfl) ?_
        refine g_3 cx hw ha0 k_f_X1_12 dX1_hourOfReturn_41 (fun v15 e15 h15 => ?_)
        refine o_ci hw (oRunV cx hA hw q_X9_pass k_m_X1_54 rfl h14 (by decide) (As := [.ref v15]) (c_X9_pass v14 h14 v15 h15) (by decide) rfl hl.1 rfl (Nat.le_of_ble_eq_true rfl) dX1_hourOfReturn_44 (by decide)) (fun v17 σ16 H locs hp hw => ?_)
        have p17_0 := hp
        have fr := oFr_tr fr p17_0 (by decide)
        refine lv_pop hx hb dX1_hourOfReturn_47 rfl ?_
        refine lv_aload_n hx hb dX1_hourOfReturn_48 rfl (lv_at hl 0 rfl) ?_
        refine g_3 cx hw ha0 k_f_X1_12 dX1_hourOfReturn_49 (fun v18 e18 h18 => ?_)
        rw [show v18 = v15 from Option.some.inj (e18.symm.trans (((kr_c p17_0 (by decide)).trans e15)))]
        refine g_325 cx hw h15 k_f_X1_68 dX1_hourOfReturn_52 (fun v19 e19 h19 => ?_)
        refine lv_iload_n hx hb dX1_hourOfReturn_55 rfl (lv_at hl 1 rfl) ?_
        refine o_iald cx hw h19 (by decide) rfl (iv_in ia1 (by decide)) dX1_hourOfReturn_56 (fun v20 e20 b20 => ?_)
        have i20 : Iv v20 0 63 := b20
        refine lv_istore_n (lv' := [(3, .int v20), (0, .ref a0), (1, .int a1), (2, .int j30_2)]) hx hb dX1_hourOfReturn_57 rfl hl (by decide) rfl (fun ls hl => ?_)
        refine lv_aload_n hx hb dX1_hourOfReturn_58 rfl (lv_at hl 1 rfl) ?_
        refine g_4 cx hw ha0 k_f_X1_18 dX1_hourOfReturn_59 (fun v21 e21 h21 => ?_)
        refine lv_iload_n hx hb dX1_hourOfReturn_62 rfl (lv_at hl 0 rfl) ?_
        refine o_iald cx hw h21 (by decide) rfl (iv_in i20 (by decide)) dX1_hourOfReturn_63 (fun v22 e22 b22 => ?_)
        refine lv_iconst (v := (-1)) hx hb dX1_hourOfReturn_64 (by decide) ?_
        refine lv_icmp_eq (tgt := 70) hx hb dX1_hourOfReturn_65 (by decide) (fun c23 => ?_) (fun c23 => ?_)
        · --
          have i24 : Iv v22 (-1) (-1) := iv_eq1 c23 (iv_top v22) (⟨by decide, by decide⟩ : Iv (-1) (-1) (-1)) (by decide)
          refine lv_aload_n hx hb dX1_hourOfReturn_70 rfl (lv_at hl 1 rfl) ?_
          refine g_4 cx hw ha0 k_f_X1_18 dX1_hourOfReturn_71 (fun v25 e25 h25 => ?_)
          rw [show v25 = v21 from Option.some.inj (e25.symm.trans (e21))]
          refine lv_iload_n hx hb dX1_hourOfReturn_74 rfl (lv_at hl 0 rfl) ?_
          refine lv_iload_n hx hb dX1_hourOfReturn_75 rfl (lv_at hl 3 rfl) ?_
          refine o_iast cx hw h21 (by decide) rfl (iv_in i20 (by decide)) trivial dX1_hourOfReturn_76 (fun σ26 H locs eσ26 hw => ?_)
          have fr := oFr_p fr eσ26 h21 (by decide)
          obtain ⟨v27, e27⟩ : ∃ y : Int32, y = j30_2 + 1 := ⟨_, rfl⟩
          have i27 : Iv v27 2 101 := iv_add e27 i13 (⟨by decide, by decide⟩ : Iv 1 1 1) (by decide)
          have x27 : v27.toInt = j30_2.toInt + 1 := ex_add e27 i13 (⟨by decide, by decide⟩ : Iv 1 1 1) (by decide)
          refine lv_iinc (v := v27) (lv' := [(2, .int v27), (3, .int v20), (0, .ref a0), (1, .int a1)]) hx hb dX1_hourOfReturn_77 hl (k := 3) rfl (by rw [e27]; rfl) (by decide) rfl (fun ls hl => ?_)
          refine lv_goto (tgt := 30) hx hb dX1_hourOfReturn_80 (by decide) ?_
          exact ih_30 v27 (iv_w i27 (by decide)) (ms_up x27 (by decide) (iv_w (a' := 1) (b' := 101) i27 (by decide)).2 hn_30) σ26 _ _ hw fr _ (lv_sub hl [2, 3, 0] rfl)
        · --
          refine lv_iload_n hx hb dX1_hourOfReturn_68 rfl (lv_at hl 3 rfl) ?_
          rw [← hQ]
          exact o_ri cx rx hw dX1_hourOfReturn_69 ⟨fr, (iv_w i13 (by decide))⟩
  exact J_30 _ 1 (iv_w (⟨by decide, by decide⟩ : Iv 1 1 1) (by decide)) (Nat.lt_succ_self _) σ10 _ _ hw fr _ (lv_sub hl [1, 2, 0] rfl)
abbrev fs_X10_round : List Nat := [193, 327, 328, 329, 330, 331, 517]
abbrev ts_X10_round : List Nat := [32, 33, 34, 36, 37, 38]
set_option maxHeartbeats 4000000 in
set_option maxRecDepth 100000 in
theorem c_X10_round (a0 : Nat) (ha0 : oA L τ a0 9) (a1 : Int32) : oMet l A L τ cy D K yX10_round cX10_round 4 (some .int) 5 129 [.ref a0, .int a1] σ (va_Qi (fun r σ1 => oFr τ fs_X10_round ts_X10_round σ σ1 ∧ Iv r (-1) 100) (oPo A L τ cy D) A) := by
  refine oMk (by decide) (Nat.le_of_ble_eq_true rfl) rfl ?_
  intro p e s m args below meth c ls cx rx hA hw hl
  generalize hQ : MQ below _ args s 0 0 A = Q
  have hx := cx.1.1
  have hb := cx.1.2.1
  have hml := cx.1.2.2.1
  have hown := cx.1.2.2.2.1
  have hts := cx.1.2.2.2.2
  have hl : lv_has ls 4 [(0, .ref a0), (1, .int a1)] := hl
  have fr : oFr τ fs_X10_round ts_X10_round σ σ := oFr_rf
  refine lv_aload_n hx hb dX10_round_0 rfl (lv_at hl 0 rfl) ?_
  refine g_581 cx hw ha0 k_f_X10_49 dX10_round_1 (fun v1 e1 h1 => ?_)
  refine lv_iload_n hx hb dX10_round_4 rfl (lv_at hl 1 rfl) ?_
  refine o_ci hw (oRunV cx hA hw q_X6_hasHerd k_m_X10_178 rfl h1 (by decide) (As := [.int a1]) (c_X6_hasHerd v1 h1 a1) (by decide) rfl hl.1 rfl (Nat.le_of_ble_eq_true rfl) dX10_round_5 (by decide)) (fun v3 σ2 H locs hp hw => ?_)
  obtain ⟨p3_0, p3_1, p3_2⟩ := hp
  rw [p3_0] at hw
  refine lv_if_ne (tgt := 13) hx hb dX10_round_8 (by decide) (fun c4 => ?_) (fun c4 => ?_)
  · --
    have i5 : Iv v3 1 1 := iv_ne1 c4 p3_1 (⟨by decide, by decide⟩ : Iv 0 0 0) (by decide)
    have i6 : Iv a1 0 5 := p3_2 c4
    refine lv_aload_n hx hb dX10_round_13 rfl (lv_at hl 0 rfl) ?_
    refine g_583 cx hw ha0 k_f_X10_61 dX10_round_14 (fun v7 e7 h7 => ?_)
    refine lv_iload_n hx hb dX10_round_17 rfl (lv_at hl 1 rfl) ?_
    refine o_ci hw (oRunV cx hA hw q_X1_hourOfReturn k_m_X10_386 rfl h7 (by decide) (As := [.int a1]) (c_X1_hourOfReturn v7 h7 a1 (iv_w i6 (by decide))) (by decide) rfl hl.1 rfl (Nat.le_of_ble_eq_true rfl) dX10_round_18 (by decide)) (fun v9 σ8 H locs hp hw => ?_)
    obtain ⟨p9_0, p9_1⟩ := hp
    have fr := oFr_tr fr p9_0 (by decide)
    refine lv_istore_n (lv' := [(2, .int v9), (0, .ref a0), (1, .int a1)]) hx hb dX10_round_21 rfl hl (by decide) rfl (fun ls hl => ?_)
    refine lv_iload_n hx hb dX10_round_22 rfl (lv_at hl 0 rfl) ?_
    refine lv_iconst (v := (-1)) hx hb dX10_round_23 (by decide) ?_
    refine lv_icmp_ne (tgt := 29) hx hb dX10_round_24 (by decide) (fun c10 => ?_) (fun c10 => ?_)
    · --
      have i11 : Iv v9 0 100 := iv_ne1 c10 p9_1 (⟨by decide, by decide⟩ : Iv (-1) (-1) (-1)) (by decide)
      refine lv_aload_n hx hb dX10_round_29 rfl (lv_at hl 1 rfl) ?_
      refine g_583 cx hw ha0 k_f_X10_61 dX10_round_30 (fun v12 e12 h12 => ?_)
      rw [show v12 = v7 from Option.some.inj (e12.symm.trans (((kr_c p9_0 (by decide)).trans e7)))]
      refine g_3 cx hw h7 k_f_X10_389 dX10_round_33 (fun v13 e13 h13 => ?_)
      refine g_325 cx hw h13 k_f_X10_183 dX10_round_36 (fun v14 e14 h14 => ?_)
      refine lv_iload_n hx hb dX10_round_39 rfl (lv_at hl 2 rfl) ?_
      refine o_iald cx hw h14 (by decide) rfl (iv_in i6 (by decide)) dX10_round_40 (fun v15 e15 b15 => ?_)
      have i15 : Iv v15 0 63 := b15
      refine lv_istore_n (lv' := [(3, .int v15), (2, .int v9), (0, .ref a0), (1, .int a1)]) hx hb dX10_round_41 rfl hl (by decide) rfl (fun ls hl => ?_)
      refine lv_aload_n hx hb dX10_round_42 rfl (lv_at hl 2 rfl) ?_
      refine g_577 cx hw ha0 k_f_X10_19 dX10_round_43 (fun v16 e16 h16 => ?_)
      refine o_cv hw (oRunV cx hA hw q_X4_start k_m_X10_292 rfl h16 (by decide) (As := []) (c_X4_start v16 h16) (by decide) rfl hl.1 rfl (Nat.le_of_ble_eq_true rfl) dX10_round_46 (by decide)) (fun σ17 H locs hp hw => ?_)
      have p18_0 := hp
      have fr := oFr_tr fr p18_0 (by decide)
      refine lv_aload_n hx hb dX10_round_49 rfl (lv_at hl 2 rfl) ?_
      refine g_577 cx hw ha0 k_f_X10_19 dX10_round_50 (fun v19 e19 h19 => ?_)
      rw [show v19 = v16 from Option.some.inj (e19.symm.trans (((kr_c p18_0 (by decide)).trans e16)))]
      refine lv_iload_n hx hb dX10_round_53 rfl (lv_at hl 0 rfl) ?_
      refine lv_i2l hx hb dX10_round_54 rfl ?_
      refine lv_topl (fun v20 e20 => ?_)
      refine o_cv hw (oRunV cx hA hw q_X4_put k_m_X10_295 rfl h16 (by decide) (As := [.long v20]) (c_X4_put v16 h16 v20) (by decide) rfl hl.1 rfl (Nat.le_of_ble_eq_true rfl) dX10_round_55 (by decide)) (fun σ21 H locs hp hw => ?_)
      have p22_0 := hp
      have fr := oFr_tr fr p22_0 (by decide)
      refine lv_aload_n hx hb dX10_round_58 rfl (lv_at hl 2 rfl) ?_
      refine g_577 cx hw ha0 k_f_X10_19 dX10_round_59 (fun v23 e23 h23 => ?_)
      rw [show v23 = v16 from Option.some.inj (e23.symm.trans (((kr_c p22_0 (by decide)).trans ((kr_c p18_0 (by decide)).trans e16))))]
      refine lv_iload_n hx hb dX10_round_62 rfl (lv_at hl 1 rfl) ?_
      refine lv_aload_n hx hb dX10_round_63 rfl (lv_at hl 2 rfl) ?_
      refine g_583 cx hw ha0 k_f_X10_61 dX10_round_64 (fun v24 e24 h24 => ?_)
      rw [show v24 = v7 from Option.some.inj (e24.symm.trans (((kr_c p22_0 (by decide)).trans ((kr_c p18_0 (by decide)).trans ((kr_c p9_0 (by decide)).trans e7)))))]
      refine g_4 cx hw h7 k_f_X10_392 dX10_round_67 (fun v25 e25 h25 => ?_)
      refine lv_iload_n hx hb dX10_round_70 rfl (lv_at hl 0 rfl) ?_
      refine o_iald cx hw h25 (by decide) rfl (iv_in i15 (by decide)) dX10_round_71 (fun v26 e26 b26 => ?_)
      refine lv_isub hx hb dX10_round_72 ?_
      refine lv_topi (fun v27 e27 => ?_)
      refine lv_i2l hx hb dX10_round_73 rfl ?_
      refine lv_topl (fun v28 e28 => ?_)
      refine o_cv hw (oRunV cx hA hw q_X4_put k_m_X10_295 rfl h16 (by decide) (As := [.long v28]) (c_X4_put v16 h16 v28) (by decide) rfl hl.1 rfl (Nat.le_of_ble_eq_true rfl) dX10_round_74 (by decide)) (fun σ29 H locs hp hw => ?_)
      have p30_0 := hp
      have fr := oFr_tr fr p30_0 (by decide)
      refine lv_iload_n hx hb dX10_round_77 rfl (lv_at hl 1 rfl) ?_
      rw [← hQ]
      exact o_ri cx rx hw dX10_round_78 ⟨fr, (iv_w i11 (by decide))⟩
    · --
      have i31 : Iv v9 (-1) (-1) := iv_eq1 c10 p9_1 (⟨by decide, by decide⟩ : Iv (-1) (-1) (-1)) (by decide)
      refine lv_iconst (v := (-1)) hx hb dX10_round_27 (by decide) ?_
      rw [← hQ]
      exact o_ri cx rx hw dX10_round_28 ⟨fr, (iv_w (⟨by decide, by decide⟩ : Iv (-1) (-1) (-1)) (by decide))⟩
  · --
    have i32 : Iv v3 0 0 := iv_eq1 c4 p3_1 (⟨by decide, by decide⟩ : Iv 0 0 0) (by decide)
    refine lv_iconst (v := (-1)) hx hb dX10_round_11 (by decide) ?_
    rw [← hQ]
    exact o_ri cx rx hw dX10_round_12 ⟨fr, (iv_w (⟨by decide, by decide⟩ : Iv (-1) (-1) (-1)) (by decide))⟩
abbrev fs_X1_beginWithThistles : List Nat := [327, 328, 329, 330, 331, 517]
abbrev ts_X1_beginWithThistles : List Nat := [32, 33, 34]
set_option maxHeartbeats 4000000 in
set_option maxRecDepth 100000 in
theorem c_X1_beginWithThistles (a0 : Nat) (ha0 : oA L τ a0 0) (a1 : Int32) (ia1 : Iv a1 0 63) (a2 : Int32) (ia2 : Iv a2 0 63) : oMet l A L τ cy D K yX1_beginWithThistles cX1_beginWithThistles 3 none 3 101 [.ref a0, .int a1, .int a2] σ (va_Qv (fun σ1 => oFr τ fs_X1_beginWithThistles ts_X1_beginWithThistles σ σ1) (oPo A L τ cy D) A) := by
  refine oMk (by decide) (Nat.le_of_ble_eq_true rfl) rfl ?_
  intro p e s m args below meth c ls cx rx hA hw hl
  generalize hQ : MQ below _ args s 0 0 A = Q
  have hx := cx.1.1
  have hb := cx.1.2.1
  have hml := cx.1.2.2.1
  have hown := cx.1.2.2.2.1
  have hts := cx.1.2.2.2.2
  have hl : lv_has ls 3 [(0, .ref a0), (1, .int a1), (2, .int a2)] := hl
  have fr : oFr τ fs_X1_beginWithThistles ts_X1_beginWithThistles σ σ := oFr_rf
  refine lv_aload_n hx hb dX1_beginWithThistles_0 rfl (lv_at hl 0 rfl) ?_
  refine o_cr hw (oRunV cx hA hw q_X1_begin k_m_X1_46 rfl ha0 (by decide) (As := []) (c_X1_begin a0 ha0) (by decide) rfl hl.1 rfl (Nat.le_of_ble_eq_true rfl) dX1_beginWithThistles_1 (by decide)) (fun v2 σ1 H locs hp hw => ?_)
  obtain ⟨p2_0, p2_1⟩ := hp
  have fr := oFr_tr fr p2_0 (by decide)
  refine lv_pop hx hb dX1_beginWithThistles_4 rfl ?_
  refine lv_aload_n hx hb dX1_beginWithThistles_5 rfl (lv_at hl 0 rfl) ?_
  refine g_3 cx hw ha0 k_f_X1_12 dX1_beginWithThistles_6 (fun v3 e3 h3 => ?_)
  refine g_322 cx hw h3 k_f_X1_108 dX1_beginWithThistles_9 (fun v4 e4 h4 => ?_)
  refine lv_iload_n hx hb dX1_beginWithThistles_12 rfl (lv_at hl 1 rfl) ?_
  refine lv_bipush (v := 9) hx hb dX1_beginWithThistles_13 (by decide) ?_
  refine o_iast cx hw h4 (by decide) rfl (iv_in ia1 (by decide)) trivial dX1_beginWithThistles_15 (fun σ5 H locs eσ5 hw => ?_)
  have fr := oFr_p fr eσ5 h4 (by decide)
  refine lv_aload_n hx hb dX1_beginWithThistles_16 rfl (lv_at hl 0 rfl) ?_
  refine g_3 cx hw ha0 k_f_X1_12 dX1_beginWithThistles_17 (fun v6 e6 h6 => ?_)
  rw [show v6 = v3 from Option.some.inj (e6.symm.trans (((kr_p eσ5).trans e3)))]
  refine g_322 cx hw h3 k_f_X1_108 dX1_beginWithThistles_20 (fun v7 e7 h7 => ?_)
  rw [show v7 = v4 from Option.some.inj (e7.symm.trans (((kr_p eσ5).trans e4)))]
  refine lv_iload_n hx hb dX1_beginWithThistles_23 rfl (lv_at hl 2 rfl) ?_
  refine lv_bipush (v := 9) hx hb dX1_beginWithThistles_24 (by decide) ?_
  refine o_iast cx hw h4 (by decide) rfl (iv_in ia2 (by decide)) trivial dX1_beginWithThistles_26 (fun σ8 H locs eσ8 hw => ?_)
  have fr := oFr_p fr eσ8 h4 (by decide)
  rw [← hQ]
  exact o_rv cx rx hw dX1_beginWithThistles_27 fr
abbrev fs_X1_isHedgedByTwo : List Nat := [6, 7, 327, 328, 329, 330, 331, 517]
abbrev ts_X1_isHedgedByTwo : List Nat := [32, 33, 34, 37, 38]
set_option maxHeartbeats 4000000 in
set_option maxRecDepth 100000 in
theorem c_X1_isHedgedByTwo (a0 : Nat) (ha0 : oA L τ a0 0) (a1 : Int32) (a2 : Int32) (ia2 : Iv a2 1 100) : oMet l A L τ cy D K yX1_isHedgedByTwo cX1_isHedgedByTwo 5 (some .boolean) 5 129 [.ref a0, .int a1, .int a2] σ (va_Qi (fun r σ1 => oFr τ fs_X1_isHedgedByTwo ts_X1_isHedgedByTwo σ σ1 ∧ Iv r 0 1) (oPo A L τ cy D) A) := by
  refine oMk (by decide) (Nat.le_of_ble_eq_true rfl) rfl ?_
  intro p e s m args below meth c ls cx rx hA hw hl
  generalize hQ : MQ below _ args s 0 0 A = Q
  have hx := cx.1.1
  have hb := cx.1.2.1
  have hml := cx.1.2.2.1
  have hown := cx.1.2.2.2.1
  have hts := cx.1.2.2.2.2
  have hl : lv_has ls 5 [(0, .ref a0), (1, .int a1), (2, .int a2)] := hl
  have fr : oFr τ fs_X1_isHedgedByTwo ts_X1_isHedgedByTwo σ σ := oFr_rf
  refine lv_iconst (v := 0) hx hb dX1_isHedgedByTwo_0 (by decide) ?_
  refine lv_istore_n (lv' := [(3, .int 0), (0, .ref a0), (1, .int a1), (2, .int a2)]) hx hb dX1_isHedgedByTwo_1 rfl hl (by decide) rfl (fun ls hl => ?_)
  have J_2 : ∀ n : Nat, ∀ (j2_3 : Int32) (ij2_3 : Iv j2_3 0 64), (64 - j2_3.toInt).toNat < n → ∀ (σ_2 : oSt) (H : Heap) (locs : List Loc), oI A L τ cy D s.heap σ_2 H locs → oFr τ fs_X1_isHedgedByTwo ts_X1_isHedgedByTwo σ σ_2 → ∀ (ls : Array Slot), lv_has ls 5 [(0, .ref a0), (1, .int a1), (2, .int a2), (3, .int j2_3)] → W p l e ({ frames := 5, cells := 0, slots := 0, locals := 129 } : Room) s m args below meth c H locs 0 0 Q (F0 m 2 ls []) := by
    intro n
    induction n with
    | zero => intro j2_3 ij2_3 hn_2  σ_2 H locs hw fr   ls hl; exact absurd hn_2 (Nat.not_lt_zero _)
    | succ n ih_2 =>
      intro j2_3 ij2_3 hn_2  σ_2 H locs hw fr   ls hl
      refine lv_iload_n hx hb dX1_isHedgedByTwo_2 rfl (lv_at hl 3 rfl) ?_
      refine lv_bipush (v := 64) hx hb dX1_isHedgedByTwo_3 (by decide) ?_
      refine lv_icmp_ge (tgt := 113) hx hb dX1_isHedgedByTwo_5 (by decide) (fun c1 => ?_) (fun c1 => ?_)
      · --
        have i2 : Iv j2_3 64 64 := iv_le2 c1 (⟨by decide, by decide⟩ : Iv 64 64 64) ij2_3 (by decide)
        refine lv_iconst (v := 0) hx hb dX1_isHedgedByTwo_113 (by decide) ?_
        rw [← hQ]
        exact o_rz cx rx hw (iv_nz01 (iv_w (⟨by decide, by decide⟩ : Iv 0 0 0) (by decide))) dX1_isHedgedByTwo_114 ⟨fr, (iv_w (⟨by decide, by decide⟩ : Iv 0 0 0) (by decide))⟩
      · --
        have i3 : Iv j2_3 0 63 := iv_lt1 (iv_nle c1) ij2_3 (⟨by decide, by decide⟩ : Iv 64 64 64) (by decide)
        refine lv_iload_n hx hb dX1_isHedgedByTwo_8 rfl (lv_at hl 3 rfl) ?_
        refine lv_iconst (v := 1) hx hb dX1_isHedgedByTwo_9 (by decide) ?_
        refine lv_iadd hx hb dX1_isHedgedByTwo_10 ?_
        refine lv_topi (fun v4 e4 => ?_)
        have i4 : Iv v4 1 64 := iv_add e4 i3 (⟨by decide, by decide⟩ : Iv 1 1 1) (by decide)
        have x4 : v4.toInt = j2_3.toInt + 1 := ex_add e4 i3 (⟨by decide, by decide⟩ : Iv 1 1 1) (by decide)
        refine lv_istore (lv' := [(4, .int v4), (0, .ref a0), (1, .int a1), (2, .int a2), (3, .int j2_3)]) hx hb dX1_isHedgedByTwo_11 hl (by decide) rfl (fun ls hl => ?_)
        have J_13 : ∀ n : Nat, ∀ (j13_4 : Int32) (ij13_4 : Iv j13_4 1 64), (64 - j13_4.toInt).toNat < n → ∀ (σ_13 : oSt) (H : Heap) (locs : List Loc), oI A L τ cy D s.heap σ_13 H locs → oFr τ fs_X1_isHedgedByTwo ts_X1_isHedgedByTwo σ σ_13 → ∀ (ls : Array Slot), lv_has ls 5 [(0, .ref a0), (1, .int a1), (2, .int a2), (3, .int j2_3), (4, .int j13_4)] → W p l e ({ frames := 5, cells := 0, slots := 0, locals := 129 } : Room) s m args below meth c H locs 0 0 Q (F0 m 13 ls []) := by
          intro n
          induction n with
          | zero => intro j13_4 ij13_4 hn_13  σ_13 H locs hw fr   ls hl; exact absurd hn_13 (Nat.not_lt_zero _)
          | succ n ih_13 =>
            intro j13_4 ij13_4 hn_13  σ_13 H locs hw fr   ls hl
            refine lv_iload hx hb dX1_isHedgedByTwo_13 (lv_at hl 4 rfl) ?_
            refine lv_bipush (v := 64) hx hb dX1_isHedgedByTwo_15 (by decide) ?_
            refine lv_icmp_ge (tgt := 107) hx hb dX1_isHedgedByTwo_17 (by decide) (fun c5 => ?_) (fun c5 => ?_)
            · --
              have i6 : Iv j13_4 64 64 := iv_le2 c5 (⟨by decide, by decide⟩ : Iv 64 64 64) ij13_4 (by decide)
              obtain ⟨v7, e7⟩ : ∃ y : Int32, y = j2_3 + 1 := ⟨_, rfl⟩
              have i7 : Iv v7 1 64 := iv_add e7 i3 (⟨by decide, by decide⟩ : Iv 1 1 1) (by decide)
              have x7 : v7.toInt = j2_3.toInt + 1 := ex_add e7 i3 (⟨by decide, by decide⟩ : Iv 1 1 1) (by decide)
              refine lv_iinc (v := v7) (lv' := [(3, .int v7), (0, .ref a0), (1, .int a1), (2, .int a2), (4, .int j13_4)]) hx hb dX1_isHedgedByTwo_107 hl (k := 3) rfl (by rw [e7]; rfl) (by decide) rfl (fun ls hl => ?_)
              refine lv_goto (tgt := 2) hx hb dX1_isHedgedByTwo_110 (by decide) ?_
              exact ih_2 v7 (iv_w i7 (by decide)) (ms_up x7 (by decide) (iv_w (a' := 0) (b' := 64) i7 (by decide)).2 hn_2) σ_13 _ _ hw fr _ (lv_sub hl [1, 2, 3, 0] rfl)
            · --
              have i8 : Iv j13_4 1 63 := iv_lt1 (iv_nle c5) ij13_4 (⟨by decide, by decide⟩ : Iv 64 64 64) (by decide)
              refine lv_aload_n hx hb dX1_isHedgedByTwo_20 rfl (lv_at hl 0 rfl) ?_
              refine g_5 cx hw ha0 k_f_X1_22 dX1_isHedgedByTwo_21 (fun v9 e9 h9 => ?_)
              refine lv_iload_n hx hb dX1_isHedgedByTwo_24 rfl (lv_at hl 3 rfl) ?_
              refine o_lald cx hw h9 (by decide) rfl (iv_in i3 (by decide)) dX1_isHedgedByTwo_25 (fun v10 e10 => ?_)
              refine lv_iload hx hb dX1_isHedgedByTwo_26 (lv_at hl 4 rfl) ?_
              refine o_ci hw (oRunS cx hA hw q_X0_has k_m_X1_79 (As := [.long v10, .int j13_4]) (c_X0_has v10 j13_4) (by decide) rfl hl.1 rfl (Nat.le_of_ble_eq_true rfl) dX1_isHedgedByTwo_28 (by decide)) (fun v12 σ11 H locs hp hw => ?_)
              obtain ⟨p12_0, p12_1, p12_2⟩ := hp
              rw [p12_0] at hw
              have J_101 : ∀ (σ_101 : oSt) (H : Heap) (locs : List Loc), oI A L τ cy D s.heap σ_101 H locs → oFr τ fs_X1_isHedgedByTwo ts_X1_isHedgedByTwo σ σ_101 → ∀ (ls : Array Slot), lv_has ls 5 [(0, .ref a0), (1, .int a1), (2, .int a2), (3, .int j2_3), (4, .int j13_4)] → W p l e ({ frames := 5, cells := 0, slots := 0, locals := 129 } : Room) s m args below meth c H locs 0 0 Q (F0 m 101 ls []) := by
                intro    σ_101 H locs hw fr   ls hl
                obtain ⟨v13, e13⟩ : ∃ y : Int32, y = j13_4 + 1 := ⟨_, rfl⟩
                have i13 : Iv v13 2 64 := iv_add e13 i8 (⟨by decide, by decide⟩ : Iv 1 1 1) (by decide)
                have x13 : v13.toInt = j13_4.toInt + 1 := ex_add e13 i8 (⟨by decide, by decide⟩ : Iv 1 1 1) (by decide)
                refine lv_iinc (v := v13) (lv' := [(4, .int v13), (0, .ref a0), (1, .int a1), (2, .int a2), (3, .int j2_3)]) hx hb dX1_isHedgedByTwo_101 hl (k := 4) rfl (by rw [e13]; rfl) (by decide) rfl (fun ls hl => ?_)
                refine lv_goto (tgt := 13) hx hb dX1_isHedgedByTwo_104 (by decide) ?_
                exact ih_13 v13 (iv_w i13 (by decide)) (ms_up x13 (by decide) (iv_w (a' := 1) (b' := 64) i13 (by decide)).2 hn_13) σ_101 _ _ hw fr _ (lv_sub hl [1, 2, 3, 4, 0] rfl)
              refine lv_if_eq (tgt := 101) hx hb dX1_isHedgedByTwo_31 (by decide) (fun c14 => ?_) (fun c14 => ?_)
              · --
                have i15 : Iv v12 0 0 := iv_eq1 c14 p12_1 (⟨by decide, by decide⟩ : Iv 0 0 0) (by decide)
                exact J_101 σ_13 _ _ hw fr _ (lv_sub hl [0, 1, 2, 3, 4] rfl)
              · --
                have i16 : Iv v12 1 1 := iv_ne1 c14 p12_1 (⟨by decide, by decide⟩ : Iv 0 0 0) (by decide)
                have i17 : Iv j13_4 0 63 := p12_2 c14
                refine lv_aload_n hx hb dX1_isHedgedByTwo_34 rfl (lv_at hl 0 rfl) ?_
                refine g_5 cx hw ha0 k_f_X1_22 dX1_isHedgedByTwo_35 (fun v18 e18 h18 => ?_)
                rw [show v18 = v9 from Option.some.inj (e18.symm.trans (e9))]
                refine lv_iload hx hb dX1_isHedgedByTwo_38 (lv_at hl 4 rfl) ?_
                refine o_lald cx hw h9 (by decide) rfl (iv_in i8 (by decide)) dX1_isHedgedByTwo_40 (fun v19 e19 => ?_)
                refine lv_iload_n hx hb dX1_isHedgedByTwo_41 rfl (lv_at hl 3 rfl) ?_
                refine o_ci hw (oRunS cx hA hw q_X0_has k_m_X1_79 (As := [.long v19, .int j2_3]) (c_X0_has v19 j2_3) (by decide) rfl hl.1 rfl (Nat.le_of_ble_eq_true rfl) dX1_isHedgedByTwo_42 (by decide)) (fun v21 σ20 H locs hp hw => ?_)
                obtain ⟨p21_0, p21_1, p21_2⟩ := hp
                rw [p21_0] at hw
                refine lv_if_eq (tgt := 101) hx hb dX1_isHedgedByTwo_45 (by decide) (fun c22 => ?_) (fun c22 => ?_)
                · --
                  have i23 : Iv v21 0 0 := iv_eq1 c22 p21_1 (⟨by decide, by decide⟩ : Iv 0 0 0) (by decide)
                  exact J_101 σ_13 _ _ hw fr _ (lv_sub hl [0, 1, 2, 3, 4] rfl)
                · --
                  have i24 : Iv v21 1 1 := iv_ne1 c22 p21_1 (⟨by decide, by decide⟩ : Iv 0 0 0) (by decide)
                  have i25 : Iv j2_3 0 63 := p21_2 c22
                  refine lv_aload_n hx hb dX1_isHedgedByTwo_48 rfl (lv_at hl 0 rfl) ?_
                  refine g_1 cx hw ha0 k_f_X1_29 dX1_isHedgedByTwo_49 (fun v26 e26 h26 => ?_)
                  refine lv_iload_n hx hb dX1_isHedgedByTwo_52 rfl (lv_at hl 3 rfl) ?_
                  refine o_ci hw (oRunV cx hA hw q_X2_isPlain k_m_X1_85 rfl h26 (by decide) (As := [.int j2_3]) (c_X2_isPlain v26 h26 j2_3) (by decide) rfl hl.1 rfl (Nat.le_of_ble_eq_true rfl) dX1_isHedgedByTwo_53 (by decide)) (fun v28 σ27 H locs hp hw => ?_)
                  obtain ⟨p28_0, p28_1, p28_2⟩ := hp
                  rw [p28_0] at hw
                  refine lv_if_eq (tgt := 101) hx hb dX1_isHedgedByTwo_56 (by decide) (fun c29 => ?_) (fun c29 => ?_)
                  · --
                    have i30 : Iv v28 0 0 := iv_eq1 c29 p28_1 (⟨by decide, by decide⟩ : Iv 0 0 0) (by decide)
                    exact J_101 σ_13 _ _ hw fr _ (lv_sub hl [0, 1, 2, 3, 4] rfl)
                  · --
                    have i31 : Iv v28 1 1 := iv_ne1 c29 p28_1 (⟨by decide, by decide⟩ : Iv 0 0 0) (by decide)
                    have i32 : Iv j2_3 0 63 := p28_2 c29
                    refine lv_aload_n hx hb dX1_isHedgedByTwo_59 rfl (lv_at hl 0 rfl) ?_
                    refine g_1 cx hw ha0 k_f_X1_29 dX1_isHedgedByTwo_60 (fun v33 e33 h33 => ?_)
                    rw [show v33 = v26 from Option.some.inj (e33.symm.trans (e26))]
                    refine lv_iload hx hb dX1_isHedgedByTwo_63 (lv_at hl 4 rfl) ?_
                    refine o_ci hw (oRunV cx hA hw q_X2_isPlain k_m_X1_85 rfl h26 (by decide) (As := [.int j13_4]) (c_X2_isPlain v26 h26 j13_4) (by decide) rfl hl.1 rfl (Nat.le_of_ble_eq_true rfl) dX1_isHedgedByTwo_65 (by decide)) (fun v35 σ34 H locs hp hw => ?_)
                    obtain ⟨p35_0, p35_1, p35_2⟩ := hp
                    rw [p35_0] at hw
                    refine lv_if_eq (tgt := 101) hx hb dX1_isHedgedByTwo_68 (by decide) (fun c36 => ?_) (fun c36 => ?_)
                    · --
                      have i37 : Iv v35 0 0 := iv_eq1 c36 p35_1 (⟨by decide, by decide⟩ : Iv 0 0 0) (by decide)
                      exact J_101 σ_13 _ _ hw fr _ (lv_sub hl [0, 1, 2, 3, 4] rfl)
                    · --
                      have i38 : Iv v35 1 1 := iv_ne1 c36 p35_1 (⟨by decide, by decide⟩ : Iv 0 0 0) (by decide)
                      have i39 : Iv j13_4 0 63 := p35_2 c36
                      refine lv_aload_n hx hb dX1_isHedgedByTwo_71 rfl (lv_at hl 0 rfl) ?_
                      refine lv_iload_n hx hb dX1_isHedgedByTwo_72 rfl (lv_at hl 3 rfl) ?_
                      refine lv_iload hx hb dX1_isHedgedByTwo_73 (lv_at hl 4 rfl) ?_
                      refine o_cv hw (oRunV cx hA hw q_X1_beginWithThistles k_m_X1_101 rfl ha0 (by decide) (As := [.int j2_3, .int j13_4]) (c_X1_beginWithThistles a0 ha0 j2_3 (iv_w i32 (by decide)) j13_4 (iv_w i8 (by decide))) (by decide) rfl hl.1 rfl (Nat.le_of_ble_eq_true rfl) dX1_isHedgedByTwo_75 (by decide)) (fun σ40 H locs hp hw => ?_)
                      have p41_0 := hp
                      have fr := oFr_tr fr p41_0 (by decide)
                      refine lv_aload_n hx hb dX1_isHedgedByTwo_78 rfl (lv_at hl 0 rfl) ?_
                      refine lv_iload_n hx hb dX1_isHedgedByTwo_79 rfl (lv_at hl 1 rfl) ?_
                      refine lv_iload_n hx hb dX1_isHedgedByTwo_80 rfl (lv_at hl 2 rfl) ?_
                      refine o_ci hw (oRunV cx hA hw q_X1_hourOfComing k_m_X1_94 rfl ha0 (by decide) (As := [.int a1, .int a2]) (c_X1_hourOfComing a0 ha0 a1 a2 (iv_w ia2 (by decide))) (by decide) rfl hl.1 rfl (Nat.le_of_ble_eq_true rfl) dX1_isHedgedByTwo_81 (by decide)) (fun v43 σ42 H locs hp hw => ?_)
                      obtain ⟨p43_0, p43_1⟩ := hp
                      have fr := oFr_tr fr p43_0 (by decide)
                      refine lv_iconst (v := (-1)) hx hb dX1_isHedgedByTwo_84 (by decide) ?_
                      refine lv_icmp_ne (tgt := 101) hx hb dX1_isHedgedByTwo_85 (by decide) (fun c44 => ?_) (fun c44 => ?_)
                      · --
                        have i45 : Iv v43 0 100 := iv_ne1 c44 p43_1 (⟨by decide, by decide⟩ : Iv (-1) (-1) (-1)) (by decide)
                        exact J_101 σ42 _ _ hw fr _ (lv_sub hl [0, 1, 2, 3, 4] rfl)
                      · --
                        have i46 : Iv v43 (-1) (-1) := iv_eq1 c44 p43_1 (⟨by decide, by decide⟩ : Iv (-1) (-1) (-1)) (by decide)
                        refine lv_aload_n hx hb dX1_isHedgedByTwo_88 rfl (lv_at hl 0 rfl) ?_
                        refine lv_iload_n hx hb dX1_isHedgedByTwo_89 rfl (lv_at hl 3 rfl) ?_
                        refine p_6 cx hw ha0 k_f_X1_98 dX1_isHedgedByTwo_90 (fun σ47 H locs eσ47 hw => ?_)
                        have fr := oFr_i fr eσ47 (by decide)
                        refine lv_aload_n hx hb dX1_isHedgedByTwo_93 rfl (lv_at hl 0 rfl) ?_
                        refine lv_iload hx hb dX1_isHedgedByTwo_94 (lv_at hl 4 rfl) ?_
                        refine p_7 cx hw ha0 k_f_X1_105 dX1_isHedgedByTwo_96 (fun σ48 H locs eσ48 hw => ?_)
                        have fr := oFr_i fr eσ48 (by decide)
                        refine lv_iconst (v := 1) hx hb dX1_isHedgedByTwo_99 (by decide) ?_
                        rw [← hQ]
                        exact o_rz cx rx hw (iv_nz01 (iv_w (⟨by decide, by decide⟩ : Iv 1 1 1) (by decide))) dX1_isHedgedByTwo_100 ⟨fr, (iv_w (⟨by decide, by decide⟩ : Iv 1 1 1) (by decide))⟩
        exact J_13 _ v4 i4 (Nat.lt_succ_self _) σ_2 _ _ hw fr _ (lv_sub hl [1, 2, 3, 4, 0] rfl)
  exact J_2 _ 0 (iv_w (⟨by decide, by decide⟩ : Iv 0 0 0) (by decide)) (Nat.lt_succ_self _) σ _ _ hw fr _ (lv_sub hl [1, 2, 3, 0] rfl)
set_option maxHeartbeats 4000000 in
set_option maxRecDepth 100000 in
theorem c_X2_gatesIn (a0 : Nat) (ha0 : oA L τ a0 1) (a1 : Int64) : oMet l A L τ cy D K yX2_gatesIn cX2_gatesIn 5 (some .int) 1 22 [.ref a0, .long a1] σ (va_Qi (fun r σ1 => σ1 = σ ∧ Iv r 0 63) (oPo A L τ cy D) A) := by
  refine oMk (by decide) (Nat.le_of_ble_eq_true rfl) rfl ?_
  intro p e s m args below meth c ls cx rx hA hw hl
  generalize hQ : MQ below _ args s 0 0 A = Q
  have hx := cx.1.1
  have hb := cx.1.2.1
  have hml := cx.1.2.2.1
  have hown := cx.1.2.2.2.1
  have hts := cx.1.2.2.2.2
  have hl : lv_has ls 5 [(0, .ref a0), (1, .long a1)] := hl
  refine lv_iconst (v := 0) hx hb dX2_gatesIn_0 (by decide) ?_
  refine lv_istore_n (lv' := [(3, .int 0), (0, .ref a0), (1, .long a1)]) hx hb dX2_gatesIn_1 rfl hl (by decide) rfl (fun ls hl => ?_)
  refine lv_iconst (v := 0) hx hb dX2_gatesIn_2 (by decide) ?_
  refine lv_istore (lv' := [(4, .int 0), (3, .int 0), (0, .ref a0), (1, .long a1)]) hx hb dX2_gatesIn_3 hl (by decide) rfl (fun ls hl => ?_)
  have J_5 : ∀ n : Nat, ∀ (j5_3 : Int32) (ij5_3 : Iv j5_3 0 63) (j5_4 : Int32) (ij5_4 : Iv j5_4 0 6), (6 - j5_4.toInt).toNat < n → ∀ (H : Heap) (locs : List Loc), oI A L τ cy D s.heap σ H locs → ∀ (ls : Array Slot), lv_has ls 5 [(0, .ref a0), (1, .long a1), (3, .int j5_3), (4, .int j5_4)] → W p l e ({ frames := 1, cells := 0, slots := 0, locals := 22 } : Room) s m args below meth c H locs 0 0 Q (F0 m 5 ls []) := by
    intro n
    induction n with
    | zero => intro j5_3 ij5_3 j5_4 ij5_4 hn_5  H locs hw  ls hl; exact absurd hn_5 (Nat.not_lt_zero _)
    | succ n ih_5 =>
      intro j5_3 ij5_3 j5_4 ij5_4 hn_5  H locs hw  ls hl
      refine lv_iload hx hb dX2_gatesIn_5 (lv_at hl 3 rfl) ?_
      refine lv_aload_n hx hb dX2_gatesIn_7 rfl (lv_at hl 0 rfl) ?_
      refine g_66 cx hw ha0 k_f_X2_54 dX2_gatesIn_8 (fun v1 e1 i1 => ?_)
      refine lv_icmp_ge (tgt := 41) hx hb dX2_gatesIn_11 (by decide) (fun c2 => ?_) (fun c2 => ?_)
      · --
        refine lv_iload_n hx hb dX2_gatesIn_41 rfl (lv_at hl 2 rfl) ?_
        rw [← hQ]
        exact o_ri cx rx hw dX2_gatesIn_42 ⟨rfl, (iv_w ij5_3 (by decide))⟩
      · --
        have i3 : Iv j5_4 0 5 := iv_lt1 (iv_nle c2) ij5_4 i1 (by decide)
        have i4 : Iv v1 1 6 := iv_lt2 (iv_nle c2) ij5_4 i1 (by decide)
        refine lv_lload_n hx hb dX2_gatesIn_14 rfl (lv_at hl 1 rfl) ?_
        refine lv_aload_n hx hb dX2_gatesIn_15 rfl (lv_at hl 0 rfl) ?_
        refine g_67 cx hw ha0 k_f_X2_9 dX2_gatesIn_16 (fun v5 e5 h5 => ?_)
        refine lv_iload hx hb dX2_gatesIn_19 (lv_at hl 3 rfl) ?_
        refine o_iald cx hw h5 (by decide) rfl (iv_in i3 (by decide)) dX2_gatesIn_21 (fun v6 e6 b6 => ?_)
        refine o_ci hw (oRunS cx hA hw q_X0_has k_m_X2_86 (As := [.long a1, .int v6]) (c_X0_has a1 v6) (by decide) rfl hl.1 rfl (Nat.le_of_ble_eq_true rfl) dX2_gatesIn_22 (by decide)) (fun v8 σ7 H locs hp hw => ?_)
        obtain ⟨p8_0, p8_1, p8_2⟩ := hp
        rw [p8_0] at hw
        have J_35 : ∀ (j35_3 : Int32) (ij35_3 : Iv j35_3 0 63), ∀ (H : Heap) (locs : List Loc), oI A L τ cy D s.heap σ H locs → ∀ (ls : Array Slot), lv_has ls 5 [(0, .ref a0), (1, .long a1), (3, .int j35_3), (4, .int j5_4)] → W p l e ({ frames := 1, cells := 0, slots := 0, locals := 22 } : Room) s m args below meth c H locs 0 0 Q (F0 m 35 ls []) := by
          intro j35_3 ij35_3   H locs hw  ls hl
          obtain ⟨v9, e9⟩ : ∃ y : Int32, y = j5_4 + 1 := ⟨_, rfl⟩
          have i9 : Iv v9 1 6 := iv_add e9 i3 (⟨by decide, by decide⟩ : Iv 1 1 1) (by decide)
          have x9 : v9.toInt = j5_4.toInt + 1 := ex_add e9 i3 (⟨by decide, by decide⟩ : Iv 1 1 1) (by decide)
          refine lv_iinc (v := v9) (lv' := [(4, .int v9), (0, .ref a0), (1, .long a1), (3, .int j35_3)]) hx hb dX2_gatesIn_35 hl (k := 3) rfl (by rw [e9]; rfl) (by decide) rfl (fun ls hl => ?_)
          refine lv_goto (tgt := 5) hx hb dX2_gatesIn_38 (by decide) ?_
          exact ih_5 j35_3 ij35_3 v9 (iv_w i9 (by decide)) (ms_up x9 (by decide) (iv_w (a' := 0) (b' := 6) i9 (by decide)).2 hn_5) _ _ hw _ (lv_sub hl [1, 2, 3, 0] rfl)
        refine lv_if_eq (tgt := 35) hx hb dX2_gatesIn_25 (by decide) (fun c10 => ?_) (fun c10 => ?_)
        · --
          have i11 : Iv v8 0 0 := iv_eq1 c10 p8_1 (⟨by decide, by decide⟩ : Iv 0 0 0) (by decide)
          exact J_35 j5_3 ij5_3 _ _ hw _ (lv_sub hl [0, 1, 2, 3] rfl)
        · --
          have i12 : Iv v8 1 1 := iv_ne1 c10 p8_1 (⟨by decide, by decide⟩ : Iv 0 0 0) (by decide)
          have i13 : Iv v6 0 63 := p8_2 c10
          refine lv_iload_n hx hb dX2_gatesIn_28 rfl (lv_at hl 2 rfl) ?_
          refine lv_iconst (v := 1) hx hb dX2_gatesIn_29 (by decide) ?_
          refine lv_iload hx hb dX2_gatesIn_30 (lv_at hl 3 rfl) ?_
          refine lv_ishl hx hb dX2_gatesIn_32 ?_
          refine lv_topi (fun v14 e14 => ?_)
          have i14 : Iv v14 1 32 := iv_shl1 e14 i3 (by decide)
          refine lv_ior hx hb dX2_gatesIn_33 ?_
          refine lv_topi (fun v15 e15 => ?_)
          have i15 : Iv v15 0 63 := iv_or e15 ij5_3 i14 6 (by decide)
          refine lv_istore_n (lv' := [(3, .int v15), (0, .ref a0), (1, .long a1), (4, .int j5_4)]) hx hb dX2_gatesIn_34 rfl hl (by decide) rfl (fun ls hl => ?_)
          exact J_35 v15 i15 _ _ hw _ (lv_sub hl [1, 2, 0, 3] rfl)
  exact J_5 _ 0 (iv_w (⟨by decide, by decide⟩ : Iv 0 0 0) (by decide)) 0 (iv_w (⟨by decide, by decide⟩ : Iv 0 0 0) (by decide)) (Nat.lt_succ_self _) _ _ hw _ (lv_sub hl [2, 3, 1, 0] rfl)
abbrev fs_X1_isAtWith : List Nat := [327, 328, 329, 330, 331, 517]
abbrev ts_X1_isAtWith : List Nat := [32, 33, 34, 37, 38]
set_option maxHeartbeats 4000000 in
set_option maxRecDepth 100000 in
theorem c_X1_isAtWith (a0 : Nat) (ha0 : oA L τ a0 0) (a1 : Int32) (a2 : Int32) (ia2 : Iv a2 0 5) (a3 : Int32) (a4 : Int32) : oMet l A L τ cy D K yX1_isAtWith cX1_isAtWith 5 (some .boolean) 5 130 [.ref a0, .int a1, .int a2, .int a3, .int a4] σ (va_Qi (fun r σ1 => oFr τ fs_X1_isAtWith ts_X1_isAtWith σ σ1 ∧ Iv r 0 1) (oPo A L τ cy D) A) := by
  refine oMk (by decide) (Nat.le_of_ble_eq_true rfl) rfl ?_
  intro p e s m args below meth c ls cx rx hA hw hl
  generalize hQ : MQ below _ args s 0 0 A = Q
  have hx := cx.1.1
  have hb := cx.1.2.1
  have hml := cx.1.2.2.1
  have hown := cx.1.2.2.2.1
  have hts := cx.1.2.2.2.2
  have hl : lv_has ls 5 [(0, .ref a0), (1, .int a1), (2, .int a2), (3, .int a3), (4, .int a4)] := hl
  have fr : oFr τ fs_X1_isAtWith ts_X1_isAtWith σ σ := oFr_rf
  refine lv_aload_n hx hb dX1_isAtWith_0 rfl (lv_at hl 0 rfl) ?_
  refine o_cr hw (oRunV cx hA hw q_X1_begin k_m_X1_46 rfl ha0 (by decide) (As := []) (c_X1_begin a0 ha0) (by decide) rfl hl.1 rfl (Nat.le_of_ble_eq_true rfl) dX1_isAtWith_1 (by decide)) (fun v2 σ1 H locs hp hw => ?_)
  obtain ⟨p2_0, p2_1⟩ := hp
  have fr := oFr_tr fr p2_0 (by decide)
  refine lv_pop hx hb dX1_isAtWith_4 rfl ?_
  refine lv_aload_n hx hb dX1_isAtWith_5 rfl (lv_at hl 0 rfl) ?_
  refine g_3 cx hw ha0 k_f_X1_12 dX1_isAtWith_6 (fun v3 e3 h3 => ?_)
  refine lv_iload_n hx hb dX1_isAtWith_9 rfl (lv_at hl 1 rfl) ?_
  refine p_330 cx hw h3 k_f_X1_71 dX1_isAtWith_10 (fun σ4 H locs eσ4 hw => ?_)
  have fr := oFr_i fr eσ4 (by decide)
  refine lv_aload_n hx hb dX1_isAtWith_13 rfl (lv_at hl 0 rfl) ?_
  refine g_2 cx hw ha0 k_f_X1_33 dX1_isAtWith_14 (fun v5 e5 h5 => ?_)
  refine lv_aload_n hx hb dX1_isAtWith_17 rfl (lv_at hl 0 rfl) ?_
  refine g_3 cx hw ha0 k_f_X1_12 dX1_isAtWith_18 (fun v6 e6 h6 => ?_)
  rw [show v6 = v3 from Option.some.inj (e6.symm.trans (((kr_i eσ4).trans e3)))]
  refine lv_iload hx hb dX1_isAtWith_21 (lv_at hl 4 rfl) ?_
  refine o_ci hw (oRunV cx hA hw q_X9_passMany k_m_X1_50 rfl h5 (by decide) (As := [.ref v3, .int a4]) (c_X9_passMany v5 h5 v3 h3 a4) (by decide) rfl hl.1 rfl (Nat.le_of_ble_eq_true rfl) dX1_isAtWith_23 (by decide)) (fun v8 σ7 H locs hp hw => ?_)
  have p8_0 := hp
  have fr := oFr_tr fr p8_0 (by decide)
  refine lv_pop hx hb dX1_isAtWith_26 rfl ?_
  refine lv_aload_n hx hb dX1_isAtWith_27 rfl (lv_at hl 0 rfl) ?_
  refine g_3 cx hw ha0 k_f_X1_12 dX1_isAtWith_28 (fun v9 e9 h9 => ?_)
  rw [show v9 = v3 from Option.some.inj (e9.symm.trans (((kr_c p8_0 (by decide)).trans ((kr_i eσ4).trans e3))))]
  refine g_325 cx hw h3 k_f_X1_68 dX1_isAtWith_31 (fun v10 e10 h10 => ?_)
  refine lv_iload_n hx hb dX1_isAtWith_34 rfl (lv_at hl 2 rfl) ?_
  refine o_iald cx hw h10 (by decide) rfl (iv_in ia2 (by decide)) dX1_isAtWith_35 (fun v11 e11 b11 => ?_)
  have i11 : Iv v11 0 63 := b11
  refine lv_iload_n hx hb dX1_isAtWith_36 rfl (lv_at hl 3 rfl) ?_
  refine lv_icmp_ne (tgt := 44) hx hb dX1_isAtWith_37 (by decide) (fun c12 => ?_) (fun c12 => ?_)
  · --
    refine lv_iconst (v := 0) hx hb dX1_isAtWith_44 (by decide) ?_
    rw [← hQ]
    exact o_rz cx rx hw (iv_nz01 (iv_w (⟨by decide, by decide⟩ : Iv 0 0 0) (by decide))) dX1_isAtWith_45 ⟨fr, (iv_w (⟨by decide, by decide⟩ : Iv 0 0 0) (by decide))⟩
  · --
    have i13 : Iv a3 0 63 := iv_eq1 (Eq.symm c12) (iv_top a3) i11 (by decide)
    refine lv_iconst (v := 1) hx hb dX1_isAtWith_40 (by decide) ?_
    refine lv_goto (tgt := 45) hx hb dX1_isAtWith_41 (by decide) ?_
    rw [← hQ]
    exact o_rz cx rx hw (iv_nz01 (iv_w (⟨by decide, by decide⟩ : Iv 1 1 1) (by decide))) dX1_isAtWith_45 ⟨fr, (iv_w (⟨by decide, by decide⟩ : Iv 1 1 1) (by decide))⟩
abbrev fs_X10_gates : List Nat := [193, 327, 328, 329, 330, 331, 517]
abbrev ts_X10_gates : List Nat := [32, 33, 34, 36, 37, 38]
set_option maxHeartbeats 4000000 in
set_option maxRecDepth 100000 in
theorem c_X10_gates (a0 : Nat) (ha0 : oA L τ a0 9) (a1 : Int32) (a2 : Int32) (a3 : Int32) : oMet l A L τ cy D K yX10_gates cX10_gates 10 (some .int) 6 154 [.ref a0, .int a1, .int a2, .int a3] σ (va_Qi (fun r σ1 => oFr τ fs_X10_gates ts_X10_gates σ σ1) (oPo A L τ cy D) A) := by
  refine oMk (by decide) (Nat.le_of_ble_eq_true rfl) rfl ?_
  intro p e s m args below meth c ls cx rx hA hw hl
  generalize hQ : MQ below _ args s 0 0 A = Q
  have hx := cx.1.1
  have hb := cx.1.2.1
  have hml := cx.1.2.2.1
  have hown := cx.1.2.2.2.1
  have hts := cx.1.2.2.2.2
  have hl : lv_has ls 10 [(0, .ref a0), (1, .int a1), (2, .int a2), (3, .int a3)] := hl
  have fr : oFr τ fs_X10_gates ts_X10_gates σ σ := oFr_rf
  refine lv_aload_n hx hb dX10_gates_0 rfl (lv_at hl 0 rfl) ?_
  refine g_581 cx hw ha0 k_f_X10_49 dX10_gates_1 (fun v1 e1 h1 => ?_)
  refine lv_iload_n hx hb dX10_gates_4 rfl (lv_at hl 1 rfl) ?_
  refine o_ci hw (oRunV cx hA hw q_X6_hasHerd k_m_X10_178 rfl h1 (by decide) (As := [.int a1]) (c_X6_hasHerd v1 h1 a1) (by decide) rfl hl.1 rfl (Nat.le_of_ble_eq_true rfl) dX10_gates_5 (by decide)) (fun v3 σ2 H locs hp hw => ?_)
  obtain ⟨p3_0, p3_1, p3_2⟩ := hp
  rw [p3_0] at hw
  refine lv_if_eq (tgt := 33) hx hb dX10_gates_8 (by decide) (fun c4 => ?_) (fun c4 => ?_)
  · --
    have i5 : Iv v3 0 0 := iv_eq1 c4 p3_1 (⟨by decide, by decide⟩ : Iv 0 0 0) (by decide)
    refine lv_iconst (v := (-1)) hx hb dX10_gates_33 (by decide) ?_
    rw [← hQ]
    exact o_ri cx rx hw dX10_gates_34 fr
  · --
    have i6 : Iv v3 1 1 := iv_ne1 c4 p3_1 (⟨by decide, by decide⟩ : Iv 0 0 0) (by decide)
    have i7 : Iv a1 0 5 := p3_2 c4
    refine lv_aload_n hx hb dX10_gates_11 rfl (lv_at hl 0 rfl) ?_
    refine g_578 cx hw ha0 k_f_X10_26 dX10_gates_12 (fun v8 e8 h8 => ?_)
    refine lv_iload_n hx hb dX10_gates_15 rfl (lv_at hl 2 rfl) ?_
    refine o_ci hw (oRunV cx hA hw q_X2_isThere k_m_X10_135 rfl h8 (by decide) (As := [.int a2]) (c_X2_isThere v8 h8 a2) (by decide) rfl hl.1 rfl (Nat.le_of_ble_eq_true rfl) dX10_gates_16 (by decide)) (fun v10 σ9 H locs hp hw => ?_)
    obtain ⟨p10_0, p10_1, p10_2⟩ := hp
    rw [p10_0] at hw
    refine lv_if_eq (tgt := 33) hx hb dX10_gates_19 (by decide) (fun c11 => ?_) (fun c11 => ?_)
    · --
      have i12 : Iv v10 0 0 := iv_eq1 c11 p10_1 (⟨by decide, by decide⟩ : Iv 0 0 0) (by decide)
      refine lv_iconst (v := (-1)) hx hb dX10_gates_33 (by decide) ?_
      rw [← hQ]
      exact o_ri cx rx hw dX10_gates_34 fr
    · --
      have i13 : Iv v10 1 1 := iv_ne1 c11 p10_1 (⟨by decide, by decide⟩ : Iv 0 0 0) (by decide)
      have i14 : Iv a2 0 63 := p10_2 c11
      refine lv_iload_n hx hb dX10_gates_22 rfl (lv_at hl 3 rfl) ?_
      refine lv_iconst (v := 1) hx hb dX10_gates_23 (by decide) ?_
      refine lv_icmp_lt (tgt := 33) hx hb dX10_gates_24 (by decide) (fun c15 => ?_) (fun c15 => ?_)
      · --
        have i16 : Iv a3 (-2147483648) 0 := iv_lt1 c15 (iv_top a3) (⟨by decide, by decide⟩ : Iv 1 1 1) (by decide)
        refine lv_iconst (v := (-1)) hx hb dX10_gates_33 (by decide) ?_
        rw [← hQ]
        exact o_ri cx rx hw dX10_gates_34 fr
      · --
        have i17 : Iv a3 1 2147483647 := iv_le2 (iv_nlt c15) (⟨by decide, by decide⟩ : Iv 1 1 1) (iv_top a3) (by decide)
        refine lv_iload_n hx hb dX10_gates_27 rfl (lv_at hl 3 rfl) ?_
        refine lv_bipush (v := 100) hx hb dX10_gates_28 (by decide) ?_
        refine lv_icmp_le (tgt := 35) hx hb dX10_gates_30 (by decide) (fun c18 => ?_) (fun c18 => ?_)
        · --
          have i19 : Iv a3 1 100 := iv_le1 c18 i17 (⟨by decide, by decide⟩ : Iv 100 100 100) (by decide)
          refine lv_aload_n hx hb dX10_gates_35 rfl (lv_at hl 0 rfl) ?_
          refine g_578 cx hw ha0 k_f_X10_26 dX10_gates_36 (fun v20 e20 h20 => ?_)
          rw [show v20 = v8 from Option.some.inj (e20.symm.trans (e8))]
          refine lv_aload_n hx hb dX10_gates_39 rfl (lv_at hl 0 rfl) ?_
          refine g_581 cx hw ha0 k_f_X10_49 dX10_gates_40 (fun v21 e21 h21 => ?_)
          rw [show v21 = v1 from Option.some.inj (e21.symm.trans (e1))]
          refine o_cl hw (oRunV cx hA hw q_X6_herdCells k_m_X10_410 rfl h1 (by decide) (As := []) (c_X6_herdCells v1 h1) (by decide) rfl hl.1 rfl (Nat.le_of_ble_eq_true rfl) dX10_gates_43 (by decide)) (fun v23 σ22 H locs hp hw => ?_)
          have p23_0 := hp
          rw [p23_0] at hw
          refine o_ci hw (oRunV cx hA hw q_X2_gatesIn k_m_X10_413 rfl h8 (by decide) (As := [.long v23]) (c_X2_gatesIn v8 h8 v23) (by decide) rfl hl.1 rfl (Nat.le_of_ble_eq_true rfl) dX10_gates_46 (by decide)) (fun v25 σ24 H locs hp hw => ?_)
          obtain ⟨p25_0, p25_1⟩ := hp
          rw [p25_0] at hw
          refine lv_istore (lv' := [(4, .int v25), (0, .ref a0), (1, .int a1), (2, .int a2), (3, .int a3)]) hx hb dX10_gates_49 hl (by decide) rfl (fun ls hl => ?_)
          refine lv_iconst (v := 0) hx hb dX10_gates_51 (by decide) ?_
          refine lv_istore (lv' := [(5, .int 0), (4, .int v25), (0, .ref a0), (1, .int a1), (2, .int a2), (3, .int a3)]) hx hb dX10_gates_52 hl (by decide) rfl (fun ls hl => ?_)
          refine lv_iconst (v := (-1)) hx hb dX10_gates_54 (by decide) ?_
          refine lv_istore (lv' := [(6, .int (-1)), (5, .int 0), (4, .int v25), (0, .ref a0), (1, .int a1), (2, .int a2), (3, .int a3)]) hx hb dX10_gates_55 hl (by decide) rfl (fun ls hl => ?_)
          refine lv_iconst (v := (-1)) hx hb dX10_gates_57 (by decide) ?_
          refine lv_istore (lv' := [(7, .int (-1)), (6, .int (-1)), (5, .int 0), (4, .int v25), (0, .ref a0), (1, .int a1), (2, .int a2), (3, .int a3)]) hx hb dX10_gates_58 hl (by decide) rfl (fun ls hl => ?_)
          refine lv_iconst (v := 0) hx hb dX10_gates_60 (by decide) ?_
          refine lv_istore (lv' := [(8, .int 0), (7, .int (-1)), (6, .int (-1)), (5, .int 0), (4, .int v25), (0, .ref a0), (1, .int a1), (2, .int a2), (3, .int a3)]) hx hb dX10_gates_61 hl (by decide) rfl (fun ls hl => ?_)
          have J_63 : ∀ n : Nat, ∀ (j63_5 : Int32) (j63_6 : Int32) (ij63_6 : Iv j63_6 (-1) 2147483647) (j63_7 : Int32) (ij63_7 : Iv j63_7 (-1) 2147483647) (j63_8 : Int32) (ij63_8 : Iv j63_8 0 2147483647), (2147483647 - j63_8.toInt).toNat < n → ∀ (σ_63 : oSt) (H : Heap) (locs : List Loc), oI A L τ cy D s.heap σ_63 H locs → oFr τ fs_X10_gates ts_X10_gates σ σ_63 → ∀ (ls : Array Slot), lv_has ls 10 [(0, .ref a0), (1, .int a1), (2, .int a2), (3, .int a3), (4, .int v25), (5, .int j63_5), (6, .int j63_6), (7, .int j63_7), (8, .int j63_8)] → W p l e ({ frames := 6, cells := 0, slots := 0, locals := 154 } : Room) s m args below meth c H locs 0 0 Q (F0 m 63 ls []) := by
            intro n
            induction n with
            | zero => intro j63_5 j63_6 ij63_6 j63_7 ij63_7 j63_8 ij63_8 hn_63  σ_63 H locs hw fr   ls hl; exact absurd hn_63 (Nat.not_lt_zero _)
            | succ n ih_63 =>
              intro j63_5 j63_6 ij63_6 j63_7 ij63_7 j63_8 ij63_8 hn_63  σ_63 H locs hw fr   ls hl
              refine lv_iload hx hb dX10_gates_63 (lv_at hl 8 rfl) ?_
              refine lv_iconst (v := 1) hx hb dX10_gates_65 (by decide) ?_
              refine lv_aload_n hx hb dX10_gates_66 rfl (lv_at hl 0 rfl) ?_
              refine g_578 cx hw ha0 k_f_X10_26 dX10_gates_67 (fun v26 e26 h26 => ?_)
              refine g_66 cx hw h26 k_f_X10_306 dX10_gates_70 (fun v27 e27 i27 => ?_)
              refine lv_ishl hx hb dX10_gates_73 ?_
              refine lv_topi (fun v28 e28 => ?_)
              refine lv_icmp_ge (tgt := 158) hx hb dX10_gates_74 (by decide) (fun c29 => ?_) (fun c29 => ?_)
              · --
                refine lv_aload_n hx hb dX10_gates_158 rfl (lv_at hl 0 rfl) ?_
                refine g_577 cx hw ha0 k_f_X10_19 dX10_gates_159 (fun v30 e30 h30 => ?_)
                refine o_cv hw (oRunV cx hA hw q_X4_start k_m_X10_292 rfl h30 (by decide) (As := []) (c_X4_start v30 h30) (by decide) rfl hl.1 rfl (Nat.le_of_ble_eq_true rfl) dX10_gates_162 (by decide)) (fun σ31 H locs hp hw => ?_)
                have p32_0 := hp
                have fr := oFr_tr fr p32_0 (by decide)
                refine lv_aload_n hx hb dX10_gates_165 rfl (lv_at hl 0 rfl) ?_
                refine g_577 cx hw ha0 k_f_X10_19 dX10_gates_166 (fun v33 e33 h33 => ?_)
                rw [show v33 = v30 from Option.some.inj (e33.symm.trans (((kr_c p32_0 (by decide)).trans e30)))]
                refine lv_iload hx hb dX10_gates_169 (lv_at hl 6 rfl) ?_
                refine lv_i2l hx hb dX10_gates_171 rfl ?_
                refine lv_topl (fun v34 e34 => ?_)
                refine o_cv hw (oRunV cx hA hw q_X4_put k_m_X10_295 rfl h30 (by decide) (As := [.long v34]) (c_X4_put v30 h30 v34) (by decide) rfl hl.1 rfl (Nat.le_of_ble_eq_true rfl) dX10_gates_172 (by decide)) (fun σ35 H locs hp hw => ?_)
                have p36_0 := hp
                have fr := oFr_tr fr p36_0 (by decide)
                refine lv_aload_n hx hb dX10_gates_175 rfl (lv_at hl 0 rfl) ?_
                refine g_577 cx hw ha0 k_f_X10_19 dX10_gates_176 (fun v37 e37 h37 => ?_)
                rw [show v37 = v30 from Option.some.inj (e37.symm.trans (((kr_c p36_0 (by decide)).trans ((kr_c p32_0 (by decide)).trans e30))))]
                refine lv_iload hx hb dX10_gates_179 (lv_at hl 5 rfl) ?_
                have J_191 : ∀ (k191_1 : Int64), ∀ (σ_191 : oSt) (H : Heap) (locs : List Loc), oI A L τ cy D s.heap σ_191 H locs → oFr τ fs_X10_gates ts_X10_gates σ σ_191 → ∀ (ls : Array Slot), lv_has ls 10 [(0, .ref a0), (1, .int a1), (2, .int a2), (3, .int a3), (4, .int v25), (5, .int j63_5), (6, .int j63_6), (7, .int j63_7), (8, .int j63_8)] → W p l e ({ frames := 6, cells := 0, slots := 0, locals := 154 } : Room) s m args below meth c H locs 0 0 Q (F0 m 191 ls [.long k191_1, .ref v30]) := by
                  intro k191_1   σ_191 H locs hw fr   ls hl
                  refine o_cv hw (oRunV cx hA hw q_X4_put k_m_X10_295 rfl h30 (by decide) (As := [.long k191_1]) (c_X4_put v30 h30 k191_1) (by decide) rfl hl.1 rfl (Nat.le_of_ble_eq_true rfl) dX10_gates_191 (by decide)) (fun σ38 H locs hp hw => ?_)
                  have p39_0 := hp
                  have fr := oFr_tr fr p39_0 (by decide)
                  refine lv_iload hx hb dX10_gates_194 (lv_at hl 5 rfl) ?_
                  rw [← hQ]
                  exact o_ri cx rx hw dX10_gates_196 fr
                refine lv_if_ne (tgt := 188) hx hb dX10_gates_181 (by decide) (fun c40 => ?_) (fun c40 => ?_)
                · --
                  refine lv_iload hx hb dX10_gates_188 (lv_at hl 7 rfl) ?_
                  refine lv_i2l hx hb dX10_gates_190 rfl ?_
                  refine lv_topl (fun v41 e41 => ?_)
                  exact J_191 v41 σ35 _ _ hw fr _ (lv_sub hl [0, 1, 2, 3, 4, 5, 6, 7, 8] rfl)
                · --
                  have i42 : Iv j63_5 0 0 := iv_eq1 c40 (iv_top j63_5) (⟨by decide, by decide⟩ : Iv 0 0 0) (by decide)
                  refine lv_lconst (v := 0) hx hb dX10_gates_184 (by decide) ?_
                  refine lv_goto (tgt := 191) hx hb dX10_gates_185 (by decide) ?_
                  exact J_191 0 σ35 _ _ hw fr _ (lv_sub hl [0, 1, 2, 3, 4, 5, 6, 7, 8] rfl)
              · --
                have i43 : Iv j63_8 0 2147483646 := iv_lt1 (iv_nle c29) ij63_8 (iv_top v28) (by decide)
                have i44 : Iv v28 1 2147483647 := iv_lt2 (iv_nle c29) ij63_8 (iv_top v28) (by decide)
                refine lv_iload hx hb dX10_gates_77 (lv_at hl 8 rfl) ?_
                refine lv_iload hx hb dX10_gates_79 (lv_at hl 4 rfl) ?_
                refine lv_iand hx hb dX10_gates_81 ?_
                refine lv_topi (fun v45 e45 => ?_)
                have i45 : Iv v45 0 63 := iv_and e45 p25_1 (by decide)
                refine lv_iload hx hb dX10_gates_82 (lv_at hl 4 rfl) ?_
                have J_152 : ∀ (j152_5 : Int32) (j152_6 : Int32) (ij152_6 : Iv j152_6 (-1) 2147483647) (j152_7 : Int32) (ij152_7 : Iv j152_7 (-1) 2147483647), ∀ (σ_152 : oSt) (H : Heap) (locs : List Loc), oI A L τ cy D s.heap σ_152 H locs → oFr τ fs_X10_gates ts_X10_gates σ σ_152 → ∀ (ls : Array Slot), lv_has ls 10 [(0, .ref a0), (1, .int a1), (2, .int a2), (3, .int a3), (4, .int v25), (5, .int j152_5), (6, .int j152_6), (7, .int j152_7), (8, .int j63_8)] → W p l e ({ frames := 6, cells := 0, slots := 0, locals := 154 } : Room) s m args below meth c H locs 0 0 Q (F0 m 152 ls []) := by
                  intro j152_5 j152_6 ij152_6 j152_7 ij152_7   σ_152 H locs hw fr   ls hl
                  obtain ⟨v46, e46⟩ : ∃ y : Int32, y = j63_8 + 1 := ⟨_, rfl⟩
                  have i46 : Iv v46 1 2147483647 := iv_add e46 i43 (⟨by decide, by decide⟩ : Iv 1 1 1) (by decide)
                  have x46 : v46.toInt = j63_8.toInt + 1 := ex_add e46 i43 (⟨by decide, by decide⟩ : Iv 1 1 1) (by decide)
                  refine lv_iinc (v := v46) (lv' := [(8, .int v46), (0, .ref a0), (1, .int a1), (2, .int a2), (3, .int a3), (4, .int v25), (5, .int j152_5), (6, .int j152_6), (7, .int j152_7)]) hx hb dX10_gates_152 hl (k := 8) rfl (by rw [e46]; rfl) (by decide) rfl (fun ls hl => ?_)
                  refine lv_goto (tgt := 63) hx hb dX10_gates_155 (by decide) ?_
                  exact ih_63 j152_5 j152_6 ij152_6 j152_7 ij152_7 v46 (iv_w i46 (by decide)) (ms_up x46 (by decide) (iv_w (a' := 0) (b' := 2147483647) i46 (by decide)).2 hn_63) σ_152 _ _ hw fr _ (lv_sub hl [1, 2, 3, 4, 5, 6, 7, 8, 0] rfl)
                refine lv_icmp_ne (tgt := 152) hx hb dX10_gates_84 (by decide) (fun c47 => ?_) (fun c47 => ?_)
                · --
                  exact J_152 j63_5 j63_6 ij63_6 j63_7 ij63_7 σ_63 _ _ hw fr _ (lv_sub hl [0, 1, 2, 3, 4, 5, 6, 7, 8] rfl)
                · --
                  refine lv_aload_n hx hb dX10_gates_87 rfl (lv_at hl 0 rfl) ?_
                  refine g_583 cx hw ha0 k_f_X10_61 dX10_gates_88 (fun v48 e48 h48 => ?_)
                  refine lv_iload hx hb dX10_gates_91 (lv_at hl 8 rfl) ?_
                  refine lv_iload_n hx hb dX10_gates_93 rfl (lv_at hl 1 rfl) ?_
                  refine lv_iload_n hx hb dX10_gates_94 rfl (lv_at hl 2 rfl) ?_
                  refine lv_iload_n hx hb dX10_gates_95 rfl (lv_at hl 3 rfl) ?_
                  refine o_ci hw (oRunV cx hA hw q_X1_isAtWith k_m_X10_416 rfl h48 (by decide) (As := [.int j63_8, .int a1, .int a2, .int a3]) (c_X1_isAtWith v48 h48 j63_8 a1 (iv_w i7 (by decide)) a2 a3) (by decide) rfl hl.1 rfl (Nat.le_of_ble_eq_true rfl) dX10_gates_96 (by decide)) (fun v50 σ49 H locs hp hw => ?_)
                  obtain ⟨p50_0, p50_1⟩ := hp
                  have fr := oFr_tr fr p50_0 (by decide)
                  refine lv_if_eq (tgt := 152) hx hb dX10_gates_99 (by decide) (fun c51 => ?_) (fun c51 => ?_)
                  · --
                    have i52 : Iv v50 0 0 := iv_eq1 c51 p50_1 (⟨by decide, by decide⟩ : Iv 0 0 0) (by decide)
                    exact J_152 j63_5 j63_6 ij63_6 j63_7 ij63_7 σ49 _ _ hw fr _ (lv_sub hl [0, 1, 2, 3, 4, 5, 6, 7, 8] rfl)
                  · --
                    have i53 : Iv v50 1 1 := iv_ne1 c51 p50_1 (⟨by decide, by decide⟩ : Iv 0 0 0) (by decide)
                    obtain ⟨v54, e54⟩ : ∃ y : Int32, y = j63_5 + 1 := ⟨_, rfl⟩
                    refine lv_iinc (v := v54) (lv' := [(5, .int v54), (0, .ref a0), (1, .int a1), (2, .int a2), (3, .int a3), (4, .int v25), (6, .int j63_6), (7, .int j63_7), (8, .int j63_8)]) hx hb dX10_gates_102 hl (k := 5) rfl (by rw [e54]; rfl) (by decide) rfl (fun ls hl => ?_)
                    refine lv_iload hx hb dX10_gates_105 (lv_at hl 7 rfl) ?_
                    refine lv_iload hx hb dX10_gates_107 (lv_at hl 8 rfl) ?_
                    refine lv_iand hx hb dX10_gates_109 ?_
                    refine lv_topi (fun v55 e55 => ?_)
                    have i55 : Iv v55 0 2147483646 := iv_and e55 i43 (by decide)
                    refine lv_istore (lv' := [(7, .int v55), (5, .int v54), (0, .ref a0), (1, .int a1), (2, .int a2), (3, .int a3), (4, .int v25), (6, .int j63_6), (8, .int j63_8)]) hx hb dX10_gates_110 hl (by decide) rfl (fun ls hl => ?_)
                    refine lv_iload hx hb dX10_gates_112 (lv_at hl 1 rfl) ?_
                    refine lv_iconst (v := 1) hx hb dX10_gates_114 (by decide) ?_
                    have J_136 : ∀ (k136_0 : Int32) (ik136_0 : Iv k136_0 0 1), ∀ (σ_136 : oSt) (H : Heap) (locs : List Loc), oI A L τ cy D s.heap σ_136 H locs → oFr τ fs_X10_gates ts_X10_gates σ σ_136 → ∀ (ls : Array Slot), lv_has ls 10 [(0, .ref a0), (1, .int a1), (2, .int a2), (3, .int a3), (4, .int v25), (5, .int v54), (6, .int j63_6), (7, .int v55), (8, .int j63_8)] → W p l e ({ frames := 6, cells := 0, slots := 0, locals := 154 } : Room) s m args below meth c H locs 0 0 Q (F0 m 136 ls [.int k136_0]) := by
                      intro k136_0 ik136_0   σ_136 H locs hw fr   ls hl
                      refine lv_istore (lv' := [(9, .int k136_0), (0, .ref a0), (1, .int a1), (2, .int a2), (3, .int a3), (4, .int v25), (5, .int v54), (6, .int j63_6), (7, .int v55), (8, .int j63_8)]) hx hb dX10_gates_136 hl (by decide) rfl (fun ls hl => ?_)
                      refine lv_iload hx hb dX10_gates_138 (lv_at hl 0 rfl) ?_
                      have J_150 : ∀ (k150_0 : Int32) (ik150_0 : Iv k150_0 (-1) 2147483647), ∀ (σ_150 : oSt) (H : Heap) (locs : List Loc), oI A L τ cy D s.heap σ_150 H locs → oFr τ fs_X10_gates ts_X10_gates σ σ_150 → ∀ (ls : Array Slot), lv_has ls 10 [(0, .ref a0), (1, .int a1), (2, .int a2), (3, .int a3), (4, .int v25), (5, .int v54), (6, .int j63_6), (7, .int v55), (8, .int j63_8), (9, .int k136_0)] → W p l e ({ frames := 6, cells := 0, slots := 0, locals := 154 } : Room) s m args below meth c H locs 0 0 Q (F0 m 150 ls [.int k150_0]) := by
                        intro k150_0 ik150_0   σ_150 H locs hw fr   ls hl
                        refine lv_istore (lv' := [(6, .int k150_0), (0, .ref a0), (1, .int a1), (2, .int a2), (3, .int a3), (4, .int v25), (5, .int v54), (7, .int v55), (8, .int j63_8), (9, .int k136_0)]) hx hb dX10_gates_150 hl (by decide) rfl (fun ls hl => ?_)
                        exact J_152 v54 k150_0 ik150_0 v55 (iv_w i55 (by decide)) σ_150 _ _ hw fr _ (lv_sub hl [1, 2, 3, 4, 5, 6, 0, 7, 8] rfl)
                      refine lv_if_eq (tgt := 148) hx hb dX10_gates_140 (by decide) (fun c56 => ?_) (fun c56 => ?_)
                      · --
                        have i57 : Iv k136_0 0 0 := iv_eq1 c56 ik136_0 (⟨by decide, by decide⟩ : Iv 0 0 0) (by decide)
                        refine lv_iload hx hb dX10_gates_148 (lv_at hl 7 rfl) ?_
                        exact J_150 j63_6 ij63_6 σ_136 _ _ hw fr _ (lv_sub hl [1, 2, 3, 4, 5, 6, 7, 8, 9, 0] rfl)
                      · --
                        have i58 : Iv k136_0 1 1 := iv_ne1 c56 ik136_0 (⟨by decide, by decide⟩ : Iv 0 0 0) (by decide)
                        refine lv_iload hx hb dX10_gates_143 (lv_at hl 9 rfl) ?_
                        refine lv_goto (tgt := 150) hx hb dX10_gates_145 (by decide) ?_
                        exact J_150 j63_8 (iv_w i43 (by decide)) σ_136 _ _ hw fr _ (lv_sub hl [1, 2, 3, 4, 5, 6, 7, 8, 9, 0] rfl)
                    have J_131 : ∀ (σ_131 : oSt) (H : Heap) (locs : List Loc), oI A L τ cy D s.heap σ_131 H locs → oFr τ fs_X10_gates ts_X10_gates σ σ_131 → ∀ (ls : Array Slot), lv_has ls 10 [(0, .ref a0), (1, .int a1), (2, .int a2), (3, .int a3), (4, .int v25), (5, .int v54), (6, .int j63_6), (7, .int v55), (8, .int j63_8)] → W p l e ({ frames := 6, cells := 0, slots := 0, locals := 154 } : Room) s m args below meth c H locs 0 0 Q (F0 m 131 ls []) := by
                      intro    σ_131 H locs hw fr   ls hl
                      refine lv_iconst (v := 1) hx hb dX10_gates_131 (by decide) ?_
                      refine lv_goto (tgt := 136) hx hb dX10_gates_132 (by decide) ?_
                      exact J_136 1 (iv_w (⟨by decide, by decide⟩ : Iv 1 1 1) (by decide)) σ_131 _ _ hw fr _ (lv_sub hl [0, 1, 2, 3, 4, 5, 6, 7, 8] rfl)
                    refine lv_icmp_eq (tgt := 131) hx hb dX10_gates_115 (by decide) (fun c59 => ?_) (fun c59 => ?_)
                    · --
                      have i60 : Iv v54 1 1 := iv_eq1 c59 (iv_top v54) (⟨by decide, by decide⟩ : Iv 1 1 1) (by decide)
                      exact J_131 σ49 _ _ hw fr _ (lv_sub hl [2, 3, 4, 5, 6, 1, 7, 0, 8] rfl)
                    · --
                      refine lv_iload hx hb dX10_gates_118 (lv_at hl 8 rfl) ?_
                      refine o_ci hw (oRunS cx hA hw q_J6_bitCount_0f7a4 k_m_X10_420 (As := [.int j63_8]) (c_J6_bitCount_0f7a4 j63_8) (by decide) rfl hl.1 rfl (Nat.le_of_ble_eq_true rfl) dX10_gates_120 (by decide)) (fun v62 σ61 H locs hp hw => ?_)
                      obtain ⟨p62_0, p62_1⟩ := hp
                      rw [p62_0] at hw
                      refine lv_iload hx hb dX10_gates_123 (lv_at hl 7 rfl) ?_
                      refine o_ci hw (oRunS cx hA hw q_J6_bitCount_0f7a4 k_m_X10_420 (As := [.int j63_6]) (c_J6_bitCount_0f7a4 j63_6) (by decide) rfl hl.1 rfl (Nat.le_of_ble_eq_true rfl) dX10_gates_125 (by decide)) (fun v64 σ63 H locs hp hw => ?_)
                      obtain ⟨p64_0, p64_1⟩ := hp
                      rw [p64_0] at hw
                      refine lv_icmp_ge (tgt := 135) hx hb dX10_gates_128 (by decide) (fun c65 => ?_) (fun c65 => ?_)
                      · --
                        refine lv_iconst (v := 0) hx hb dX10_gates_135 (by decide) ?_
                        exact J_136 0 (iv_w (⟨by decide, by decide⟩ : Iv 0 0 0) (by decide)) σ49 _ _ hw fr _ (lv_sub hl [2, 3, 4, 5, 6, 1, 7, 0, 8] rfl)
                      · --
                        have i66 : Iv v62 0 62 := iv_lt1 (iv_nle c65) p62_1 p64_1 (by decide)
                        have i67 : Iv v64 1 63 := iv_lt2 (iv_nle c65) p62_1 p64_1 (by decide)
                        exact J_131 σ49 _ _ hw fr _ (lv_sub hl [2, 3, 4, 5, 6, 1, 7, 0, 8] rfl)
          exact J_63 _ 0 (-1) (iv_w (⟨by decide, by decide⟩ : Iv (-1) (-1) (-1)) (by decide)) (-1) (iv_w (⟨by decide, by decide⟩ : Iv (-1) (-1) (-1)) (by decide)) 0 (iv_w (⟨by decide, by decide⟩ : Iv 0 0 0) (by decide)) (Nat.lt_succ_self _) σ _ _ hw fr _ (lv_sub hl [5, 6, 7, 8, 4, 3, 2, 1, 0] rfl)
        · --
          have i68 : Iv a3 101 2147483647 := iv_lt2 (iv_nle c18) (⟨by decide, by decide⟩ : Iv 100 100 100) i17 (by decide)
          refine lv_iconst (v := (-1)) hx hb dX10_gates_33 (by decide) ?_
          rw [← hQ]
          exact o_ri cx rx hw dX10_gates_34 fr
abbrev fs_J7_fill_d0a16 : List Nat := []
abbrev ts_J7_fill_d0a16 : List Nat := [39]
set_option maxHeartbeats 4000000 in
set_option maxRecDepth 100000 in
theorem c_J7_fill_d0a16 (a0 : Nat) (ha0 : oA L τ a0 39) (a1 : Int64) : oMet l A L τ cy D K yJ7_fill_d0a16 cJ7_fill_d0a16 5 none 0 0 [.ref a0, .long a1] σ (va_Qv (fun σ1 => oFr τ fs_J7_fill_d0a16 ts_J7_fill_d0a16 σ σ1) (oPo A L τ cy D) A) := by
  refine oMk (by decide) (Nat.le_of_ble_eq_true rfl) rfl ?_
  intro p e s m args below meth c ls cx rx hA hw hl
  generalize hQ : MQ below _ args s 0 0 A = Q
  have hx := cx.1.1
  have hb := cx.1.2.1
  have hml := cx.1.2.2.1
  have hown := cx.1.2.2.2.1
  have hts := cx.1.2.2.2.2
  have hl : lv_has ls 5 [(0, .ref a0), (1, .long a1)] := hl
  have fr : oFr τ fs_J7_fill_d0a16 ts_J7_fill_d0a16 σ σ := oFr_rf
  refine lv_iconst (v := 0) hx hb dJ7_fill_d0a16_0 (by decide) ?_
  refine lv_istore_n (lv' := [(3, .int 0), (0, .ref a0), (1, .long a1)]) hx hb dJ7_fill_d0a16_1 rfl hl (by decide) rfl (fun ls hl => ?_)
  refine lv_aload_n hx hb dJ7_fill_d0a16_2 rfl (lv_at hl 1 rfl) ?_
  refine o_alenl (v := 64) cx hw ha0 (by decide) rfl (by decide) dJ7_fill_d0a16_3 ?_
  refine lv_istore (lv' := [(4, .int 64), (3, .int 0), (0, .ref a0), (1, .long a1)]) hx hb dJ7_fill_d0a16_4 hl (by decide) rfl (fun ls hl => ?_)
  have J_6 : ∀ n : Nat, ∀ (j6_3 : Int32) (ij6_3 : Iv j6_3 0 2147483647), (2147483647 - j6_3.toInt).toNat < n → ∀ (σ_6 : oSt) (H : Heap) (locs : List Loc), oI A L τ cy D s.heap σ_6 H locs → oFr τ fs_J7_fill_d0a16 ts_J7_fill_d0a16 σ σ_6 → ∀ (ls : Array Slot), lv_has ls 5 [(0, .ref a0), (1, .long a1), (3, .int j6_3), (4, .int 64)] → W p l e ({ frames := 0, cells := 0, slots := 0, locals := 0 } : Room) s m args below meth c H locs 0 0 Q (F0 m 6 ls []) := by
    intro n
    induction n with
    | zero => intro j6_3 ij6_3 hn_6  σ_6 H locs hw fr   ls hl; exact absurd hn_6 (Nat.not_lt_zero _)
    | succ n ih_6 =>
      intro j6_3 ij6_3 hn_6  σ_6 H locs hw fr   ls hl
      refine lv_iload_n hx hb dJ7_fill_d0a16_6 rfl (lv_at hl 2 rfl) ?_
      refine lv_iload hx hb dJ7_fill_d0a16_7 (lv_at hl 3 rfl) ?_
      refine lv_icmp_ge (tgt := 22) hx hb dJ7_fill_d0a16_9 (by decide) (fun c1 => ?_) (fun c1 => ?_)
      · --
        have i2 : Iv j6_3 64 2147483647 := iv_le2 c1 (⟨by decide, by decide⟩ : Iv 64 64 64) ij6_3 (by decide)
        rw [← hQ]
        exact o_rv cx rx hw dJ7_fill_d0a16_22 fr
      · --
        have i3 : Iv j6_3 0 63 := iv_lt1 (iv_nle c1) ij6_3 (⟨by decide, by decide⟩ : Iv 64 64 64) (by decide)
        refine lv_aload_n hx hb dJ7_fill_d0a16_12 rfl (lv_at hl 0 rfl) ?_
        refine lv_iload_n hx hb dJ7_fill_d0a16_13 rfl (lv_at hl 2 rfl) ?_
        refine lv_lload_n hx hb dJ7_fill_d0a16_14 rfl (lv_at hl 1 rfl) ?_
        refine o_last cx hw ha0 (by decide) rfl (iv_in i3 (by decide)) dJ7_fill_d0a16_15 (fun σ4 H locs eσ4 hw => ?_)
        have fr := oFr_q fr eσ4 ha0 (by decide)
        obtain ⟨v5, e5⟩ : ∃ y : Int32, y = j6_3 + 1 := ⟨_, rfl⟩
        have i5 : Iv v5 1 64 := iv_add e5 i3 (⟨by decide, by decide⟩ : Iv 1 1 1) (by decide)
        have x5 : v5.toInt = j6_3.toInt + 1 := ex_add e5 i3 (⟨by decide, by decide⟩ : Iv 1 1 1) (by decide)
        refine lv_iinc (v := v5) (lv' := [(3, .int v5), (0, .ref a0), (1, .long a1), (4, .int 64)]) hx hb dJ7_fill_d0a16_16 hl (k := 2) rfl (by rw [e5]; rfl) (by decide) rfl (fun ls hl => ?_)
        refine lv_goto (tgt := 6) hx hb dJ7_fill_d0a16_19 (by decide) ?_
        exact ih_6 v5 (iv_w i5 (by decide)) (ms_up x5 (by decide) (iv_w (a' := 0) (b' := 2147483647) i5 (by decide)).2 hn_6) σ4 _ _ hw fr _ (lv_sub hl [1, 2, 0, 3] rfl)
  exact J_6 _ 0 (iv_w (⟨by decide, by decide⟩ : Iv 0 0 0) (by decide)) (Nat.lt_succ_self _) σ _ _ hw fr _ (lv_sub hl [2, 3, 1, 0] rfl)
set_option maxHeartbeats 4000000 in
set_option maxRecDepth 100000 in
theorem c_X8_leastWithWay (a0 : Nat) (ha0 : oA L τ a0 7) (a1 : Int32) : oMet l A L τ cy D K yX8_leastWithWay cX8_leastWithWay 5 (some .int) 1 22 [.ref a0, .int a1] σ (va_Qi (fun r σ1 => σ1 = σ ∧ Iv r (-1) 63) (oPo A L τ cy D) A) := by
  refine oMk (by decide) (Nat.le_of_ble_eq_true rfl) rfl ?_
  intro p e s m args below meth c ls cx rx hA hw hl
  generalize hQ : MQ below _ args s 0 0 A = Q
  have hx := cx.1.1
  have hb := cx.1.2.1
  have hml := cx.1.2.2.1
  have hown := cx.1.2.2.2.1
  have hts := cx.1.2.2.2.2
  have hl : lv_has ls 5 [(0, .ref a0), (1, .int a1)] := hl
  refine lv_iload_n hx hb dX8_leastWithWay_0 rfl (lv_at hl 1 rfl) ?_
  refine o_cl hw (oRunS cx hA hw q_X0_bit k_m_X8_34 (As := [.int a1]) (c_X0_bit a1) (by decide) rfl hl.1 rfl (Nat.le_of_ble_eq_true rfl) dX8_leastWithWay_1 (by decide)) (fun v2 σ1 H locs hp hw => ?_)
  have p2_0 := hp
  rw [p2_0] at hw
  refine o_cl hw (oRunS cx hA hw q_X0_beside k_m_X8_38 (As := [.long v2]) (c_X0_beside v2) (by decide) rfl hl.1 rfl (Nat.le_of_ble_eq_true rfl) dX8_leastWithWay_4 (by decide)) (fun v4 σ3 H locs hp hw => ?_)
  have p4_0 := hp
  rw [p4_0] at hw
  refine lv_lstore_n (lv' := [(2, .long v4), (0, .ref a0), (1, .int a1)]) hx hb dX8_leastWithWay_7 rfl hl (by decide) rfl (fun ls hl => ?_)
  refine lv_iconst (v := 0) hx hb dX8_leastWithWay_8 (by decide) ?_
  refine lv_istore (lv' := [(4, .int 0), (2, .long v4), (0, .ref a0), (1, .int a1)]) hx hb dX8_leastWithWay_9 hl (by decide) rfl (fun ls hl => ?_)
  have J_11 : ∀ n : Nat, ∀ (j11_4 : Int32) (ij11_4 : Iv j11_4 0 64), (64 - j11_4.toInt).toNat < n → ∀ (H : Heap) (locs : List Loc), oI A L τ cy D s.heap σ H locs → ∀ (ls : Array Slot), lv_has ls 5 [(0, .ref a0), (1, .int a1), (2, .long v4), (4, .int j11_4)] → W p l e ({ frames := 1, cells := 0, slots := 0, locals := 22 } : Room) s m args below meth c H locs 0 0 Q (F0 m 11 ls []) := by
    intro n
    induction n with
    | zero => intro j11_4 ij11_4 hn_11  H locs hw  ls hl; exact absurd hn_11 (Nat.not_lt_zero _)
    | succ n ih_11 =>
      intro j11_4 ij11_4 hn_11  H locs hw  ls hl
      refine lv_iload hx hb dX8_leastWithWay_11 (lv_at hl 3 rfl) ?_
      refine lv_bipush (v := 64) hx hb dX8_leastWithWay_13 (by decide) ?_
      refine lv_icmp_ge (tgt := 48) hx hb dX8_leastWithWay_15 (by decide) (fun c5 => ?_) (fun c5 => ?_)
      · --
        have i6 : Iv j11_4 64 64 := iv_le2 c5 (⟨by decide, by decide⟩ : Iv 64 64 64) ij11_4 (by decide)
        refine lv_iconst (v := (-1)) hx hb dX8_leastWithWay_48 (by decide) ?_
        rw [← hQ]
        exact o_ri cx rx hw dX8_leastWithWay_49 ⟨rfl, (iv_w (⟨by decide, by decide⟩ : Iv (-1) (-1) (-1)) (by decide))⟩
      · --
        have i7 : Iv j11_4 0 63 := iv_lt1 (iv_nle c5) ij11_4 (⟨by decide, by decide⟩ : Iv 64 64 64) (by decide)
        refine lv_lload_n hx hb dX8_leastWithWay_18 rfl (lv_at hl 2 rfl) ?_
        refine lv_iload hx hb dX8_leastWithWay_19 (lv_at hl 3 rfl) ?_
        refine o_ci hw (oRunS cx hA hw q_X0_has k_m_X8_28 (As := [.long v4, .int j11_4]) (c_X0_has v4 j11_4) (by decide) rfl hl.1 rfl (Nat.le_of_ble_eq_true rfl) dX8_leastWithWay_21 (by decide)) (fun v9 σ8 H locs hp hw => ?_)
        obtain ⟨p9_0, p9_1, p9_2⟩ := hp
        rw [p9_0] at hw
        have J_42 : ∀ (H : Heap) (locs : List Loc), oI A L τ cy D s.heap σ H locs → ∀ (ls : Array Slot), lv_has ls 5 [(0, .ref a0), (1, .int a1), (2, .long v4), (4, .int j11_4)] → W p l e ({ frames := 1, cells := 0, slots := 0, locals := 22 } : Room) s m args below meth c H locs 0 0 Q (F0 m 42 ls []) := by
          intro    H locs hw  ls hl
          obtain ⟨v10, e10⟩ : ∃ y : Int32, y = j11_4 + 1 := ⟨_, rfl⟩
          have i10 : Iv v10 1 64 := iv_add e10 i7 (⟨by decide, by decide⟩ : Iv 1 1 1) (by decide)
          have x10 : v10.toInt = j11_4.toInt + 1 := ex_add e10 i7 (⟨by decide, by decide⟩ : Iv 1 1 1) (by decide)
          refine lv_iinc (v := v10) (lv' := [(4, .int v10), (0, .ref a0), (1, .int a1), (2, .long v4)]) hx hb dX8_leastWithWay_42 hl (k := 3) rfl (by rw [e10]; rfl) (by decide) rfl (fun ls hl => ?_)
          refine lv_goto (tgt := 11) hx hb dX8_leastWithWay_45 (by decide) ?_
          exact ih_11 v10 (iv_w i10 (by decide)) (ms_up x10 (by decide) (iv_w (a' := 0) (b' := 64) i10 (by decide)).2 hn_11) _ _ hw _ (lv_sub hl [1, 2, 3, 0] rfl)
        refine lv_if_eq (tgt := 42) hx hb dX8_leastWithWay_24 (by decide) (fun c11 => ?_) (fun c11 => ?_)
        · --
          have i12 : Iv v9 0 0 := iv_eq1 c11 p9_1 (⟨by decide, by decide⟩ : Iv 0 0 0) (by decide)
          exact J_42 _ _ hw _ (lv_sub hl [0, 1, 2, 3] rfl)
        · --
          have i13 : Iv v9 1 1 := iv_ne1 c11 p9_1 (⟨by decide, by decide⟩ : Iv 0 0 0) (by decide)
          have i14 : Iv j11_4 0 63 := p9_2 c11
          refine lv_aload_n hx hb dX8_leastWithWay_27 rfl (lv_at hl 0 rfl) ?_
          refine g_449 cx hw ha0 k_f_X8_15 dX8_leastWithWay_28 (fun v15 e15 h15 => ?_)
          refine lv_iload hx hb dX8_leastWithWay_31 (lv_at hl 3 rfl) ?_
          refine o_lald cx hw h15 (by decide) rfl (iv_in i14 (by decide)) dX8_leastWithWay_33 (fun v16 e16 => ?_)
          refine lv_lconst (v := 0) hx hb dX8_leastWithWay_34 (by decide) ?_
          refine W.lcmp hx hb dX8_leastWithWay_35 ?_
          refine lv_topi (fun v17 e17 => ?_)
          have i17 : Iv v17 (-1) 1 := iv_lcmp e17
          refine lv_if_le (tgt := 42) hx hb dX8_leastWithWay_36 (by decide) (fun c18 => ?_) (fun c18 => ?_)
          · --
            have i19 : Iv v17 (-1) 0 := iv_le1 c18 i17 (⟨by decide, by decide⟩ : Iv 0 0 0) (by decide)
            exact J_42 _ _ hw _ (lv_sub hl [0, 1, 2, 3] rfl)
          · --
            have i20 : Iv v17 1 1 := iv_lt2 (iv_nle c18) (⟨by decide, by decide⟩ : Iv 0 0 0) i17 (by decide)
            refine lv_iload hx hb dX8_leastWithWay_39 (lv_at hl 3 rfl) ?_
            rw [← hQ]
            exact o_ri cx rx hw dX8_leastWithWay_41 ⟨rfl, (iv_w i14 (by decide))⟩
  exact J_11 _ 0 (iv_w (⟨by decide, by decide⟩ : Iv 0 0 0) (by decide)) (Nat.lt_succ_self _) _ _ hw _ (lv_sub hl [2, 3, 1, 0] rfl)
abbrev fs_X10_faultOfSightings : List Nat := [386]
abbrev ts_X10_faultOfSightings : List Nat := []
set_option maxHeartbeats 4000000 in
set_option maxRecDepth 100000 in
theorem c_X10_faultOfSightings (a0 : Nat) (ha0 : oA L τ a0 9) : oMet l A L τ cy D K yX10_faultOfSightings cX10_faultOfSightings 2 (some .int) 4 90 [.ref a0] σ (va_Qi (fun r σ1 => oFr τ fs_X10_faultOfSightings ts_X10_faultOfSightings σ σ1) (oPo A L τ cy D) A) := by
  refine oMk (by decide) (Nat.le_of_ble_eq_true rfl) rfl ?_
  intro p e s m args below meth c ls cx rx hA hw hl
  generalize hQ : MQ below _ args s 0 0 A = Q
  have hx := cx.1.1
  have hb := cx.1.2.1
  have hml := cx.1.2.2.1
  have hown := cx.1.2.2.2.1
  have hts := cx.1.2.2.2.2
  have hl : lv_has ls 2 [(0, .ref a0)] := hl
  have fr : oFr τ fs_X10_faultOfSightings ts_X10_faultOfSightings σ σ := oFr_rf
  refine lv_iconst (v := 0) hx hb dX10_faultOfSightings_0 (by decide) ?_
  refine lv_istore_n (lv' := [(1, .int 0), (0, .ref a0)]) hx hb dX10_faultOfSightings_1 rfl hl (by decide) rfl (fun ls hl => ?_)
  have J_2 : ∀ n : Nat, ∀ (j2_1 : Int32) (ij2_1 : Iv j2_1 0 12), (12 - j2_1.toInt).toNat < n → ∀ (σ_2 : oSt) (H : Heap) (locs : List Loc), oI A L τ cy D s.heap σ_2 H locs → oFr τ fs_X10_faultOfSightings ts_X10_faultOfSightings σ σ_2 → ∀ (ls : Array Slot), lv_has ls 2 [(0, .ref a0), (1, .int j2_1)] → W p l e ({ frames := 4, cells := 0, slots := 0, locals := 90 } : Room) s m args below meth c H locs 0 0 Q (F0 m 2 ls []) := by
    intro n
    induction n with
    | zero => intro j2_1 ij2_1 hn_2  σ_2 H locs hw fr   ls hl; exact absurd hn_2 (Nat.not_lt_zero _)
    | succ n ih_2 =>
      intro j2_1 ij2_1 hn_2  σ_2 H locs hw fr   ls hl
      refine lv_iload_n hx hb dX10_faultOfSightings_2 rfl (lv_at hl 1 rfl) ?_
      refine lv_bipush (v := 12) hx hb dX10_faultOfSightings_3 (by decide) ?_
      refine lv_icmp_ge (tgt := 56) hx hb dX10_faultOfSightings_5 (by decide) (fun c1 => ?_) (fun c1 => ?_)
      · --
        have i2 : Iv j2_1 12 12 := iv_le2 c1 (⟨by decide, by decide⟩ : Iv 12 12 12) ij2_1 (by decide)
        refine lv_aload_n hx hb dX10_faultOfSightings_56 rfl (lv_at hl 0 rfl) ?_
        refine g_576 cx hw ha0 k_f_X10_10 dX10_faultOfSightings_57 (fun v3 e3 h3 => ?_)
        refine o_ci hw (oRunV cx hA hw q_X7_fault k_m_X10_231 rfl h3 (by decide) (As := []) (c_X7_fault v3 h3) (by decide) rfl hl.1 rfl (Nat.le_of_ble_eq_true rfl) dX10_faultOfSightings_60 (by decide)) (fun v5 σ4 H locs hp hw => ?_)
        have p5_0 := hp
        rw [p5_0] at hw
        rw [← hQ]
        exact o_ri cx rx hw dX10_faultOfSightings_63 fr
      · --
        have i6 : Iv j2_1 0 11 := iv_lt1 (iv_nle c1) ij2_1 (⟨by decide, by decide⟩ : Iv 12 12 12) (by decide)
        refine lv_aload_n hx hb dX10_faultOfSightings_8 rfl (lv_at hl 0 rfl) ?_
        refine lv_aload_n hx hb dX10_faultOfSightings_9 rfl (lv_at hl 0 rfl) ?_
        refine g_578 cx hw ha0 k_f_X10_26 dX10_faultOfSightings_10 (fun v7 e7 h7 => ?_)
        refine g_64 cx hw h7 k_f_X10_121 dX10_faultOfSightings_13 (fun v8 e8 => ?_)
        refine lv_aload_n hx hb dX10_faultOfSightings_16 rfl (lv_at hl 0 rfl) ?_
        refine g_578 cx hw ha0 k_f_X10_26 dX10_faultOfSightings_17 (fun v9 e9 h9 => ?_)
        rw [show v9 = v7 from Option.some.inj (e9.symm.trans (e7))]
        refine g_65 cx hw h7 k_f_X10_124 dX10_faultOfSightings_20 (fun v10 e10 => ?_)
        refine o_ci hw (oRunV cx hA hw q_X10_readCell k_m_X10_238 rfl ha0 (by decide) (As := [.int v8, .int v10]) (c_X10_readCell a0 ha0 v8 v10) (by decide) rfl hl.1 rfl (Nat.le_of_ble_eq_true rfl) dX10_faultOfSightings_23 (by decide)) (fun v12 σ11 H locs hp hw => ?_)
        have p12_0 := hp
        have fr := oFr_tr fr p12_0 (by decide)
        refine lv_iconst (v := (-1)) hx hb dX10_faultOfSightings_26 (by decide) ?_
        refine lv_icmp_ne (tgt := 38) hx hb dX10_faultOfSightings_27 (by decide) (fun c13 => ?_) (fun c13 => ?_)
        · --
          refine lv_aload_n hx hb dX10_faultOfSightings_38 rfl (lv_at hl 0 rfl) ?_
          refine g_576 cx hw ha0 k_f_X10_10 dX10_faultOfSightings_39 (fun v14 e14 h14 => ?_)
          refine o_ci hw (oRunV cx hA hw q_X7_isAtEnd k_m_X10_224 rfl h14 (by decide) (As := []) (c_X7_isAtEnd v14 h14) (by decide) rfl hl.1 rfl (Nat.le_of_ble_eq_true rfl) dX10_faultOfSightings_42 (by decide)) (fun v16 σ15 H locs hp hw => ?_)
          obtain ⟨p16_0, p16_1⟩ := hp
          rw [p16_0] at hw
          refine lv_if_eq (tgt := 50) hx hb dX10_faultOfSightings_45 (by decide) (fun c17 => ?_) (fun c17 => ?_)
          · --
            have i18 : Iv v16 0 0 := iv_eq1 c17 p16_1 (⟨by decide, by decide⟩ : Iv 0 0 0) (by decide)
            obtain ⟨v19, e19⟩ : ∃ y : Int32, y = j2_1 + 1 := ⟨_, rfl⟩
            have i19 : Iv v19 1 12 := iv_add e19 i6 (⟨by decide, by decide⟩ : Iv 1 1 1) (by decide)
            have x19 : v19.toInt = j2_1.toInt + 1 := ex_add e19 i6 (⟨by decide, by decide⟩ : Iv 1 1 1) (by decide)
            refine lv_iinc (v := v19) (lv' := [(1, .int v19), (0, .ref a0)]) hx hb dX10_faultOfSightings_50 hl (k := 1) rfl (by rw [e19]; rfl) (by decide) rfl (fun ls hl => ?_)
            refine lv_goto (tgt := 2) hx hb dX10_faultOfSightings_53 (by decide) ?_
            exact ih_2 v19 (iv_w i19 (by decide)) (ms_up x19 (by decide) (iv_w (a' := 0) (b' := 12) i19 (by decide)).2 hn_2) σ11 _ _ hw fr _ (lv_sub hl [1, 0] rfl)
          · --
            have i20 : Iv v16 1 1 := iv_ne1 c17 p16_1 (⟨by decide, by decide⟩ : Iv 0 0 0) (by decide)
            refine lv_iconst (v := 0) hx hb dX10_faultOfSightings_48 (by decide) ?_
            rw [← hQ]
            exact o_ri cx rx hw dX10_faultOfSightings_49 fr
        · --
          have i21 : Iv v12 (-1) (-1) := iv_eq1 c13 (iv_top v12) (⟨by decide, by decide⟩ : Iv (-1) (-1) (-1)) (by decide)
          refine lv_aload_n hx hb dX10_faultOfSightings_30 rfl (lv_at hl 0 rfl) ?_
          refine g_576 cx hw ha0 k_f_X10_10 dX10_faultOfSightings_31 (fun v22 e22 h22 => ?_)
          refine o_ci hw (oRunV cx hA hw q_X7_fault k_m_X10_231 rfl h22 (by decide) (As := []) (c_X7_fault v22 h22) (by decide) rfl hl.1 rfl (Nat.le_of_ble_eq_true rfl) dX10_faultOfSightings_34 (by decide)) (fun v24 σ23 H locs hp hw => ?_)
          have p24_0 := hp
          rw [p24_0] at hw
          rw [← hQ]
          exact o_ri cx rx hw dX10_faultOfSightings_37 fr
  exact J_2 _ 0 (iv_w (⟨by decide, by decide⟩ : Iv 0 0 0) (by decide)) (Nat.lt_succ_self _) σ _ _ hw fr _ (lv_sub hl [1, 0] rfl)
abbrev fs_X8_shareOut : List Nat := []
abbrev ts_X8_shareOut : List Nat := [39]
set_option maxHeartbeats 4000000 in
set_option maxRecDepth 100000 in
theorem c_X8_shareOut (a0 : Nat) (ha0 : oA L τ a0 7) (a1 : Int64) (a2 : Int32) (ia2 : Iv a2 0 63) : oMet l A L τ cy D K yX8_shareOut cX8_shareOut 9 none 1 22 [.ref a0, .long a1, .int a2] σ (va_Qv (fun σ1 => oFr τ fs_X8_shareOut ts_X8_shareOut σ σ1) (oPo A L τ cy D) A) := by
  refine oMk (by decide) (Nat.le_of_ble_eq_true rfl) rfl ?_
  intro p e s m args below meth c ls cx rx hA hw hl
  generalize hQ : MQ below _ args s 0 0 A = Q
  have hx := cx.1.1
  have hb := cx.1.2.1
  have hml := cx.1.2.2.1
  have hown := cx.1.2.2.2.1
  have hts := cx.1.2.2.2.2
  have hl : lv_has ls 9 [(0, .ref a0), (1, .long a1), (3, .int a2)] := hl
  have fr : oFr τ fs_X8_shareOut ts_X8_shareOut σ σ := oFr_rf
  refine lv_iconst (v := 1) hx hb dX8_shareOut_0 (by decide) ?_
  refine lv_iload_n hx hb dX8_shareOut_1 rfl (lv_at hl 2 rfl) ?_
  refine o_cl hw (oRunS cx hA hw q_X0_bit k_m_X8_34 (As := [.int a2]) (c_X0_bit a2) (by decide) rfl hl.1 rfl (Nat.le_of_ble_eq_true rfl) dX8_shareOut_2 (by decide)) (fun v2 σ1 H locs hp hw => ?_)
  have p2_0 := hp
  rw [p2_0] at hw
  refine o_cl hw (oRunS cx hA hw q_X0_beside k_m_X8_38 (As := [.long v2]) (c_X0_beside v2) (by decide) rfl hl.1 rfl (Nat.le_of_ble_eq_true rfl) dX8_shareOut_5 (by decide)) (fun v4 σ3 H locs hp hw => ?_)
  have p4_0 := hp
  rw [p4_0] at hw
  refine lv_lload_n hx hb dX8_shareOut_8 rfl (lv_at hl 1 rfl) ?_
  refine lv_land hx hb dX8_shareOut_9 ?_
  refine lv_topl (fun v5 e5 => ?_)
  refine o_ci hw (oRunS cx hA hw q_J13_bitCount_95d88 k_m_X8_72 (As := [.long v5]) (c_J13_bitCount_95d88 v5) (by decide) rfl hl.1 rfl (Nat.le_of_ble_eq_true rfl) dX8_shareOut_10 (by decide)) (fun v7 σ6 H locs hp hw => ?_)
  obtain ⟨p7_0, p7_1⟩ := hp
  rw [p7_0] at hw
  refine lv_iadd hx hb dX8_shareOut_13 ?_
  refine lv_topi (fun v8 e8 => ?_)
  have i8 : Iv v8 1 128 := iv_add e8 (⟨by decide, by decide⟩ : Iv 1 1 1) p7_1 (by decide)
  have x8 : v8.toInt = v7.toInt + 1 := (ex_add e8 (⟨by decide, by decide⟩ : Iv 1 1 1) p7_1 (by decide)).trans (Int.add_comm _ _)
  refine lv_istore (lv' := [(4, .int v8), (0, .ref a0), (1, .long a1), (3, .int a2)]) hx hb dX8_shareOut_14 hl (by decide) rfl (fun ls hl => ?_)
  refine lv_aload_n hx hb dX8_shareOut_16 rfl (lv_at hl 1 rfl) ?_
  refine g_449 cx hw ha0 k_f_X8_15 dX8_shareOut_17 (fun v9 e9 h9 => ?_)
  refine lv_iload_n hx hb dX8_shareOut_20 rfl (lv_at hl 3 rfl) ?_
  refine o_lald cx hw h9 (by decide) rfl (iv_in ia2 (by decide)) dX8_shareOut_21 (fun v10 e10 => ?_)
  refine lv_iload hx hb dX8_shareOut_22 (lv_at hl 0 rfl) ?_
  refine lv_i2l hx hb dX8_shareOut_24 rfl ?_
  refine lv_topl (fun v11 e11 => ?_)
  refine lv_ldiv hx hb dX8_shareOut_25 (by rw [e11]; exact iv_nzl i8 (by decide)) ?_
  refine lv_topl (fun v12 e12 => ?_)
  refine lv_lstore (lv' := [(5, .long v12), (4, .int v8), (0, .ref a0), (1, .long a1), (3, .int a2)]) hx hb dX8_shareOut_26 hl (by decide) rfl (fun ls hl => ?_)
  refine lv_aload_n hx hb dX8_shareOut_28 rfl (lv_at hl 2 rfl) ?_
  refine g_450 cx hw ha0 k_f_X8_19 dX8_shareOut_29 (fun v13 e13 h13 => ?_)
  refine lv_iload_n hx hb dX8_shareOut_32 rfl (lv_at hl 4 rfl) ?_
  refine lv_dup2_11 hx hb dX8_shareOut_33 rfl rfl ?_
  refine o_lald cx hw h13 (by decide) rfl (iv_in ia2 (by decide)) dX8_shareOut_34 (fun v14 e14 => ?_)
  refine lv_lload hx hb dX8_shareOut_35 (lv_at hl 0 rfl) ?_
  refine lv_ladd hx hb dX8_shareOut_37 ?_
  refine lv_topl (fun v15 e15 => ?_)
  refine o_last cx hw h13 (by decide) rfl (iv_in ia2 (by decide)) dX8_shareOut_38 (fun σ16 H locs eσ16 hw => ?_)
  have fr := oFr_q fr eσ16 h13 (by decide)
  refine lv_iconst (v := 0) hx hb dX8_shareOut_39 (by decide) ?_
  refine lv_istore (lv' := [(7, .int 0), (5, .long v12), (4, .int v8), (0, .ref a0), (1, .long a1), (3, .int a2)]) hx hb dX8_shareOut_40 hl (by decide) rfl (fun ls hl => ?_)
  have J_42 : ∀ n : Nat, ∀ (j42_7 : Int32) (ij42_7 : Iv j42_7 0 4), (4 - j42_7.toInt).toNat < n → ∀ (σ_42 : oSt) (H : Heap) (locs : List Loc), oI A L τ cy D s.heap σ_42 H locs → oFr τ fs_X8_shareOut ts_X8_shareOut σ σ_42 → ∀ (ls : Array Slot), lv_has ls 9 [(0, .ref a0), (1, .long a1), (3, .int a2), (4, .int v8), (5, .long v12), (7, .int j42_7)] → W p l e ({ frames := 1, cells := 0, slots := 0, locals := 22 } : Room) s m args below meth c H locs 0 0 Q (F0 m 42 ls []) := by
    intro n
    induction n with
    | zero => intro j42_7 ij42_7 hn_42  σ_42 H locs hw fr   ls hl; exact absurd hn_42 (Nat.not_lt_zero _)
    | succ n ih_42 =>
      intro j42_7 ij42_7 hn_42  σ_42 H locs hw fr   ls hl
      refine lv_iload hx hb dX8_shareOut_42 (lv_at hl 5 rfl) ?_
      refine lv_iconst (v := 3) hx hb dX8_shareOut_44 (by decide) ?_
      refine lv_icmp_gt (tgt := 83) hx hb dX8_shareOut_45 (by decide) (fun c17 => ?_) (fun c17 => ?_)
      · --
        have i18 : Iv j42_7 4 4 := iv_lt2 c17 (⟨by decide, by decide⟩ : Iv 3 3 3) ij42_7 (by decide)
        rw [← hQ]
        exact o_rv cx rx hw dX8_shareOut_83 fr
      · --
        have i19 : Iv j42_7 0 3 := iv_le1 (iv_nlt c17) ij42_7 (⟨by decide, by decide⟩ : Iv 3 3 3) (by decide)
        refine lv_iload_n hx hb dX8_shareOut_48 rfl (lv_at hl 2 rfl) ?_
        refine lv_iload hx hb dX8_shareOut_49 (lv_at hl 5 rfl) ?_
        refine o_ci hw (oRunS cx hA hw q_X0_next k_m_X8_56 (As := [.int a2, .int j42_7]) (c_X0_next a2 (iv_w ia2 (by decide)) j42_7) (by decide) rfl hl.1 rfl (Nat.le_of_ble_eq_true rfl) dX8_shareOut_51 (by decide)) (fun v21 σ20 H locs hp hw => ?_)
        obtain ⟨p21_0, p21_1⟩ := hp
        rw [p21_0] at hw
        refine lv_istore (lv' := [(8, .int v21), (0, .ref a0), (1, .long a1), (3, .int a2), (4, .int v8), (5, .long v12), (7, .int j42_7)]) hx hb dX8_shareOut_54 hl (by decide) rfl (fun ls hl => ?_)
        refine lv_lload_n hx hb dX8_shareOut_56 rfl (lv_at hl 2 rfl) ?_
        refine lv_iload hx hb dX8_shareOut_57 (lv_at hl 0 rfl) ?_
        refine o_ci hw (oRunS cx hA hw q_X0_has k_m_X8_28 (As := [.long a1, .int v21]) (c_X0_has a1 v21) (by decide) rfl hl.1 rfl (Nat.le_of_ble_eq_true rfl) dX8_shareOut_59 (by decide)) (fun v23 σ22 H locs hp hw => ?_)
        obtain ⟨p23_0, p23_1, p23_2⟩ := hp
        rw [p23_0] at hw
        have J_77 : ∀ (σ_77 : oSt) (H : Heap) (locs : List Loc), oI A L τ cy D s.heap σ_77 H locs → oFr τ fs_X8_shareOut ts_X8_shareOut σ σ_77 → ∀ (ls : Array Slot), lv_has ls 9 [(0, .ref a0), (1, .long a1), (3, .int a2), (4, .int v8), (5, .long v12), (7, .int j42_7), (8, .int v21)] → W p l e ({ frames := 1, cells := 0, slots := 0, locals := 22 } : Room) s m args below meth c H locs 0 0 Q (F0 m 77 ls []) := by
          intro    σ_77 H locs hw fr   ls hl
          obtain ⟨v24, e24⟩ : ∃ y : Int32, y = j42_7 + 1 := ⟨_, rfl⟩
          have i24 : Iv v24 1 4 := iv_add e24 i19 (⟨by decide, by decide⟩ : Iv 1 1 1) (by decide)
          have x24 : v24.toInt = j42_7.toInt + 1 := ex_add e24 i19 (⟨by decide, by decide⟩ : Iv 1 1 1) (by decide)
          refine lv_iinc (v := v24) (lv' := [(7, .int v24), (0, .ref a0), (1, .long a1), (3, .int a2), (4, .int v8), (5, .long v12), (8, .int v21)]) hx hb dX8_shareOut_77 hl (k := 5) rfl (by rw [e24]; rfl) (by decide) rfl (fun ls hl => ?_)
          refine lv_goto (tgt := 42) hx hb dX8_shareOut_80 (by decide) ?_
          exact ih_42 v24 (iv_w i24 (by decide)) (ms_up x24 (by decide) (iv_w (a' := 0) (b' := 4) i24 (by decide)).2 hn_42) σ_77 _ _ hw fr _ (lv_sub hl [1, 2, 3, 4, 5, 0] rfl)
        refine lv_if_eq (tgt := 77) hx hb dX8_shareOut_62 (by decide) (fun c25 => ?_) (fun c25 => ?_)
        · --
          have i26 : Iv v23 0 0 := iv_eq1 c25 p23_1 (⟨by decide, by decide⟩ : Iv 0 0 0) (by decide)
          exact J_77 σ_42 _ _ hw fr _ (lv_sub hl [1, 2, 3, 4, 5, 6, 0] rfl)
        · --
          have i27 : Iv v23 1 1 := iv_ne1 c25 p23_1 (⟨by decide, by decide⟩ : Iv 0 0 0) (by decide)
          have i28 : Iv v21 0 63 := p23_2 c25
          refine lv_aload_n hx hb dX8_shareOut_65 rfl (lv_at hl 1 rfl) ?_
          refine g_450 cx hw ha0 k_f_X8_19 dX8_shareOut_66 (fun v29 e29 h29 => ?_)
          refine lv_iload hx hb dX8_shareOut_69 (lv_at hl 0 rfl) ?_
          refine lv_dup2_11 hx hb dX8_shareOut_71 rfl rfl ?_
          refine o_lald cx hw h29 (by decide) rfl (iv_in i28 (by decide)) dX8_shareOut_72 (fun v30 e30 => ?_)
          refine lv_lload hx hb dX8_shareOut_73 (lv_at hl 5 rfl) ?_
          refine lv_ladd hx hb dX8_shareOut_75 ?_
          refine lv_topl (fun v31 e31 => ?_)
          refine o_last cx hw h29 (by decide) rfl (iv_in i28 (by decide)) dX8_shareOut_76 (fun σ32 H locs eσ32 hw => ?_)
          have fr := oFr_q fr eσ32 h29 (by decide)
          exact J_77 σ32 _ _ hw fr _ (lv_sub hl [1, 2, 3, 4, 5, 6, 0] rfl)
  exact J_42 _ 0 (iv_w (⟨by decide, by decide⟩ : Iv 0 0 0) (by decide)) (Nat.lt_succ_self _) σ16 _ _ hw fr _ (lv_sub hl [3, 4, 5, 2, 1, 0] rfl)
abbrev fs_X8_stray : List Nat := []
abbrev ts_X8_stray : List Nat := [39]
set_option maxHeartbeats 4000000 in
set_option maxRecDepth 100000 in
theorem c_X8_stray (a0 : Nat) (ha0 : oA L τ a0 7) (a1 : Int64) (a2 : Int32) (a3 : Int32) : oMet l A L τ cy D K yX8_stray cX8_stray 7 none 2 60 [.ref a0, .long a1, .int a2, .int a3] σ (va_Qv (fun σ1 => oFr τ fs_X8_stray ts_X8_stray σ σ1) (oPo A L τ cy D) A) := by
  refine oMk (by decide) (Nat.le_of_ble_eq_true rfl) rfl ?_
  intro p e s m args below meth c ls cx rx hA hw hl
  generalize hQ : MQ below _ args s 0 0 A = Q
  have hx := cx.1.1
  have hb := cx.1.2.1
  have hml := cx.1.2.2.1
  have hown := cx.1.2.2.2.1
  have hts := cx.1.2.2.2.2
  have hl : lv_has ls 7 [(0, .ref a0), (1, .long a1), (3, .int a2), (4, .int a3)] := hl
  have fr : oFr τ fs_X8_stray ts_X8_stray σ σ := oFr_rf
  refine lv_aload_n hx hb dX8_stray_0 rfl (lv_at hl 0 rfl) ?_
  refine g_449 cx hw ha0 k_f_X8_15 dX8_stray_1 (fun v1 e1 h1 => ?_)
  refine lv_lconst (v := 0) hx hb dX8_stray_4 (by decide) ?_
  refine o_cv hw (oRunS cx hA hw q_J7_fill_d0a16 k_m_X8_44 (As := [.ref v1, .long 0]) (c_J7_fill_d0a16 v1 h1 0) (by decide) rfl hl.1 rfl (Nat.le_of_ble_eq_true rfl) dX8_stray_5 (by decide)) (fun σ2 H locs hp hw => ?_)
  have p3_0 := hp
  have fr := oFr_tr fr p3_0 (by decide)
  refine lv_lload_n hx hb dX8_stray_8 rfl (lv_at hl 1 rfl) ?_
  refine lv_iload_n hx hb dX8_stray_9 rfl (lv_at hl 2 rfl) ?_
  refine o_ci hw (oRunS cx hA hw q_X0_has k_m_X8_28 (As := [.long a1, .int a2]) (c_X0_has a1 a2) (by decide) rfl hl.1 rfl (Nat.le_of_ble_eq_true rfl) dX8_stray_10 (by decide)) (fun v5 σ4 H locs hp hw => ?_)
  obtain ⟨p5_0, p5_1, p5_2⟩ := hp
  rw [p5_0] at hw
  have J_25 : ∀ (σ_25 : oSt) (H : Heap) (locs : List Loc), oI A L τ cy D s.heap σ_25 H locs → oFr τ fs_X8_stray ts_X8_stray σ σ_25 → ∀ (ls : Array Slot), lv_has ls 7 [(0, .ref a0), (1, .long a1), (3, .int a2), (4, .int a3)] → W p l e ({ frames := 2, cells := 0, slots := 0, locals := 60 } : Room) s m args below meth c H locs 0 0 Q (F0 m 25 ls []) := by
    intro    σ_25 H locs hw fr   ls hl
    refine lv_iconst (v := 0) hx hb dX8_stray_25 (by decide) ?_
    refine lv_istore (lv' := [(5, .int 0), (0, .ref a0), (1, .long a1), (3, .int a2), (4, .int a3)]) hx hb dX8_stray_26 hl (by decide) rfl (fun ls hl => ?_)
    have J_28 : ∀ n : Nat, ∀ (j28_5 : Int32) (ij28_5 : Iv j28_5 0 2147483647), (2147483647 - j28_5.toInt).toNat < n → ∀ (σ_28 : oSt) (H : Heap) (locs : List Loc), oI A L τ cy D s.heap σ_28 H locs → oFr τ fs_X8_stray ts_X8_stray σ σ_28 → ∀ (ls : Array Slot), lv_has ls 7 [(0, .ref a0), (1, .long a1), (3, .int a2), (4, .int a3), (5, .int j28_5)] → W p l e ({ frames := 2, cells := 0, slots := 0, locals := 60 } : Room) s m args below meth c H locs 0 0 Q (F0 m 28 ls []) := by
      intro n
      induction n with
      | zero => intro j28_5 ij28_5 hn_28  σ_28 H locs hw fr   ls hl; exact absurd hn_28 (Nat.not_lt_zero _)
      | succ n ih_28 =>
        intro j28_5 ij28_5 hn_28  σ_28 H locs hw fr   ls hl
        refine lv_iload hx hb dX8_stray_28 (lv_at hl 4 rfl) ?_
        refine lv_iload hx hb dX8_stray_30 (lv_at hl 3 rfl) ?_
        refine lv_icmp_ge (tgt := 99) hx hb dX8_stray_32 (by decide) (fun c6 => ?_) (fun c6 => ?_)
        · --
          rw [← hQ]
          exact o_rv cx rx hw dX8_stray_99 fr
        · --
          have i7 : Iv j28_5 0 2147483646 := iv_lt1 (iv_nle c6) ij28_5 (iv_top a3) (by decide)
          have i8 : Iv a3 1 2147483647 := iv_lt2 (iv_nle c6) ij28_5 (iv_top a3) (by decide)
          refine lv_aload_n hx hb dX8_stray_35 rfl (lv_at hl 0 rfl) ?_
          refine g_450 cx hw ha0 k_f_X8_19 dX8_stray_36 (fun v9 e9 h9 => ?_)
          refine lv_lconst (v := 0) hx hb dX8_stray_39 (by decide) ?_
          refine o_cv hw (oRunS cx hA hw q_J7_fill_d0a16 k_m_X8_44 (As := [.ref v9, .long 0]) (c_J7_fill_d0a16 v9 h9 0) (by decide) rfl hl.1 rfl (Nat.le_of_ble_eq_true rfl) dX8_stray_40 (by decide)) (fun σ10 H locs hp hw => ?_)
          have p11_0 := hp
          have fr := oFr_tr fr p11_0 (by decide)
          refine lv_iconst (v := 0) hx hb dX8_stray_43 (by decide) ?_
          refine lv_istore (lv' := [(6, .int 0), (0, .ref a0), (1, .long a1), (3, .int a2), (4, .int a3), (5, .int j28_5)]) hx hb dX8_stray_44 hl (by decide) rfl (fun ls hl => ?_)
          have J_46 : ∀ n : Nat, ∀ (j46_6 : Int32) (ij46_6 : Iv j46_6 0 64), (64 - j46_6.toInt).toNat < n → ∀ (σ_46 : oSt) (H : Heap) (locs : List Loc), oI A L τ cy D s.heap σ_46 H locs → oFr τ fs_X8_stray ts_X8_stray σ σ_46 → ∀ (ls : Array Slot), lv_has ls 7 [(0, .ref a0), (1, .long a1), (3, .int a2), (4, .int a3), (5, .int j28_5), (6, .int j46_6)] → W p l e ({ frames := 2, cells := 0, slots := 0, locals := 60 } : Room) s m args below meth c H locs 0 0 Q (F0 m 46 ls []) := by
            intro n
            induction n with
            | zero => intro j46_6 ij46_6 hn_46  σ_46 H locs hw fr   ls hl; exact absurd hn_46 (Nat.not_lt_zero _)
            | succ n ih_46 =>
              intro j46_6 ij46_6 hn_46  σ_46 H locs hw fr   ls hl
              refine lv_iload hx hb dX8_stray_46 (lv_at hl 5 rfl) ?_
              refine lv_bipush (v := 64) hx hb dX8_stray_48 (by decide) ?_
              refine lv_icmp_ge (tgt := 78) hx hb dX8_stray_50 (by decide) (fun c12 => ?_) (fun c12 => ?_)
              · --
                have i13 : Iv j46_6 64 64 := iv_le2 c12 (⟨by decide, by decide⟩ : Iv 64 64 64) ij46_6 (by decide)
                refine lv_aload_n hx hb dX8_stray_78 rfl (lv_at hl 0 rfl) ?_
                refine g_450 cx hw ha0 k_f_X8_19 dX8_stray_79 (fun v14 e14 h14 => ?_)
                refine lv_iconst (v := 0) hx hb dX8_stray_82 (by decide) ?_
                refine lv_aload_n hx hb dX8_stray_83 rfl (lv_at hl 0 rfl) ?_
                refine g_449 cx hw ha0 k_f_X8_15 dX8_stray_84 (fun v15 e15 h15 => ?_)
                refine lv_iconst (v := 0) hx hb dX8_stray_87 (by decide) ?_
                refine lv_bipush (v := 64) hx hb dX8_stray_88 (by decide) ?_
                refine o_copyl cx hw h14 h15 (by decide) rfl (by decide) k_m_X8_50 hl.1 (by decide) (Nat.le_of_ble_eq_true rfl) dX8_stray_90 (fun σ16 H locs eσ16 hw => ?_)
                have fr := oFr_q fr eσ16 h15 (by decide)
                obtain ⟨v17, e17⟩ : ∃ y : Int32, y = j28_5 + 1 := ⟨_, rfl⟩
                have i17 : Iv v17 1 2147483647 := iv_add e17 i7 (⟨by decide, by decide⟩ : Iv 1 1 1) (by decide)
                have x17 : v17.toInt = j28_5.toInt + 1 := ex_add e17 i7 (⟨by decide, by decide⟩ : Iv 1 1 1) (by decide)
                refine lv_iinc (v := v17) (lv' := [(5, .int v17), (0, .ref a0), (1, .long a1), (3, .int a2), (4, .int a3), (6, .int j46_6)]) hx hb dX8_stray_93 hl (k := 4) rfl (by rw [e17]; rfl) (by decide) rfl (fun ls hl => ?_)
                refine lv_goto (tgt := 28) hx hb dX8_stray_96 (by decide) ?_
                exact ih_28 v17 (iv_w i17 (by decide)) (ms_up x17 (by decide) (iv_w (a' := 0) (b' := 2147483647) i17 (by decide)).2 hn_28) σ16 _ _ hw fr _ (lv_sub hl [1, 2, 3, 4, 0] rfl)
              · --
                have i18 : Iv j46_6 0 63 := iv_lt1 (iv_nle c12) ij46_6 (⟨by decide, by decide⟩ : Iv 64 64 64) (by decide)
                refine lv_aload_n hx hb dX8_stray_53 rfl (lv_at hl 0 rfl) ?_
                refine g_449 cx hw ha0 k_f_X8_15 dX8_stray_54 (fun v19 e19 h19 => ?_)
                refine lv_iload hx hb dX8_stray_57 (lv_at hl 5 rfl) ?_
                refine o_lald cx hw h19 (by decide) rfl (iv_in i18 (by decide)) dX8_stray_59 (fun v20 e20 => ?_)
                refine lv_lconst (v := 0) hx hb dX8_stray_60 (by decide) ?_
                refine W.lcmp hx hb dX8_stray_61 ?_
                refine lv_topi (fun v21 e21 => ?_)
                have i21 : Iv v21 (-1) 1 := iv_lcmp e21
                have J_72 : ∀ (σ_72 : oSt) (H : Heap) (locs : List Loc), oI A L τ cy D s.heap σ_72 H locs → oFr τ fs_X8_stray ts_X8_stray σ σ_72 → ∀ (ls : Array Slot), lv_has ls 7 [(0, .ref a0), (1, .long a1), (3, .int a2), (4, .int a3), (5, .int j28_5), (6, .int j46_6)] → W p l e ({ frames := 2, cells := 0, slots := 0, locals := 60 } : Room) s m args below meth c H locs 0 0 Q (F0 m 72 ls []) := by
                  intro    σ_72 H locs hw fr   ls hl
                  obtain ⟨v22, e22⟩ : ∃ y : Int32, y = j46_6 + 1 := ⟨_, rfl⟩
                  have i22 : Iv v22 1 64 := iv_add e22 i18 (⟨by decide, by decide⟩ : Iv 1 1 1) (by decide)
                  have x22 : v22.toInt = j46_6.toInt + 1 := ex_add e22 i18 (⟨by decide, by decide⟩ : Iv 1 1 1) (by decide)
                  refine lv_iinc (v := v22) (lv' := [(6, .int v22), (0, .ref a0), (1, .long a1), (3, .int a2), (4, .int a3), (5, .int j28_5)]) hx hb dX8_stray_72 hl (k := 5) rfl (by rw [e22]; rfl) (by decide) rfl (fun ls hl => ?_)
                  refine lv_goto (tgt := 46) hx hb dX8_stray_75 (by decide) ?_
                  exact ih_46 v22 (iv_w i22 (by decide)) (ms_up x22 (by decide) (iv_w (a' := 0) (b' := 64) i22 (by decide)).2 hn_46) σ_72 _ _ hw fr _ (lv_sub hl [1, 2, 3, 4, 5, 0] rfl)
                refine lv_if_le (tgt := 72) hx hb dX8_stray_62 (by decide) (fun c23 => ?_) (fun c23 => ?_)
                · --
                  have i24 : Iv v21 (-1) 0 := iv_le1 c23 i21 (⟨by decide, by decide⟩ : Iv 0 0 0) (by decide)
                  exact J_72 σ_46 _ _ hw fr _ (lv_sub hl [0, 1, 2, 3, 4, 5] rfl)
                · --
                  have i25 : Iv v21 1 1 := iv_lt2 (iv_nle c23) (⟨by decide, by decide⟩ : Iv 0 0 0) i21 (by decide)
                  refine lv_aload_n hx hb dX8_stray_65 rfl (lv_at hl 0 rfl) ?_
                  refine lv_lload_n hx hb dX8_stray_66 rfl (lv_at hl 1 rfl) ?_
                  refine lv_iload hx hb dX8_stray_67 (lv_at hl 5 rfl) ?_
                  refine o_cv hw (oRunV cx hA hw q_X8_shareOut k_m_X8_68 rfl ha0 (by decide) (As := [.long a1, .int j46_6]) (c_X8_shareOut a0 ha0 a1 j46_6 (iv_w i18 (by decide))) (by decide) rfl hl.1 rfl (Nat.le_of_ble_eq_true rfl) dX8_stray_69 (by decide)) (fun σ26 H locs hp hw => ?_)
                  have p27_0 := hp
                  have fr := oFr_tr fr p27_0 (by decide)
                  exact J_72 σ26 _ _ hw fr _ (lv_sub hl [0, 1, 2, 3, 4, 5] rfl)
          exact J_46 _ 0 (iv_w (⟨by decide, by decide⟩ : Iv 0 0 0) (by decide)) (Nat.lt_succ_self _) σ10 _ _ hw fr _ (lv_sub hl [1, 2, 3, 4, 5, 0] rfl)
    exact J_28 _ 0 (iv_w (⟨by decide, by decide⟩ : Iv 0 0 0) (by decide)) (Nat.lt_succ_self _) σ_25 _ _ hw fr _ (lv_sub hl [1, 2, 3, 4, 0] rfl)
  refine lv_if_eq (tgt := 25) hx hb dX8_stray_13 (by decide) (fun c28 => ?_) (fun c28 => ?_)
  · --
    have i29 : Iv v5 0 0 := iv_eq1 c28 p5_1 (⟨by decide, by decide⟩ : Iv 0 0 0) (by decide)
    exact J_25 σ2 _ _ hw fr _ (lv_sub hl [0, 1, 2, 3] rfl)
  · --
    have i30 : Iv v5 1 1 := iv_ne1 c28 p5_1 (⟨by decide, by decide⟩ : Iv 0 0 0) (by decide)
    have i31 : Iv a2 0 63 := p5_2 c28
    refine lv_aload_n hx hb dX8_stray_16 rfl (lv_at hl 0 rfl) ?_
    refine g_449 cx hw ha0 k_f_X8_15 dX8_stray_17 (fun v32 e32 h32 => ?_)
    rw [show v32 = v1 from Option.some.inj (e32.symm.trans (((kr_c p3_0 (by decide)).trans e1)))]
    refine lv_iload_n hx hb dX8_stray_20 rfl (lv_at hl 2 rfl) ?_
    refine lv_ldc2 (v := 1000000) hx hb hown (hts _ k_k_X8_60) dX8_stray_21 ?_
    refine o_last cx hw h1 (by decide) rfl (iv_in i31 (by decide)) dX8_stray_24 (fun σ33 H locs eσ33 hw => ?_)
    have fr := oFr_q fr eσ33 h1 (by decide)
    exact J_25 σ33 _ _ hw fr _ (lv_sub hl [0, 1, 2, 3] rfl)
set_option maxHeartbeats 4000000 in
set_option maxRecDepth 100000 in
theorem c_X8_likeliest (a0 : Nat) (ha0 : oA L τ a0 7) : oMet l A L τ cy D K yX8_likeliest cX8_likeliest 5 (some .int) 0 0 [.ref a0] σ (va_Qi (fun r σ1 => σ1 = σ ∧ Iv r (-1) 63) (oPo A L τ cy D) A) := by
  refine oMk (by decide) (Nat.le_of_ble_eq_true rfl) rfl ?_
  intro p e s m args below meth c ls cx rx hA hw hl
  generalize hQ : MQ below _ args s 0 0 A = Q
  have hx := cx.1.1
  have hb := cx.1.2.1
  have hml := cx.1.2.2.1
  have hown := cx.1.2.2.2.1
  have hts := cx.1.2.2.2.2
  have hl : lv_has ls 5 [(0, .ref a0)] := hl
  refine lv_iconst (v := (-1)) hx hb dX8_likeliest_0 (by decide) ?_
  refine lv_istore_n (lv' := [(1, .int (-1)), (0, .ref a0)]) hx hb dX8_likeliest_1 rfl hl (by decide) rfl (fun ls hl => ?_)
  refine lv_lconst (v := 0) hx hb dX8_likeliest_2 (by decide) ?_
  refine lv_lstore_n (lv' := [(2, .long 0), (1, .int (-1)), (0, .ref a0)]) hx hb dX8_likeliest_3 rfl hl (by decide) rfl (fun ls hl => ?_)
  refine lv_iconst (v := 0) hx hb dX8_likeliest_4 (by decide) ?_
  refine lv_istore (lv' := [(4, .int 0), (2, .long 0), (1, .int (-1)), (0, .ref a0)]) hx hb dX8_likeliest_5 hl (by decide) rfl (fun ls hl => ?_)
  have J_7 : ∀ n : Nat, ∀ (j7_1 : Int32) (ij7_1 : Iv j7_1 (-1) 63) (j7_2 : Int64) (j7_4 : Int32) (ij7_4 : Iv j7_4 0 64), (64 - j7_4.toInt).toNat < n → ∀ (H : Heap) (locs : List Loc), oI A L τ cy D s.heap σ H locs → ∀ (ls : Array Slot), lv_has ls 5 [(0, .ref a0), (1, .int j7_1), (2, .long j7_2), (4, .int j7_4)] → W p l e ({ frames := 0, cells := 0, slots := 0, locals := 0 } : Room) s m args below meth c H locs 0 0 Q (F0 m 7 ls []) := by
    intro n
    induction n with
    | zero => intro j7_1 ij7_1 j7_2 j7_4 ij7_4 hn_7  H locs hw  ls hl; exact absurd hn_7 (Nat.not_lt_zero _)
    | succ n ih_7 =>
      intro j7_1 ij7_1 j7_2 j7_4 ij7_4 hn_7  H locs hw  ls hl
      refine lv_iload hx hb dX8_likeliest_7 (lv_at hl 3 rfl) ?_
      refine lv_bipush (v := 64) hx hb dX8_likeliest_9 (by decide) ?_
      refine lv_icmp_ge (tgt := 43) hx hb dX8_likeliest_11 (by decide) (fun c1 => ?_) (fun c1 => ?_)
      · --
        have i2 : Iv j7_4 64 64 := iv_le2 c1 (⟨by decide, by decide⟩ : Iv 64 64 64) ij7_4 (by decide)
        refine lv_iload_n hx hb dX8_likeliest_43 rfl (lv_at hl 1 rfl) ?_
        rw [← hQ]
        exact o_ri cx rx hw dX8_likeliest_44 ⟨rfl, (iv_w ij7_1 (by decide))⟩
      · --
        have i3 : Iv j7_4 0 63 := iv_lt1 (iv_nle c1) ij7_4 (⟨by decide, by decide⟩ : Iv 64 64 64) (by decide)
        refine lv_aload_n hx hb dX8_likeliest_14 rfl (lv_at hl 0 rfl) ?_
        refine g_449 cx hw ha0 k_f_X8_15 dX8_likeliest_15 (fun v4 e4 h4 => ?_)
        refine lv_iload hx hb dX8_likeliest_18 (lv_at hl 3 rfl) ?_
        refine o_lald cx hw h4 (by decide) rfl (iv_in i3 (by decide)) dX8_likeliest_20 (fun v5 e5 => ?_)
        refine lv_lload_n hx hb dX8_likeliest_21 rfl (lv_at hl 2 rfl) ?_
        refine W.lcmp hx hb dX8_likeliest_22 ?_
        refine lv_topi (fun v6 e6 => ?_)
        have i6 : Iv v6 (-1) 1 := iv_lcmp e6
        have J_37 : ∀ (j37_1 : Int32) (ij37_1 : Iv j37_1 (-1) 63) (j37_2 : Int64), ∀ (H : Heap) (locs : List Loc), oI A L τ cy D s.heap σ H locs → ∀ (ls : Array Slot), lv_has ls 5 [(0, .ref a0), (1, .int j37_1), (2, .long j37_2), (4, .int j7_4)] → W p l e ({ frames := 0, cells := 0, slots := 0, locals := 0 } : Room) s m args below meth c H locs 0 0 Q (F0 m 37 ls []) := by
          intro j37_1 ij37_1 j37_2   H locs hw  ls hl
          obtain ⟨v7, e7⟩ : ∃ y : Int32, y = j7_4 + 1 := ⟨_, rfl⟩
          have i7 : Iv v7 1 64 := iv_add e7 i3 (⟨by decide, by decide⟩ : Iv 1 1 1) (by decide)
          have x7 : v7.toInt = j7_4.toInt + 1 := ex_add e7 i3 (⟨by decide, by decide⟩ : Iv 1 1 1) (by decide)
          refine lv_iinc (v := v7) (lv' := [(4, .int v7), (0, .ref a0), (1, .int j37_1), (2, .long j37_2)]) hx hb dX8_likeliest_37 hl (k := 3) rfl (by rw [e7]; rfl) (by decide) rfl (fun ls hl => ?_)
          refine lv_goto (tgt := 7) hx hb dX8_likeliest_40 (by decide) ?_
          exact ih_7 j37_1 ij37_1 j37_2 v7 (iv_w i7 (by decide)) (ms_up x7 (by decide) (iv_w (a' := 0) (b' := 64) i7 (by decide)).2 hn_7) _ _ hw _ (lv_sub hl [1, 2, 3, 0] rfl)
        refine lv_if_le (tgt := 37) hx hb dX8_likeliest_23 (by decide) (fun c8 => ?_) (fun c8 => ?_)
        · --
          have i9 : Iv v6 (-1) 0 := iv_le1 c8 i6 (⟨by decide, by decide⟩ : Iv 0 0 0) (by decide)
          exact J_37 j7_1 ij7_1 j7_2 _ _ hw _ (lv_sub hl [0, 1, 2, 3] rfl)
        · --
          have i10 : Iv v6 1 1 := iv_lt2 (iv_nle c8) (⟨by decide, by decide⟩ : Iv 0 0 0) i6 (by decide)
          refine lv_aload_n hx hb dX8_likeliest_26 rfl (lv_at hl 0 rfl) ?_
          refine g_449 cx hw ha0 k_f_X8_15 dX8_likeliest_27 (fun v11 e11 h11 => ?_)
          rw [show v11 = v4 from Option.some.inj (e11.symm.trans (e4))]
          refine lv_iload hx hb dX8_likeliest_30 (lv_at hl 3 rfl) ?_
          refine o_lald cx hw h4 (by decide) rfl (iv_in i3 (by decide)) dX8_likeliest_32 (fun v12 e12 => ?_)
          refine lv_lstore_n (lv' := [(2, .long v12), (0, .ref a0), (1, .int j7_1), (4, .int j7_4)]) hx hb dX8_likeliest_33 rfl hl (by decide) rfl (fun ls hl => ?_)
          refine lv_iload hx hb dX8_likeliest_34 (lv_at hl 3 rfl) ?_
          refine lv_istore_n (lv' := [(1, .int j7_4), (2, .long v12), (0, .ref a0), (4, .int j7_4)]) hx hb dX8_likeliest_36 rfl hl (by decide) rfl (fun ls hl => ?_)
          exact J_37 j7_4 (iv_w i3 (by decide)) v12 _ _ hw _ (lv_sub hl [2, 0, 1, 3] rfl)
  exact J_7 _ (-1) (iv_w (⟨by decide, by decide⟩ : Iv (-1) (-1) (-1)) (by decide)) 0 0 (iv_w (⟨by decide, by decide⟩ : Iv 0 0 0) (by decide)) (Nat.lt_succ_self _) _ _ hw _ (lv_sub hl [3, 2, 1, 0] rfl)
end OM
