section OM
variable {l : Launch} {A : Nat → Prop} {L : List Nat} {τ : Nat → Nat} {cy : Nat → ClassId} {D : va_G} {K : (Nat → Nat) × (Nat → Nat)} {σ : oSt}
set_option maxHeartbeats 4000000 in
set_option maxRecDepth 100000 in
theorem c_J13_bitCount_95d88 (a0 : Int64) : oMet l A L τ cy D K yJ13_bitCount_95d88 cJ13_bitCount_95d88 2 (some .int) 0 0 [.long a0] σ (va_Qi (fun r σ1 => σ1 = σ ∧ Iv r 0 127) (oPo A L τ cy D) A) := by
  refine oMk (by decide) (Nat.le_of_ble_eq_true rfl) rfl ?_
  intro p e s m args below meth c ls cx rx hA hw hl
  generalize hQ : MQ below _ args s 0 0 A = Q
  have hx := cx.1.1
  have hb := cx.1.2.1
  have hml := cx.1.2.2.1
  have hown := cx.1.2.2.2.1
  have hts := cx.1.2.2.2.2
  have hl : lv_has ls 2 [(0, .long a0)] := hl
  refine lv_lload_n hx hb dJ13_bitCount_95d88_0 rfl (lv_at hl 0 rfl) ?_
  refine lv_lload_n hx hb dJ13_bitCount_95d88_1 rfl (lv_at hl 0 rfl) ?_
  refine lv_iconst (v := 1) hx hb dJ13_bitCount_95d88_2 (by decide) ?_
  refine lv_lushr hx hb dJ13_bitCount_95d88_3 rfl ?_
  refine lv_topl (fun v1 e1 => ?_)
  refine lv_ldc2 (v := 6148914691236517205) hx hb hown (hts _ k_k_J13_314) dJ13_bitCount_95d88_4 ?_
  refine lv_land hx hb dJ13_bitCount_95d88_7 ?_
  refine lv_topl (fun v2 e2 => ?_)
  refine lv_lsub hx hb dJ13_bitCount_95d88_8 ?_
  refine lv_topl (fun v3 e3 => ?_)
  refine lv_lstore_n (lv' := [(0, .long v3)]) hx hb dJ13_bitCount_95d88_9 rfl hl (by decide) rfl (fun ls hl => ?_)
  refine lv_lload_n hx hb dJ13_bitCount_95d88_10 rfl (lv_at hl 0 rfl) ?_
  refine lv_ldc2 (v := 3689348814741910323) hx hb hown (hts _ k_k_J13_316) dJ13_bitCount_95d88_11 ?_
  refine lv_land hx hb dJ13_bitCount_95d88_14 ?_
  refine lv_topl (fun v4 e4 => ?_)
  refine lv_lload_n hx hb dJ13_bitCount_95d88_15 rfl (lv_at hl 0 rfl) ?_
  refine lv_iconst (v := 2) hx hb dJ13_bitCount_95d88_16 (by decide) ?_
  refine lv_lushr hx hb dJ13_bitCount_95d88_17 rfl ?_
  refine lv_topl (fun v5 e5 => ?_)
  refine lv_ldc2 (v := 3689348814741910323) hx hb hown (hts _ k_k_J13_316) dJ13_bitCount_95d88_18 ?_
  refine lv_land hx hb dJ13_bitCount_95d88_21 ?_
  refine lv_topl (fun v6 e6 => ?_)
  refine lv_ladd hx hb dJ13_bitCount_95d88_22 ?_
  refine lv_topl (fun v7 e7 => ?_)
  refine lv_lstore_n (lv' := [(0, .long v7)]) hx hb dJ13_bitCount_95d88_23 rfl hl (by decide) rfl (fun ls hl => ?_)
  refine lv_lload_n hx hb dJ13_bitCount_95d88_24 rfl (lv_at hl 0 rfl) ?_
  refine lv_lload_n hx hb dJ13_bitCount_95d88_25 rfl (lv_at hl 0 rfl) ?_
  refine lv_iconst (v := 4) hx hb dJ13_bitCount_95d88_26 (by decide) ?_
  refine lv_lushr hx hb dJ13_bitCount_95d88_27 rfl ?_
  refine lv_topl (fun v8 e8 => ?_)
  refine lv_ladd hx hb dJ13_bitCount_95d88_28 ?_
  refine lv_topl (fun v9 e9 => ?_)
  refine lv_ldc2 (v := 1085102592571150095) hx hb hown (hts _ k_k_J13_318) dJ13_bitCount_95d88_29 ?_
  refine lv_land hx hb dJ13_bitCount_95d88_32 ?_
  refine lv_topl (fun v10 e10 => ?_)
  refine lv_lstore_n (lv' := [(0, .long v10)]) hx hb dJ13_bitCount_95d88_33 rfl hl (by decide) rfl (fun ls hl => ?_)
  refine lv_lload_n hx hb dJ13_bitCount_95d88_34 rfl (lv_at hl 0 rfl) ?_
  refine lv_lload_n hx hb dJ13_bitCount_95d88_35 rfl (lv_at hl 0 rfl) ?_
  refine lv_bipush (v := 8) hx hb dJ13_bitCount_95d88_36 (by decide) ?_
  refine lv_lushr hx hb dJ13_bitCount_95d88_38 rfl ?_
  refine lv_topl (fun v11 e11 => ?_)
  refine lv_ladd hx hb dJ13_bitCount_95d88_39 ?_
  refine lv_topl (fun v12 e12 => ?_)
  refine lv_lstore_n (lv' := [(0, .long v12)]) hx hb dJ13_bitCount_95d88_40 rfl hl (by decide) rfl (fun ls hl => ?_)
  refine lv_lload_n hx hb dJ13_bitCount_95d88_41 rfl (lv_at hl 0 rfl) ?_
  refine lv_lload_n hx hb dJ13_bitCount_95d88_42 rfl (lv_at hl 0 rfl) ?_
  refine lv_bipush (v := 16) hx hb dJ13_bitCount_95d88_43 (by decide) ?_
  refine lv_lushr hx hb dJ13_bitCount_95d88_45 rfl ?_
  refine lv_topl (fun v13 e13 => ?_)
  refine lv_ladd hx hb dJ13_bitCount_95d88_46 ?_
  refine lv_topl (fun v14 e14 => ?_)
  refine lv_lstore_n (lv' := [(0, .long v14)]) hx hb dJ13_bitCount_95d88_47 rfl hl (by decide) rfl (fun ls hl => ?_)
  refine lv_lload_n hx hb dJ13_bitCount_95d88_48 rfl (lv_at hl 0 rfl) ?_
  refine lv_lload_n hx hb dJ13_bitCount_95d88_49 rfl (lv_at hl 0 rfl) ?_
  refine lv_bipush (v := 32) hx hb dJ13_bitCount_95d88_50 (by decide) ?_
  refine lv_lushr hx hb dJ13_bitCount_95d88_52 rfl ?_
  refine lv_topl (fun v15 e15 => ?_)
  refine lv_ladd hx hb dJ13_bitCount_95d88_53 ?_
  refine lv_topl (fun v16 e16 => ?_)
  refine lv_lstore_n (lv' := [(0, .long v16)]) hx hb dJ13_bitCount_95d88_54 rfl hl (by decide) rfl (fun ls hl => ?_)
  refine lv_lload_n hx hb dJ13_bitCount_95d88_55 rfl (lv_at hl 0 rfl) ?_
  refine lv_l2i hx hb dJ13_bitCount_95d88_56 rfl ?_
  refine lv_topi (fun v17 e17 => ?_)
  refine lv_bipush (v := 127) hx hb dJ13_bitCount_95d88_57 (by decide) ?_
  refine lv_iand hx hb dJ13_bitCount_95d88_59 ?_
  refine lv_topi (fun v18 e18 => ?_)
  have i18 : Iv v18 0 127 := iv_and e18 (⟨by decide, by decide⟩ : Iv 127 127 127) (by decide)
  rw [← hQ]
  exact o_ri cx rx hw dJ13_bitCount_95d88_60 ⟨rfl, (iv_w i18 (by decide))⟩
abbrev fs_X8_measure : List Nat := []
abbrev ts_X8_measure : List Nat := [32]
set_option maxHeartbeats 4000000 in
set_option maxRecDepth 100000 in
theorem c_X8_measure (a0 : Nat) (ha0 : oA L τ a0 7) (a1 : Int64) (a2 : Int32) : oMet l A L τ cy D K yX8_measure cX8_measure 10 none 1 23 [.ref a0, .long a1, .int a2] σ (va_Qv (fun σ1 => oFr τ fs_X8_measure ts_X8_measure σ σ1) (oPo A L τ cy D) A) := by
  refine oMk (by decide) (Nat.le_of_ble_eq_true rfl) rfl ?_
  intro p e s m args below meth c ls cx rx hA hw hl
  generalize hQ : MQ below _ args s 0 0 A = Q
  have hx := cx.1.1
  have hb := cx.1.2.1
  have hml := cx.1.2.2.1
  have hown := cx.1.2.2.2.1
  have hts := cx.1.2.2.2.2
  have hl : lv_has ls 10 [(0, .ref a0), (1, .long a1), (3, .int a2)] := hl
  have fr : oFr τ fs_X8_measure ts_X8_measure σ σ := oFr_rf
  refine lv_aload_n hx hb dX8_measure_0 rfl (lv_at hl 0 rfl) ?_
  refine g_448 cx hw ha0 k_f_X8_9 dX8_measure_1 (fun v1 e1 h1 => ?_)
  refine lv_iconst (v := (-1)) hx hb dX8_measure_4 (by decide) ?_
  refine o_cv hw (oRunS cx hA hw q_J7_fill_53178 k_m_X8_22 (As := [.ref v1, .int (-1)]) (c_J7_fill_53178 v1 h1 (-1)) (by decide) rfl hl.1 rfl (Nat.le_of_ble_eq_true rfl) dX8_measure_5 (by decide)) (fun σ2 H locs hp hw => ?_)
  have p3_0 := hp
  have fr := oFr_tr fr p3_0 (by decide)
  refine lv_lconst (v := 0) hx hb dX8_measure_8 (by decide) ?_
  refine lv_lstore (lv' := [(4, .long 0), (0, .ref a0), (1, .long a1), (3, .int a2)]) hx hb dX8_measure_9 hl (by decide) rfl (fun ls hl => ?_)
  refine lv_lload_n hx hb dX8_measure_11 rfl (lv_at hl 2 rfl) ?_
  refine lv_iload_n hx hb dX8_measure_12 rfl (lv_at hl 3 rfl) ?_
  refine o_ci hw (oRunS cx hA hw q_X0_has k_m_X8_28 (As := [.long a1, .int a2]) (c_X0_has a1 a2) (by decide) rfl hl.1 rfl (Nat.le_of_ble_eq_true rfl) dX8_measure_13 (by decide)) (fun v5 σ4 H locs hp hw => ?_)
  obtain ⟨p5_0, p5_1, p5_2, p5_3⟩ := hp
  rw [p5_0] at hw
  have J_27 : ∀ (k27_0 : Int64), ∀ (H : Heap) (locs : List Loc), oI A L τ cy D s.heap σ2 H locs → ∀ (ls : Array Slot), lv_has ls 10 [(0, .ref a0), (1, .long a1), (3, .int a2), (4, .long 0)] → W p l e ({ frames := 1, cells := 0, slots := 0, locals := 23 } : Room) s m args below meth c H locs 0 0 Q (F0 m 27 ls [.long k27_0]) := by
    intro k27_0 H locs hw     ls hl
    refine lv_lstore (lv' := [(6, .long k27_0), (0, .ref a0), (1, .long a1), (3, .int a2), (4, .long 0)]) hx hb dX8_measure_27 hl (by decide) rfl (fun ls hl => ?_)
    refine lv_iconst (v := 0) hx hb dX8_measure_29 (by decide) ?_
    refine lv_istore (lv' := [(8, .int 0), (6, .long k27_0), (0, .ref a0), (1, .long a1), (3, .int a2), (4, .long 0)]) hx hb dX8_measure_30 hl (by decide) rfl (fun ls hl => ?_)
    have frE_32 := fr
    have J_32 : ∀ n32 : Nat, ∀ (j32_4 : Int64) (j32_6 : Int64) (j32_8 : Int32) (ij32_8 : Iv j32_8 0 64), ∀ (σ_32 : oSt) (H : Heap) (locs : List Loc), oI A L τ cy D s.heap σ_32 H locs → oFr τ fs_X8_measure ts_X8_measure σ σ_32 → (64 - j32_8.toInt).toNat < n32 → ∀ (ls : Array Slot), lv_has ls 10 [(0, .ref a0), (1, .long a1), (3, .int a2), (4, .long j32_4), (6, .long j32_6), (8, .int j32_8)] → W p l e ({ frames := 1, cells := 0, slots := 0, locals := 23 } : Room) s m args below meth c H locs 0 0 Q (F0 m 32 ls []) := by
      intro n32
      induction n32 with
      | zero => intro j32_4 j32_6 j32_8 ij32_8 σ_32 H locs hw fr   hn_32   ls hl; exact absurd hn_32 (Nat.not_lt_zero _)
      | succ n32 ih_32 =>
        intro j32_4 j32_6 j32_8 ij32_8 σ_32 H locs hw fr   hn_32   ls hl
        have fr_32 := fr
        refine lv_iload hx hb dX8_measure_32 (lv_at hl 5 rfl) ?_
        refine lv_bipush (v := 64) hx hb dX8_measure_34 (by decide) ?_
        refine lv_icmp_ge (tgt := 110) hx hb dX8_measure_36 (by decide) (fun c6 => ?_) (fun c6 => ?_)
        · --
          have i7 : Iv j32_8 64 64 := iv_le2 c6 (⟨by decide, by decide⟩ : Iv 64 64 64) ij32_8 (by decide)
          rw [← hQ]
          exact o_rv cx rx hw dX8_measure_110 fr
        · --
          have i8 : Iv j32_8 0 63 := iv_lt1 (iv_nle c6) ij32_8 (⟨by decide, by decide⟩ : Iv 64 64 64) (by decide)
          refine lv_lload hx hb dX8_measure_39 (lv_at hl 4 rfl) ?_
          refine lv_lconst (v := 0) hx hb dX8_measure_41 (by decide) ?_
          refine W.lcmp hx hb dX8_measure_42 ?_
          refine lv_topi (fun v9 e9 => ?_)
          have i9 : Iv v9 (-1) 1 := iv_lcmp e9
          refine lv_if_eq (tgt := 110) hx hb dX8_measure_43 (by decide) (fun c10 => ?_) (fun c10 => ?_)
          · --
            have i11 : Iv v9 0 0 := iv_eq1 c10 i9 (⟨by decide, by decide⟩ : Iv 0 0 0) (by decide)
            rw [← hQ]
            exact o_rv cx rx hw dX8_measure_110 fr
          · --
            refine lv_iconst (v := 0) hx hb dX8_measure_46 (by decide) ?_
            refine lv_istore (lv' := [(9, .int 0), (0, .ref a0), (1, .long a1), (3, .int a2), (4, .long j32_4), (6, .long j32_6), (8, .int j32_8)]) hx hb dX8_measure_47 hl (by decide) rfl (fun ls hl => ?_)
            have frE_49 := fr
            have J_49 : ∀ n49 : Nat, ∀ (j49_9 : Int32) (ij49_9 : Iv j49_9 0 64), ∀ (σ_49 : oSt) (H : Heap) (locs : List Loc), oI A L τ cy D s.heap σ_49 H locs → oFr τ fs_X8_measure ts_X8_measure σ σ_49 → (64 - j49_9.toInt).toNat < n49 → ∀ (ls : Array Slot), lv_has ls 10 [(0, .ref a0), (1, .long a1), (3, .int a2), (4, .long j32_4), (6, .long j32_6), (8, .int j32_8), (9, .int j49_9)] → W p l e ({ frames := 1, cells := 0, slots := 0, locals := 23 } : Room) s m args below meth c H locs 0 0 Q (F0 m 49 ls []) := by
              intro n49
              induction n49 with
              | zero => intro j49_9 ij49_9 σ_49 H locs hw fr   hn_49   ls hl; exact absurd hn_49 (Nat.not_lt_zero _)
              | succ n49 ih_49 =>
                intro j49_9 ij49_9 σ_49 H locs hw fr   hn_49   ls hl
                have fr_49 := fr
                refine lv_iload hx hb dX8_measure_49 (lv_at hl 6 rfl) ?_
                refine lv_bipush (v := 64) hx hb dX8_measure_51 (by decide) ?_
                refine lv_icmp_ge (tgt := 81) hx hb dX8_measure_53 (by decide) (fun c12 => ?_) (fun c12 => ?_)
                · --
                  have i13 : Iv j49_9 64 64 := iv_le2 c12 (⟨by decide, by decide⟩ : Iv 64 64 64) ij49_9 (by decide)
                  refine lv_lload hx hb dX8_measure_81 (lv_at hl 3 rfl) ?_
                  refine lv_lload hx hb dX8_measure_83 (lv_at hl 4 rfl) ?_
                  refine lv_lor hx hb dX8_measure_85 ?_
                  refine lv_topl (fun v14 e14 => ?_)
                  refine lv_lstore (lv' := [(4, .long v14), (0, .ref a0), (1, .long a1), (3, .int a2), (6, .long j32_6), (8, .int j32_8), (9, .int j49_9)]) hx hb dX8_measure_86 hl (by decide) rfl (fun ls hl => ?_)
                  refine lv_lload hx hb dX8_measure_88 (lv_at hl 4 rfl) ?_
                  refine o_cl hw (oRunS cx hA hw q_X0_beside k_m_X8_38 (As := [.long j32_6]) (c_X0_beside j32_6) (by decide) rfl hl.1 rfl (Nat.le_of_ble_eq_true rfl) dX8_measure_90 (by decide)) (fun v16 σ15 H locs hp hw => ?_)
                  have p16_0 := hp
                  rw [p16_0] at hw
                  refine lv_lload_n hx hb dX8_measure_93 rfl (lv_at hl 2 rfl) ?_
                  refine lv_land hx hb dX8_measure_94 ?_
                  refine lv_topl (fun v17 e17 => ?_)
                  refine lv_lload hx hb dX8_measure_95 (lv_at hl 0 rfl) ?_
                  refine lv_ldc2 (v := (-1)) hx hb hown (hts _ k_k_X8_42) dX8_measure_97 ?_
                  refine lv_lxor hx hb dX8_measure_100 ?_
                  refine lv_topl (fun v18 e18 => ?_)
                  refine lv_land hx hb dX8_measure_101 ?_
                  refine lv_topl (fun v19 e19 => ?_)
                  refine lv_lstore (lv' := [(6, .long v19), (4, .long v14), (0, .ref a0), (1, .long a1), (3, .int a2), (8, .int j32_8), (9, .int j49_9)]) hx hb dX8_measure_102 hl (by decide) rfl (fun ls hl => ?_)
                  obtain ⟨v20, e20⟩ : ∃ y : Int32, y = j32_8 + 1 := ⟨_, rfl⟩
                  have i20 : Iv v20 1 64 := iv_add e20 i8 (⟨by decide, by decide⟩ : Iv 1 1 1) (by decide)
                  have x20 : v20.toInt = j32_8.toInt + 1 := ex_add e20 i8 (⟨by decide, by decide⟩ : Iv 1 1 1) (by decide)
                  refine lv_iinc (v := v20) (lv' := [(8, .int v20), (6, .long v19), (4, .long v14), (0, .ref a0), (1, .long a1), (3, .int a2), (9, .int j49_9)]) hx hb dX8_measure_104 hl (k := 5) rfl (by rw [e20]; rfl) (by decide) rfl (fun ls hl => ?_)
                  refine lv_goto (tgt := 32) hx hb dX8_measure_107 (by decide) ?_
                  exact ih_32 v14 v19 v20 (iv_w i20 (by decide)) σ_49 _ _ hw fr (ms_up x20 (by decide) (iv_w (a' := 0) (b' := 64) i20 (by decide)).2 hn_32) _ (lv_sub hl [3, 4, 5, 2, 1, 0] rfl)
                · --
                  have i21 : Iv j49_9 0 63 := iv_lt1 (iv_nle c12) ij49_9 (⟨by decide, by decide⟩ : Iv 64 64 64) (by decide)
                  refine lv_lload hx hb dX8_measure_56 (lv_at hl 4 rfl) ?_
                  refine lv_iload hx hb dX8_measure_58 (lv_at hl 6 rfl) ?_
                  refine o_ci hw (oRunS cx hA hw q_X0_has k_m_X8_28 (As := [.long j32_6, .int j49_9]) (c_X0_has j32_6 j49_9) (by decide) rfl hl.1 rfl (Nat.le_of_ble_eq_true rfl) dX8_measure_60 (by decide)) (fun v23 σ22 H locs hp hw => ?_)
                  obtain ⟨p23_0, p23_1, p23_2, p23_3⟩ := hp
                  rw [p23_0] at hw
                  have frE_75 := fr
                  have J_75 : ∀ (σ_75 : oSt) (H : Heap) (locs : List Loc), oI A L τ cy D s.heap σ_75 H locs → oFr τ fs_X8_measure ts_X8_measure σ σ_75 → ∀ (ls : Array Slot), lv_has ls 10 [(0, .ref a0), (1, .long a1), (3, .int a2), (4, .long j32_4), (6, .long j32_6), (8, .int j32_8), (9, .int j49_9)] → W p l e ({ frames := 1, cells := 0, slots := 0, locals := 23 } : Room) s m args below meth c H locs 0 0 Q (F0 m 75 ls []) := by
                    intro  σ_75 H locs hw fr      ls hl
                    have fr_75 := fr
                    obtain ⟨v24, e24⟩ : ∃ y : Int32, y = j49_9 + 1 := ⟨_, rfl⟩
                    have i24 : Iv v24 1 64 := iv_add e24 i21 (⟨by decide, by decide⟩ : Iv 1 1 1) (by decide)
                    have x24 : v24.toInt = j49_9.toInt + 1 := ex_add e24 i21 (⟨by decide, by decide⟩ : Iv 1 1 1) (by decide)
                    refine lv_iinc (v := v24) (lv' := [(9, .int v24), (0, .ref a0), (1, .long a1), (3, .int a2), (4, .long j32_4), (6, .long j32_6), (8, .int j32_8)]) hx hb dX8_measure_75 hl (k := 6) rfl (by rw [e24]; rfl) (by decide) rfl (fun ls hl => ?_)
                    refine lv_goto (tgt := 49) hx hb dX8_measure_78 (by decide) ?_
                    exact ih_49 v24 (iv_w i24 (by decide)) σ_75 _ _ hw fr (ms_up x24 (by decide) (iv_w (a' := 0) (b' := 64) i24 (by decide)).2 hn_49) _ (lv_sub hl [1, 2, 3, 4, 5, 6, 0] rfl)
                  refine lv_if_eq (tgt := 75) hx hb dX8_measure_63 (by decide) (fun c25 => ?_) (fun c25 => ?_)
                  · --
                    have i26 : Iv v23 0 0 := iv_eq1 c25 p23_1 (⟨by decide, by decide⟩ : Iv 0 0 0) (by decide)
                    exact J_75 σ_49 _ _ hw fr _ (lv_sub hl [0, 1, 2, 3, 4, 5, 6] rfl)
                  · --
                    have i27 : Iv v23 1 1 := iv_ne1 c25 p23_1 (⟨by decide, by decide⟩ : Iv 0 0 0) (by decide)
                    have i28 : Iv j49_9 0 63 := p23_2 c25
                    refine lv_aload_n hx hb dX8_measure_66 rfl (lv_at hl 0 rfl) ?_
                    refine g_448 cx hw ha0 k_f_X8_9 dX8_measure_67 (fun v29 e29 h29 => ?_)
                    rw [show v29 = v1 from Option.some.inj (e29.symm.trans (((kr_c fr_49 (by decide)).trans ((kr_c frE_49 (by decide)).symm.trans (((kr_c fr_32 (by decide)).trans ((kr_c frE_32 (by decide)).symm.trans (((kr_c p3_0 (by decide)).trans e1)))))))))]
                    refine lv_iload hx hb dX8_measure_70 (lv_at hl 6 rfl) ?_
                    refine lv_iload hx hb dX8_measure_72 (lv_at hl 5 rfl) ?_
                    refine o_iast cx hw h1 (by decide) rfl (iv_in i28 (by decide)) trivial dX8_measure_74 (fun σ30 H locs eσ30 hw => ?_)
                    have fr := oFr_p fr eσ30 h1 (by decide)
                    exact J_75 σ30 _ _ hw fr _ (lv_sub hl [0, 1, 2, 3, 4, 5, 6] rfl)
            exact J_49 _ 0 (iv_w (⟨by decide, by decide⟩ : Iv 0 0 0) (by decide)) σ_32 _ _ hw fr (Nat.lt_succ_self _) _ (lv_sub hl [1, 2, 3, 4, 5, 6, 0] rfl)
    exact J_32 _ 0 k27_0 0 (iv_w (⟨by decide, by decide⟩ : Iv 0 0 0) (by decide)) σ2 _ _ hw fr (Nat.lt_succ_self _) _ (lv_sub hl [2, 3, 4, 5, 1, 0] rfl)
  refine lv_if_eq (tgt := 26) hx hb dX8_measure_16 (by decide) (fun c31 => ?_) (fun c31 => ?_)
  · --
    have i32 : Iv v5 0 0 := iv_eq1 c31 p5_1 (⟨by decide, by decide⟩ : Iv 0 0 0) (by decide)
    refine lv_lconst (v := 0) hx hb dX8_measure_26 (by decide) ?_
    exact J_27 0 _ _ hw _ (lv_sub hl [1, 2, 3, 0] rfl)
  · --
    have i33 : Iv v5 1 1 := iv_ne1 c31 p5_1 (⟨by decide, by decide⟩ : Iv 0 0 0) (by decide)
    have i34 : Iv a2 0 63 := p5_2 c31
    refine lv_iload_n hx hb dX8_measure_19 rfl (lv_at hl 3 rfl) ?_
    refine o_cl hw (oRunS cx hA hw q_X0_bit k_m_X8_34 (As := [.int a2]) (c_X0_bit a2) (by decide) rfl hl.1 rfl (Nat.le_of_ble_eq_true rfl) dX8_measure_20 (by decide)) (fun v36 σ35 H locs hp hw => ?_)
    obtain ⟨p36_0, p36_1⟩ := hp
    rw [p36_0] at hw
    refine lv_goto (tgt := 27) hx hb dX8_measure_23 (by decide) ?_
    exact J_27 v36 _ _ hw _ (lv_sub hl [1, 2, 3, 0] rfl)
set_option maxHeartbeats 4000000 in
set_option maxRecDepth 100000 in
theorem c_X8_leastBeside (a0 : Nat) (ha0 : oA L τ a0 7) (a1 : Int32) (a2 : Int32) : oMet l A L τ cy D K yX8_leastBeside cX8_leastBeside 6 (some .int) 1 22 [.ref a0, .int a1, .int a2] σ (va_Qi (fun r σ1 => σ1 = σ) (oPo A L τ cy D) A) := by
  refine oMk (by decide) (Nat.le_of_ble_eq_true rfl) rfl ?_
  intro p e s m args below meth c ls cx rx hA hw hl
  generalize hQ : MQ below _ args s 0 0 A = Q
  have hx := cx.1.1
  have hb := cx.1.2.1
  have hml := cx.1.2.2.1
  have hown := cx.1.2.2.2.1
  have hts := cx.1.2.2.2.2
  have hl : lv_has ls 6 [(0, .ref a0), (1, .int a1), (2, .int a2)] := hl
  refine lv_iload_n hx hb dX8_leastBeside_0 rfl (lv_at hl 1 rfl) ?_
  refine o_cl hw (oRunS cx hA hw q_X0_bit k_m_X8_34 (As := [.int a1]) (c_X0_bit a1) (by decide) rfl hl.1 rfl (Nat.le_of_ble_eq_true rfl) dX8_leastBeside_1 (by decide)) (fun v2 σ1 H locs hp hw => ?_)
  obtain ⟨p2_0, p2_1⟩ := hp
  rw [p2_0] at hw
  refine o_cl hw (oRunS cx hA hw q_X0_beside k_m_X8_38 (As := [.long v2]) (c_X0_beside v2) (by decide) rfl hl.1 rfl (Nat.le_of_ble_eq_true rfl) dX8_leastBeside_4 (by decide)) (fun v4 σ3 H locs hp hw => ?_)
  have p4_0 := hp
  rw [p4_0] at hw
  refine lv_lstore_n (lv' := [(3, .long v4), (0, .ref a0), (1, .int a1), (2, .int a2)]) hx hb dX8_leastBeside_7 rfl hl (by decide) rfl (fun ls hl => ?_)
  refine lv_iconst (v := 0) hx hb dX8_leastBeside_8 (by decide) ?_
  refine lv_istore (lv' := [(5, .int 0), (3, .long v4), (0, .ref a0), (1, .int a1), (2, .int a2)]) hx hb dX8_leastBeside_9 hl (by decide) rfl (fun ls hl => ?_)
  have J_11 : ∀ n11 : Nat, ∀ (j11_5 : Int32) (ij11_5 : Iv j11_5 0 64), ∀ (H : Heap) (locs : List Loc), oI A L τ cy D s.heap σ H locs → (64 - j11_5.toInt).toNat < n11 → ∀ (ls : Array Slot), lv_has ls 6 [(0, .ref a0), (1, .int a1), (2, .int a2), (3, .long v4), (5, .int j11_5)] → W p l e ({ frames := 1, cells := 0, slots := 0, locals := 22 } : Room) s m args below meth c H locs 0 0 Q (F0 m 11 ls []) := by
    intro n11
    induction n11 with
    | zero => intro j11_5 ij11_5 H locs hw  hn_11   ls hl; exact absurd hn_11 (Nat.not_lt_zero _)
    | succ n11 ih_11 =>
      intro j11_5 ij11_5 H locs hw  hn_11   ls hl
      refine lv_iload hx hb dX8_leastBeside_11 (lv_at hl 4 rfl) ?_
      refine lv_bipush (v := 64) hx hb dX8_leastBeside_13 (by decide) ?_
      refine lv_icmp_ge (tgt := 47) hx hb dX8_leastBeside_15 (by decide) (fun c5 => ?_) (fun c5 => ?_)
      · --
        have i6 : Iv j11_5 64 64 := iv_le2 c5 (⟨by decide, by decide⟩ : Iv 64 64 64) ij11_5 (by decide)
        refine lv_iload_n hx hb dX8_leastBeside_47 rfl (lv_at hl 1 rfl) ?_
        rw [← hQ]
        exact o_ri cx rx hw dX8_leastBeside_48 rfl
      · --
        have i7 : Iv j11_5 0 63 := iv_lt1 (iv_nle c5) ij11_5 (⟨by decide, by decide⟩ : Iv 64 64 64) (by decide)
        refine lv_lload_n hx hb dX8_leastBeside_18 rfl (lv_at hl 3 rfl) ?_
        refine lv_iload hx hb dX8_leastBeside_19 (lv_at hl 4 rfl) ?_
        refine o_ci hw (oRunS cx hA hw q_X0_has k_m_X8_28 (As := [.long v4, .int j11_5]) (c_X0_has v4 j11_5) (by decide) rfl hl.1 rfl (Nat.le_of_ble_eq_true rfl) dX8_leastBeside_21 (by decide)) (fun v9 σ8 H locs hp hw => ?_)
        obtain ⟨p9_0, p9_1, p9_2, p9_3⟩ := hp
        rw [p9_0] at hw
        have J_41 : ∀ (H : Heap) (locs : List Loc), oI A L τ cy D s.heap σ H locs → ∀ (ls : Array Slot), lv_has ls 6 [(0, .ref a0), (1, .int a1), (2, .int a2), (3, .long v4), (5, .int j11_5)] → W p l e ({ frames := 1, cells := 0, slots := 0, locals := 22 } : Room) s m args below meth c H locs 0 0 Q (F0 m 41 ls []) := by
          intro  H locs hw     ls hl
          obtain ⟨v10, e10⟩ : ∃ y : Int32, y = j11_5 + 1 := ⟨_, rfl⟩
          have i10 : Iv v10 1 64 := iv_add e10 i7 (⟨by decide, by decide⟩ : Iv 1 1 1) (by decide)
          have x10 : v10.toInt = j11_5.toInt + 1 := ex_add e10 i7 (⟨by decide, by decide⟩ : Iv 1 1 1) (by decide)
          refine lv_iinc (v := v10) (lv' := [(5, .int v10), (0, .ref a0), (1, .int a1), (2, .int a2), (3, .long v4)]) hx hb dX8_leastBeside_41 hl (k := 4) rfl (by rw [e10]; rfl) (by decide) rfl (fun ls hl => ?_)
          refine lv_goto (tgt := 11) hx hb dX8_leastBeside_44 (by decide) ?_
          exact ih_11 v10 (iv_w i10 (by decide)) _ _ hw (ms_up x10 (by decide) (iv_w (a' := 0) (b' := 64) i10 (by decide)).2 hn_11) _ (lv_sub hl [1, 2, 3, 4, 0] rfl)
        refine lv_if_eq (tgt := 41) hx hb dX8_leastBeside_24 (by decide) (fun c11 => ?_) (fun c11 => ?_)
        · --
          have i12 : Iv v9 0 0 := iv_eq1 c11 p9_1 (⟨by decide, by decide⟩ : Iv 0 0 0) (by decide)
          exact J_41 _ _ hw _ (lv_sub hl [0, 1, 2, 3, 4] rfl)
        · --
          have i13 : Iv v9 1 1 := iv_ne1 c11 p9_1 (⟨by decide, by decide⟩ : Iv 0 0 0) (by decide)
          have i14 : Iv j11_5 0 63 := p9_2 c11
          refine lv_aload_n hx hb dX8_leastBeside_27 rfl (lv_at hl 0 rfl) ?_
          refine g_448 cx hw ha0 k_f_X8_9 dX8_leastBeside_28 (fun v15 e15 h15 => ?_)
          refine lv_iload hx hb dX8_leastBeside_31 (lv_at hl 4 rfl) ?_
          refine o_iald cx hw h15 (by decide) rfl (iv_in i14 (by decide)) dX8_leastBeside_33 (fun v16 e16 b16 => ?_)
          refine lv_iload_n hx hb dX8_leastBeside_34 rfl (lv_at hl 2 rfl) ?_
          refine lv_icmp_ne (tgt := 41) hx hb dX8_leastBeside_35 (by decide) (fun c17 => ?_) (fun c17 => ?_)
          · --
            exact J_41 _ _ hw _ (lv_sub hl [0, 1, 2, 3, 4] rfl)
          · --
            refine lv_iload hx hb dX8_leastBeside_38 (lv_at hl 4 rfl) ?_
            rw [← hQ]
            exact o_ri cx rx hw dX8_leastBeside_40 rfl
  exact J_11 _ 0 (iv_w (⟨by decide, by decide⟩ : Iv 0 0 0) (by decide)) _ _ hw (Nat.lt_succ_self _) _ (lv_sub hl [2, 3, 4, 1, 0] rfl)
set_option maxHeartbeats 4000000 in
set_option maxRecDepth 100000 in
theorem c_X6_troddenLastBy (a0 : Nat) (ha0 : oA L τ a0 5) (a1 : Int32) : oMet l A L τ cy D K yX6_troddenLastBy cX6_troddenLastBy 5 (some .long) 1 20 [.ref a0, .int a1] σ (va_Ql (fun r σ1 => σ1 = σ) (oPo A L τ cy D) A) := by
  refine oMk (by decide) (Nat.le_of_ble_eq_true rfl) rfl ?_
  intro p e s m args below meth c ls cx rx hA hw hl
  generalize hQ : MQ below _ args s 0 0 A = Q
  have hx := cx.1.1
  have hb := cx.1.2.1
  have hml := cx.1.2.2.1
  have hown := cx.1.2.2.2.1
  have hts := cx.1.2.2.2.2
  have hl : lv_has ls 5 [(0, .ref a0), (1, .int a1)] := hl
  refine lv_lconst (v := 0) hx hb dX6_troddenLastBy_0 (by decide) ?_
  refine lv_lstore_n (lv' := [(2, .long 0), (0, .ref a0), (1, .int a1)]) hx hb dX6_troddenLastBy_1 rfl hl (by decide) rfl (fun ls hl => ?_)
  refine lv_iconst (v := 0) hx hb dX6_troddenLastBy_2 (by decide) ?_
  refine lv_istore (lv' := [(4, .int 0), (2, .long 0), (0, .ref a0), (1, .int a1)]) hx hb dX6_troddenLastBy_3 hl (by decide) rfl (fun ls hl => ?_)
  have J_5 : ∀ n5 : Nat, ∀ (j5_2 : Int64) (j5_4 : Int32) (ij5_4 : Iv j5_4 0 64), ∀ (H : Heap) (locs : List Loc), oI A L τ cy D s.heap σ H locs → (64 - j5_4.toInt).toNat < n5 → ∀ (ls : Array Slot), lv_has ls 5 [(0, .ref a0), (1, .int a1), (2, .long j5_2), (4, .int j5_4)] → W p l e ({ frames := 1, cells := 0, slots := 0, locals := 20 } : Room) s m args below meth c H locs 0 0 Q (F0 m 5 ls []) := by
    intro n5
    induction n5 with
    | zero => intro j5_2 j5_4 ij5_4 H locs hw  hn_5   ls hl; exact absurd hn_5 (Nat.not_lt_zero _)
    | succ n5 ih_5 =>
      intro j5_2 j5_4 ij5_4 H locs hw  hn_5   ls hl
      refine lv_iload hx hb dX6_troddenLastBy_5 (lv_at hl 3 rfl) ?_
      refine lv_bipush (v := 64) hx hb dX6_troddenLastBy_7 (by decide) ?_
      refine lv_icmp_ge (tgt := 37) hx hb dX6_troddenLastBy_9 (by decide) (fun c1 => ?_) (fun c1 => ?_)
      · --
        have i2 : Iv j5_4 64 64 := iv_le2 c1 (⟨by decide, by decide⟩ : Iv 64 64 64) ij5_4 (by decide)
        refine lv_lload_n hx hb dX6_troddenLastBy_37 rfl (lv_at hl 2 rfl) ?_
        rw [← hQ]
        exact o_rl cx rx hw dX6_troddenLastBy_38 rfl
      · --
        have i3 : Iv j5_4 0 63 := iv_lt1 (iv_nle c1) ij5_4 (⟨by decide, by decide⟩ : Iv 64 64 64) (by decide)
        refine lv_aload_n hx hb dX6_troddenLastBy_12 rfl (lv_at hl 0 rfl) ?_
        refine g_324 cx hw ha0 k_f_X6_24 dX6_troddenLastBy_13 (fun v4 e4 h4 => ?_)
        refine lv_iload hx hb dX6_troddenLastBy_16 (lv_at hl 3 rfl) ?_
        refine o_iald cx hw h4 (by decide) rfl (iv_in i3 (by decide)) dX6_troddenLastBy_18 (fun v5 e5 b5 => ?_)
        refine lv_iload_n hx hb dX6_troddenLastBy_19 rfl (lv_at hl 1 rfl) ?_
        have J_31 : ∀ (j31_2 : Int64), ∀ (H : Heap) (locs : List Loc), oI A L τ cy D s.heap σ H locs → ∀ (ls : Array Slot), lv_has ls 5 [(0, .ref a0), (1, .int a1), (2, .long j31_2), (4, .int j5_4)] → W p l e ({ frames := 1, cells := 0, slots := 0, locals := 20 } : Room) s m args below meth c H locs 0 0 Q (F0 m 31 ls []) := by
          intro j31_2 H locs hw     ls hl
          obtain ⟨v6, e6⟩ : ∃ y : Int32, y = j5_4 + 1 := ⟨_, rfl⟩
          have i6 : Iv v6 1 64 := iv_add e6 i3 (⟨by decide, by decide⟩ : Iv 1 1 1) (by decide)
          have x6 : v6.toInt = j5_4.toInt + 1 := ex_add e6 i3 (⟨by decide, by decide⟩ : Iv 1 1 1) (by decide)
          refine lv_iinc (v := v6) (lv' := [(4, .int v6), (0, .ref a0), (1, .int a1), (2, .long j31_2)]) hx hb dX6_troddenLastBy_31 hl (k := 3) rfl (by rw [e6]; rfl) (by decide) rfl (fun ls hl => ?_)
          refine lv_goto (tgt := 5) hx hb dX6_troddenLastBy_34 (by decide) ?_
          exact ih_5 j31_2 v6 (iv_w i6 (by decide)) _ _ hw (ms_up x6 (by decide) (iv_w (a' := 0) (b' := 64) i6 (by decide)).2 hn_5) _ (lv_sub hl [1, 2, 3, 0] rfl)
        refine lv_icmp_ne (tgt := 31) hx hb dX6_troddenLastBy_20 (by decide) (fun c7 => ?_) (fun c7 => ?_)
        · --
          exact J_31 j5_2 _ _ hw _ (lv_sub hl [0, 1, 2, 3] rfl)
        · --
          refine lv_lload_n hx hb dX6_troddenLastBy_23 rfl (lv_at hl 2 rfl) ?_
          refine lv_iload hx hb dX6_troddenLastBy_24 (lv_at hl 3 rfl) ?_
          refine o_cl hw (oRunS cx hA hw q_X0_bit k_m_X6_69 (As := [.int j5_4]) (c_X0_bit j5_4) (by decide) rfl hl.1 rfl (Nat.le_of_ble_eq_true rfl) dX6_troddenLastBy_26 (by decide)) (fun v9 σ8 H locs hp hw => ?_)
          obtain ⟨p9_0, p9_1⟩ := hp
          rw [p9_0] at hw
          refine lv_lor hx hb dX6_troddenLastBy_29 ?_
          refine lv_topl (fun v10 e10 => ?_)
          refine lv_lstore_n (lv' := [(2, .long v10), (0, .ref a0), (1, .int a1), (4, .int j5_4)]) hx hb dX6_troddenLastBy_30 rfl hl (by decide) rfl (fun ls hl => ?_)
          exact J_31 v10 _ _ hw _ (lv_sub hl [1, 2, 0, 3] rfl)
  exact J_5 _ 0 0 (iv_w (⟨by decide, by decide⟩ : Iv 0 0 0) (by decide)) _ _ hw (Nat.lt_succ_self _) _ (lv_sub hl [2, 3, 1, 0] rfl)
set_option maxHeartbeats 4000000 in
set_option maxRecDepth 100000 in
theorem c_X6_sizeOfMeeting (a0 : Nat) (ha0 : oA L τ a0 5) (a1 : Int32) : oMet l A L τ cy D K yX6_sizeOfMeeting cX6_sizeOfMeeting 4 (some .int) 2 49 [.ref a0, .int a1] σ (va_Qi (fun r σ1 => σ1 = σ ∧ Iv r 0 127) (oPo A L τ cy D) A) := by
  refine oMk (by decide) (Nat.le_of_ble_eq_true rfl) rfl ?_
  intro p e s m args below meth c ls cx rx hA hw hl
  generalize hQ : MQ below _ args s 0 0 A = Q
  have hx := cx.1.1
  have hb := cx.1.2.1
  have hml := cx.1.2.2.1
  have hown := cx.1.2.2.2.1
  have hts := cx.1.2.2.2.2
  have hl : lv_has ls 4 [(0, .ref a0), (1, .int a1)] := hl
  refine lv_aload_n hx hb dX6_sizeOfMeeting_0 rfl (lv_at hl 0 rfl) ?_
  refine g_327 cx hw ha0 k_f_X6_39 dX6_sizeOfMeeting_1 (fun v1 e1 i1 => ?_)
  refine lv_if_ne (tgt := 9) hx hb dX6_sizeOfMeeting_4 (by decide) (fun c2 => ?_) (fun c2 => ?_)
  · --
    have i3 : Iv v1 1 6 := iv_ne1 c2 i1 (⟨by decide, by decide⟩ : Iv 0 0 0) (by decide)
    refine lv_aload_n hx hb dX6_sizeOfMeeting_9 rfl (lv_at hl 0 rfl) ?_
    refine lv_iload_n hx hb dX6_sizeOfMeeting_10 rfl (lv_at hl 1 rfl) ?_
    refine o_cl hw (oRunV cx hA hw q_X6_roadCells k_m_X6_83 rfl ha0 (by decide) (As := [.int a1]) (c_X6_roadCells a0 ha0 a1) (by decide) rfl hl.1 rfl (Nat.le_of_ble_eq_true rfl) dX6_sizeOfMeeting_11 (by decide)) (fun v5 σ4 H locs hp hw => ?_)
    have p5_0 := hp
    rw [p5_0] at hw
    refine lv_aload_n hx hb dX6_sizeOfMeeting_14 rfl (lv_at hl 0 rfl) ?_
    refine g_325 cx hw ha0 k_f_X6_27 dX6_sizeOfMeeting_15 (fun v6 e6 h6 => ?_)
    refine lv_iconst (v := 0) hx hb dX6_sizeOfMeeting_18 (by decide) ?_
    refine o_iald cx hw h6 (by decide) rfl (iv_in (⟨by decide, by decide⟩ : Iv 0 0 0) (by decide)) dX6_sizeOfMeeting_19 (fun v7 e7 b7 => ?_)
    have i7 : Iv v7 0 63 := b7
    refine o_cl hw (oRunS cx hA hw q_X0_pieceOf k_m_X6_86 (As := [.long v5, .int v7]) (c_X0_pieceOf v5 v7) (by decide) rfl hl.1 rfl (Nat.le_of_ble_eq_true rfl) dX6_sizeOfMeeting_20 (by decide)) (fun v9 σ8 H locs hp hw => ?_)
    have p9_0 := hp
    rw [p9_0] at hw
    refine lv_lstore_n (lv' := [(2, .long v9), (0, .ref a0), (1, .int a1)]) hx hb dX6_sizeOfMeeting_23 rfl hl (by decide) rfl (fun ls hl => ?_)
    refine lv_aload_n hx hb dX6_sizeOfMeeting_24 rfl (lv_at hl 1 rfl) ?_
    refine o_cl hw (oRunV cx hA hw q_X6_herdCells k_m_X6_90 rfl ha0 (by decide) (As := []) (c_X6_herdCells a0 ha0) (by decide) rfl hl.1 rfl (Nat.le_of_ble_eq_true rfl) dX6_sizeOfMeeting_25 (by decide)) (fun v11 σ10 H locs hp hw => ?_)
    have p11_0 := hp
    rw [p11_0] at hw
    refine lv_lload_n hx hb dX6_sizeOfMeeting_28 rfl (lv_at hl 0 rfl) ?_
    refine lv_ldc2 (v := (-1)) hx hb hown (hts _ k_k_X6_94) dX6_sizeOfMeeting_29 ?_
    refine lv_lxor hx hb dX6_sizeOfMeeting_32 ?_
    refine lv_topl (fun v12 e12 => ?_)
    refine lv_land hx hb dX6_sizeOfMeeting_33 ?_
    refine lv_topl (fun v13 e13 => ?_)
    refine lv_lconst (v := 0) hx hb dX6_sizeOfMeeting_34 (by decide) ?_
    refine W.lcmp hx hb dX6_sizeOfMeeting_35 ?_
    refine lv_topi (fun v14 e14 => ?_)
    have i14 : Iv v14 (-1) 1 := iv_lcmp e14
    refine lv_if_ne (tgt := 46) hx hb dX6_sizeOfMeeting_36 (by decide) (fun c15 => ?_) (fun c15 => ?_)
    · --
      refine lv_iconst (v := 0) hx hb dX6_sizeOfMeeting_46 (by decide) ?_
      rw [← hQ]
      exact o_ri cx rx hw dX6_sizeOfMeeting_47 ⟨rfl, (iv_w (⟨by decide, by decide⟩ : Iv 0 0 0) (by decide))⟩
    · --
      have i16 : Iv v14 0 0 := iv_eq1 c15 i14 (⟨by decide, by decide⟩ : Iv 0 0 0) (by decide)
      refine lv_lload_n hx hb dX6_sizeOfMeeting_39 rfl (lv_at hl 0 rfl) ?_
      refine o_ci hw (oRunS cx hA hw q_J13_bitCount_95d88 k_m_X6_96 (As := [.long v9]) (c_J13_bitCount_95d88 v9) (by decide) rfl hl.1 rfl (Nat.le_of_ble_eq_true rfl) dX6_sizeOfMeeting_40 (by decide)) (fun v18 σ17 H locs hp hw => ?_)
      obtain ⟨p18_0, p18_1⟩ := hp
      rw [p18_0] at hw
      refine lv_goto (tgt := 47) hx hb dX6_sizeOfMeeting_43 (by decide) ?_
      rw [← hQ]
      exact o_ri cx rx hw dX6_sizeOfMeeting_47 ⟨rfl, (iv_w p18_1 (by decide))⟩
  · --
    have i19 : Iv v1 0 0 := iv_eq1 c2 i1 (⟨by decide, by decide⟩ : Iv 0 0 0) (by decide)
    refine lv_iconst (v := 0) hx hb dX6_sizeOfMeeting_7 (by decide) ?_
    rw [← hQ]
    exact o_ri cx rx hw dX6_sizeOfMeeting_8 ⟨rfl, (iv_w (⟨by decide, by decide⟩ : Iv 0 0 0) (by decide))⟩
abbrev fs_X9_forgetWeighed : List Nat := [517]
abbrev ts_X9_forgetWeighed : List Nat := []
set_option maxHeartbeats 4000000 in
set_option maxRecDepth 100000 in
theorem c_X9_forgetWeighed (a0 : Nat) (ha0 : oA L τ a0 8) : oMet l A L τ cy D K yX9_forgetWeighed cX9_forgetWeighed 1 none 0 0 [.ref a0] σ (va_Qv (fun σ1 => oFr τ fs_X9_forgetWeighed ts_X9_forgetWeighed σ σ1) (oPo A L τ cy D) A) := by
  refine oMk (by decide) (Nat.le_of_ble_eq_true rfl) rfl ?_
  intro p e s m args below meth c ls cx rx hA hw hl
  generalize hQ : MQ below _ args s 0 0 A = Q
  have hx := cx.1.1
  have hb := cx.1.2.1
  have hml := cx.1.2.2.1
  have hown := cx.1.2.2.2.1
  have hts := cx.1.2.2.2.2
  have hl : lv_has ls 1 [(0, .ref a0)] := hl
  have fr : oFr τ fs_X9_forgetWeighed ts_X9_forgetWeighed σ σ := oFr_rf
  refine lv_aload_n hx hb dX9_forgetWeighed_0 rfl (lv_at hl 0 rfl) ?_
  refine lv_lconst (v := 0) hx hb dX9_forgetWeighed_1 (by decide) ?_
  refine p_517 cx hw ha0 k_f_X9_32 dX9_forgetWeighed_2 (fun σ1 H locs eσ1 hw => ?_)
  have fr := oFr_l fr eσ1 (by decide)
  rw [← hQ]
  exact o_rv cx rx hw dX9_forgetWeighed_5 fr
abbrev fs_X1_begin : List Nat := [327, 328, 329, 330, 331, 517]
abbrev ts_X1_begin : List Nat := [32, 33, 34]
set_option maxHeartbeats 4000000 in
set_option maxRecDepth 100000 in
theorem c_X1_begin (a0 : Nat) (ha0 : oA L τ a0 0) : oMet l A L τ cy D K yX1_begin cX1_begin 1 (some (.object "RoadsByCows$State")) 2 81 [.ref a0] σ (va_Qr (fun u : oSt × Nat => oFr τ fs_X1_begin ts_X1_begin σ u.1 ∧ oA L τ u.2 5 ∧ (∀ b, σ.2.2.2.2 0 a0 = some b → ∀ a, u.1.1 327 a = σ.1 327 a ∨ u.1.1 327 a = σ.1 327 b)) (fun u ra t => oPo A L τ cy D u.1 t ∧ ra = u.2) A) := by
  refine oMk (by decide) (Nat.le_of_ble_eq_true rfl) rfl ?_
  intro p e s m args below meth c ls cx rx hA hw hl
  generalize hQ : MQ below _ args s 0 0 A = Q
  have hx := cx.1.1
  have hb := cx.1.2.1
  have hml := cx.1.2.2.1
  have hown := cx.1.2.2.2.1
  have hts := cx.1.2.2.2.2
  have hl : lv_has ls 1 [(0, .ref a0)] := hl
  have fr : oFr τ fs_X1_begin ts_X1_begin σ σ := oFr_rf
  obtain ⟨b0, hF0, hb0⟩ := hw.2.2.2.2.2 0 a0 5 (by rw [ha0.2]; rfl) ha0.1
  refine lv_aload_n hx hb dX1_begin_0 rfl (lv_at hl 0 rfl) ?_
  refine g_3 cx hw ha0 k_f_X1_12 dX1_begin_1 (fun v1 e1 h1 => ?_)
  refine lv_aload_n hx hb dX1_begin_4 rfl (lv_at hl 0 rfl) ?_
  refine g_0 cx hw ha0 k_f_X1_26 dX1_begin_5 (fun v2 e2 h2 => ?_)
  rw [show v2 = b0 from Option.some.inj (e2.symm.trans (hF0))]
  have i3 : Iv (σ.1 327 v1) 0 6 := o_fb (j := 327) hw h1 rfl
  have i4 : Iv (σ.1 327 b0) 0 6 := o_fb (j := 327) hw hb0 rfl
  refine o_cv hw (oRunV cx hA hw q_X6_copyFrom k_m_X1_37 rfl h1 (by decide) (As := [.ref b0]) (c_X6_copyFrom v1 h1 b0 hb0) (by decide) rfl hl.1 rfl (Nat.le_of_ble_eq_true rfl) dX1_begin_8 (by decide)) (fun σ5 H locs hp hw => ?_)
  obtain ⟨p6_0, p6_1⟩ := hp
  have fr := oFr_tr fr p6_0 (by decide)
  have i7 : Iv (σ5.1 327 v1) 0 6 := o_fb (j := 327) hw h1 rfl
  have i8 : Iv (σ5.1 327 b0) 0 6 := o_fb (j := 327) hw hb0 rfl
  have wuu9 : ∀ a, σ.1 327 a = σ.1 327 a ∨ σ.1 327 a = σ.1 327 b0 := (fun a => Or.inl (rfl))
  have uu9 : ∀ a, σ5.1 327 a = σ.1 327 a ∨ σ5.1 327 a = σ.1 327 b0 := u_tr wuu9 (u_cp p6_1) (u_self wuu9)
  refine lv_aload_n hx hb dX1_begin_11 rfl (lv_at hl 0 rfl) ?_
  refine g_2 cx hw ha0 k_f_X1_33 dX1_begin_12 (fun v10 e10 h10 => ?_)
  refine o_cv hw (oRunV cx hA hw q_X9_forgetWeighed k_m_X1_41 rfl h10 (by decide) (As := []) (c_X9_forgetWeighed v10 h10) (by decide) rfl hl.1 rfl (Nat.le_of_ble_eq_true rfl) dX1_begin_15 (by decide)) (fun σ11 H locs hp hw => ?_)
  have p12_0 := hp
  have fr := oFr_tr fr p12_0 (by decide)
  refine lv_aload_n hx hb dX1_begin_18 rfl (lv_at hl 0 rfl) ?_
  refine g_3 cx hw ha0 k_f_X1_12 dX1_begin_19 (fun v13 e13 h13 => ?_)
  rw [show v13 = v1 from Option.some.inj (e13.symm.trans (((kr_c p12_0 (by decide)).trans ((kr_c p6_0 (by decide)).trans e1))))]
  rw [← hQ]
  exact o_ra cx rx hw dX1_begin_22 ⟨fr, h1, (by intro b hb9; rw [show b = b0 from Option.some.inj (hb9.symm.trans hF0)]; exact (u_mv uu9 (fun a => ((kp_c p12_0 (by decide)).trans rfl))))⟩
abbrev fs_X1_lookOn : List Nat := [327, 328, 329, 330, 331, 517]
abbrev ts_X1_lookOn : List Nat := [32, 33, 34, 37, 38]
set_option maxHeartbeats 4000000 in
set_option maxRecDepth 100000 in
theorem c_X1_lookOn (a0 : Nat) (ha0 : oA L τ a0 0) (a1 : Int32) : oMet l A L τ cy D K yX1_lookOn cX1_lookOn 2 (some (.object "RoadsByCows$State")) 5 130 [.ref a0, .int a1] σ (va_Qr (fun u : oSt × Nat => oFr τ fs_X1_lookOn ts_X1_lookOn σ u.1 ∧ oA L τ u.2 5 ∧ (∀ b, σ.2.2.2.2 0 a0 = some b → ∀ a, u.1.1 327 a = σ.1 327 a ∨ u.1.1 327 a = σ.1 327 b)) (fun u ra t => oPo A L τ cy D u.1 t ∧ ra = u.2) A) := by
  refine oMk (by decide) (Nat.le_of_ble_eq_true rfl) rfl ?_
  intro p e s m args below meth c ls cx rx hA hw hl
  generalize hQ : MQ below _ args s 0 0 A = Q
  have hx := cx.1.1
  have hb := cx.1.2.1
  have hml := cx.1.2.2.1
  have hown := cx.1.2.2.2.1
  have hts := cx.1.2.2.2.2
  have hl : lv_has ls 2 [(0, .ref a0), (1, .int a1)] := hl
  have fr : oFr τ fs_X1_lookOn ts_X1_lookOn σ σ := oFr_rf
  obtain ⟨b0, hF0, hb0⟩ := hw.2.2.2.2.2 0 a0 5 (by rw [ha0.2]; rfl) ha0.1
  refine lv_aload_n hx hb dX1_lookOn_0 rfl (lv_at hl 0 rfl) ?_
  refine o_cr hw (oRunV cx hA hw q_X1_begin k_m_X1_46 rfl ha0 (by decide) (As := []) (c_X1_begin a0 ha0) (by decide) rfl hl.1 rfl (Nat.le_of_ble_eq_true rfl) dX1_lookOn_1 (by decide)) (fun v2 σ1 H locs hp hw => ?_)
  obtain ⟨p2_0, p2_1, p2_2⟩ := hp
  have fr := oFr_tr fr p2_0 (by decide)
  have wuu3 : ∀ a, σ.1 327 a = σ.1 327 a ∨ σ.1 327 a = σ.1 327 b0 := (fun a => Or.inl (rfl))
  have uu3 : ∀ a, σ1.1 327 a = σ.1 327 a ∨ σ1.1 327 a = σ.1 327 b0 := u_tr wuu3 (p2_2 b0 (hF0)) (u_self wuu3)
  refine lv_pop hx hb dX1_lookOn_4 rfl ?_
  refine lv_aload_n hx hb dX1_lookOn_5 rfl (lv_at hl 0 rfl) ?_
  refine g_2 cx hw ha0 k_f_X1_33 dX1_lookOn_6 (fun v4 e4 h4 => ?_)
  refine lv_aload_n hx hb dX1_lookOn_9 rfl (lv_at hl 0 rfl) ?_
  refine g_3 cx hw ha0 k_f_X1_12 dX1_lookOn_10 (fun v5 e5 h5 => ?_)
  refine lv_iload_n hx hb dX1_lookOn_13 rfl (lv_at hl 1 rfl) ?_
  refine o_ci hw (oRunV cx hA hw q_X9_passMany k_m_X1_50 rfl h4 (by decide) (As := [.ref v5, .int a1]) (c_X9_passMany v4 h4 v5 h5 a1) (by decide) rfl hl.1 rfl (Nat.le_of_ble_eq_true rfl) dX1_lookOn_14 (by decide)) (fun v7 σ6 H locs hp hw => ?_)
  have p7_0 := hp
  have fr := oFr_tr fr p7_0 (by decide)
  refine lv_pop hx hb dX1_lookOn_17 rfl ?_
  refine lv_aload_n hx hb dX1_lookOn_18 rfl (lv_at hl 0 rfl) ?_
  refine g_3 cx hw ha0 k_f_X1_12 dX1_lookOn_19 (fun v8 e8 h8 => ?_)
  rw [show v8 = v5 from Option.some.inj (e8.symm.trans (((kr_c p7_0 (by decide)).trans e5)))]
  rw [← hQ]
  exact o_ra cx rx hw dX1_lookOn_22 ⟨fr, h5, (by intro b hb9; rw [show b = b0 from Option.some.inj (hb9.symm.trans hF0)]; exact (u_mv uu3 (fun a => ((kp_c p7_0 (by decide)).trans rfl))))⟩
abbrev fs_X1_hourOfComing : List Nat := [329, 331, 517]
abbrev ts_X1_hourOfComing : List Nat := [32, 33, 37, 38]
set_option maxHeartbeats 4000000 in
set_option maxRecDepth 100000 in
theorem c_X1_hourOfComing (a0 : Nat) (ha0 : oA L τ a0 0) (a1 : Int32) (a2 : Int32) (ia2 : Iv a2 1 100) : oMet l A L τ cy D K yX1_hourOfComing cX1_hourOfComing 4 (some .int) 4 106 [.ref a0, .int a1, .int a2] σ (va_Qi (fun r σ1 => oFr τ fs_X1_hourOfComing ts_X1_hourOfComing σ σ1 ∧ Iv r (-1) 100) (oPo A L τ cy D) A) := by
  refine oMk (by decide) (Nat.le_of_ble_eq_true rfl) rfl ?_
  intro p e s m args below meth c ls cx rx hA hw hl
  generalize hQ : MQ below _ args s 0 0 A = Q
  have hx := cx.1.1
  have hb := cx.1.2.1
  have hml := cx.1.2.2.1
  have hown := cx.1.2.2.2.1
  have hts := cx.1.2.2.2.2
  have hl : lv_has ls 4 [(0, .ref a0), (1, .int a1), (2, .int a2)] := hl
  have fr : oFr τ fs_X1_hourOfComing ts_X1_hourOfComing σ σ := oFr_rf
  refine lv_iconst (v := 1) hx hb dX1_hourOfComing_0 (by decide) ?_
  refine lv_istore_n (lv' := [(3, .int 1), (0, .ref a0), (1, .int a1), (2, .int a2)]) hx hb dX1_hourOfComing_1 rfl hl (by decide) rfl (fun ls hl => ?_)
  have frE_2 := fr
  have J_2 : ∀ n2 : Nat, ∀ (j2_3 : Int32) (ij2_3 : Iv j2_3 1 2147483647), ∀ (σ_2 : oSt) (H : Heap) (locs : List Loc), oI A L τ cy D s.heap σ_2 H locs → oFr τ fs_X1_hourOfComing ts_X1_hourOfComing σ σ_2 → (2147483647 - j2_3.toInt).toNat < n2 → ∀ (ls : Array Slot), lv_has ls 4 [(0, .ref a0), (1, .int a1), (2, .int a2), (3, .int j2_3)] → W p l e ({ frames := 4, cells := 0, slots := 0, locals := 106 } : Room) s m args below meth c H locs 0 0 Q (F0 m 2 ls []) := by
    intro n2
    induction n2 with
    | zero => intro j2_3 ij2_3 σ_2 H locs hw fr   hn_2   ls hl; exact absurd hn_2 (Nat.not_lt_zero _)
    | succ n2 ih_2 =>
      intro j2_3 ij2_3 σ_2 H locs hw fr   hn_2   ls hl
      have fr_2 := fr
      refine lv_iload_n hx hb dX1_hourOfComing_2 rfl (lv_at hl 3 rfl) ?_
      refine lv_iload_n hx hb dX1_hourOfComing_3 rfl (lv_at hl 2 rfl) ?_
      refine lv_icmp_gt (tgt := 38) hx hb dX1_hourOfComing_4 (by decide) (fun c1 => ?_) (fun c1 => ?_)
      · --
        have i2 : Iv j2_3 2 2147483647 := iv_lt2 c1 ia2 ij2_3 (by decide)
        refine lv_iconst (v := (-1)) hx hb dX1_hourOfComing_38 (by decide) ?_
        rw [← hQ]
        exact o_ri cx rx hw dX1_hourOfComing_39 ⟨fr, (iv_w (⟨by decide, by decide⟩ : Iv (-1) (-1) (-1)) (by decide))⟩
      · --
        have i3 : Iv j2_3 1 100 := iv_le1 (iv_nlt c1) ij2_3 ia2 (by decide)
        refine lv_aload_n hx hb dX1_hourOfComing_7 rfl (lv_at hl 0 rfl) ?_
        refine g_2 cx hw ha0 k_f_X1_33 dX1_hourOfComing_8 (fun v4 e4 h4 => ?_)
        refine lv_aload_n hx hb dX1_hourOfComing_11 rfl (lv_at hl 0 rfl) ?_
        refine g_3 cx hw ha0 k_f_X1_12 dX1_hourOfComing_12 (fun v5 e5 h5 => ?_)
        refine o_ci hw (oRunV cx hA hw q_X9_pass k_m_X1_54 rfl h4 (by decide) (As := [.ref v5]) (c_X9_pass v4 h4 v5 h5) (by decide) rfl hl.1 rfl (Nat.le_of_ble_eq_true rfl) dX1_hourOfComing_15 (by decide)) (fun v7 σ6 H locs hp hw => ?_)
        have p7_0 := hp
        have fr := oFr_tr fr p7_0 (by decide)
        refine lv_pop hx hb dX1_hourOfComing_18 rfl ?_
        refine lv_aload_n hx hb dX1_hourOfComing_19 rfl (lv_at hl 0 rfl) ?_
        refine g_3 cx hw ha0 k_f_X1_12 dX1_hourOfComing_20 (fun v8 e8 h8 => ?_)
        rw [show v8 = v5 from Option.some.inj (e8.symm.trans (((kr_c p7_0 (by decide)).trans e5)))]
        refine lv_iload_n hx hb dX1_hourOfComing_23 rfl (lv_at hl 1 rfl) ?_
        refine o_ci hw (oRunV cx hA hw q_X6_herdsAt k_m_X1_58 rfl h5 (by decide) (As := [.int a1]) (c_X6_herdsAt v5 h5 a1) (by decide) rfl hl.1 rfl (Nat.le_of_ble_eq_true rfl) dX1_hourOfComing_24 (by decide)) (fun v10 σ9 H locs hp hw => ?_)
        obtain ⟨p10_0, p10_1⟩ := hp
        rw [p10_0] at hw
        refine lv_if_eq (tgt := 32) hx hb dX1_hourOfComing_27 (by decide) (fun c11 => ?_) (fun c11 => ?_)
        · --
          have i12 : Iv v10 0 0 := iv_eq1 c11 p10_1 (⟨by decide, by decide⟩ : Iv 0 0 0) (by decide)
          obtain ⟨v13, e13⟩ : ∃ y : Int32, y = j2_3 + 1 := ⟨_, rfl⟩
          have i13 : Iv v13 2 101 := iv_add e13 i3 (⟨by decide, by decide⟩ : Iv 1 1 1) (by decide)
          have x13 : v13.toInt = j2_3.toInt + 1 := ex_add e13 i3 (⟨by decide, by decide⟩ : Iv 1 1 1) (by decide)
          refine lv_iinc (v := v13) (lv' := [(3, .int v13), (0, .ref a0), (1, .int a1), (2, .int a2)]) hx hb dX1_hourOfComing_32 hl (k := 3) rfl (by rw [e13]; rfl) (by decide) rfl (fun ls hl => ?_)
          refine lv_goto (tgt := 2) hx hb dX1_hourOfComing_35 (by decide) ?_
          exact ih_2 v13 (iv_w i13 (by decide)) σ6 _ _ hw fr (ms_up x13 (by decide) (iv_w (a' := 1) (b' := 2147483647) i13 (by decide)).2 hn_2) _ (lv_sub hl [1, 2, 3, 0] rfl)
        · --
          have i14 : Iv v10 1 63 := iv_ne1 c11 p10_1 (⟨by decide, by decide⟩ : Iv 0 0 0) (by decide)
          refine lv_iload_n hx hb dX1_hourOfComing_30 rfl (lv_at hl 3 rfl) ?_
          rw [← hQ]
          exact o_ri cx rx hw dX1_hourOfComing_31 ⟨fr, (iv_w i3 (by decide))⟩
  exact J_2 _ 1 (iv_w (⟨by decide, by decide⟩ : Iv 1 1 1) (by decide)) σ _ _ hw fr (Nat.lt_succ_self _) _ (lv_sub hl [1, 2, 3, 0] rfl)
set_option maxHeartbeats 4000000 in
set_option maxRecDepth 100000 in
theorem c_X6_firstHerdAt (a0 : Nat) (ha0 : oA L τ a0 5) (a1 : Int32) : oMet l A L τ cy D K yX6_firstHerdAt cX6_firstHerdAt 2 (some .int) 3 64 [.ref a0, .int a1] σ (va_Qi (fun r σ1 => σ1 = σ ∧ Iv r (-1) 5) (oPo A L τ cy D) A) := by
  refine oMk (by decide) (Nat.le_of_ble_eq_true rfl) rfl ?_
  intro p e s m args below meth c ls cx rx hA hw hl
  generalize hQ : MQ below _ args s 0 0 A = Q
  have hx := cx.1.1
  have hb := cx.1.2.1
  have hml := cx.1.2.2.1
  have hown := cx.1.2.2.2.1
  have hts := cx.1.2.2.2.2
  have hl : lv_has ls 2 [(0, .ref a0), (1, .int a1)] := hl
  refine lv_aload_n hx hb dX6_firstHerdAt_0 rfl (lv_at hl 0 rfl) ?_
  refine lv_iload_n hx hb dX6_firstHerdAt_1 rfl (lv_at hl 1 rfl) ?_
  refine o_ci hw (oRunV cx hA hw q_X6_herdsAt k_m_X6_75 rfl ha0 (by decide) (As := [.int a1]) (c_X6_herdsAt a0 ha0 a1) (by decide) rfl hl.1 rfl (Nat.le_of_ble_eq_true rfl) dX6_firstHerdAt_2 (by decide)) (fun v2 σ1 H locs hp hw => ?_)
  obtain ⟨p2_0, p2_1⟩ := hp
  rw [p2_0] at hw
  refine lv_i2l hx hb dX6_firstHerdAt_5 rfl ?_
  refine lv_topl (fun v3 e3 => ?_)
  refine o_ci hw (oRunS cx hA hw q_X0_firstOf k_m_X6_79 (As := [.long v3]) (c_X0_firstOfS v3 ⟨_, e3, iv_w p2_1 (by decide)⟩) (by decide) rfl hl.1 rfl (Nat.le_of_ble_eq_true rfl) dX6_firstHerdAt_6 (by decide)) (fun v5 σ4 H locs hp hw => ?_)
  obtain ⟨p5_0, p5_1⟩ := hp
  rw [p5_0] at hw
  rw [← hQ]
  exact o_ri cx rx hw dX6_firstHerdAt_9 ⟨rfl, (iv_w p5_1 (by decide))⟩
abbrev fs_X1_hourOfReturn : List Nat := [327, 328, 329, 330, 331, 517]
abbrev ts_X1_hourOfReturn : List Nat := [32, 33, 34, 37, 38]
set_option maxHeartbeats 4000000 in
set_option maxRecDepth 100000 in
theorem c_X1_hourOfReturn (a0 : Nat) (ha0 : oA L τ a0 0) (a1 : Int32) (ia1 : Iv a1 0 5) : oMet l A L τ cy D K yX1_hourOfReturn cX1_hourOfReturn 4 (some .int) 4 106 [.ref a0, .int a1] σ (va_Qi (fun r σ1 => oFr τ fs_X1_hourOfReturn ts_X1_hourOfReturn σ σ1 ∧ Iv r (-1) 100 ∧ (∀ b, σ.2.2.2.2 0 a0 = some b → ∀ a, σ1.1 327 a = σ.1 327 a ∨ σ1.1 327 a = σ.1 327 b)) (oPo A L τ cy D) A) := by
  refine oMk (by decide) (Nat.le_of_ble_eq_true rfl) rfl ?_
  intro p e s m args below meth c ls cx rx hA hw hl
  generalize hQ : MQ below _ args s 0 0 A = Q
  have hx := cx.1.1
  have hb := cx.1.2.1
  have hml := cx.1.2.2.1
  have hown := cx.1.2.2.2.1
  have hts := cx.1.2.2.2.2
  have hl : lv_has ls 4 [(0, .ref a0), (1, .int a1)] := hl
  have fr : oFr τ fs_X1_hourOfReturn ts_X1_hourOfReturn σ σ := oFr_rf
  obtain ⟨b0, hF0, hb0⟩ := hw.2.2.2.2.2 0 a0 5 (by rw [ha0.2]; rfl) ha0.1
  refine lv_aload_n hx hb dX1_hourOfReturn_0 rfl (lv_at hl 0 rfl) ?_
  refine o_cr hw (oRunV cx hA hw q_X1_begin k_m_X1_46 rfl ha0 (by decide) (As := []) (c_X1_begin a0 ha0) (by decide) rfl hl.1 rfl (Nat.le_of_ble_eq_true rfl) dX1_hourOfReturn_1 (by decide)) (fun v2 σ1 H locs hp hw => ?_)
  obtain ⟨p2_0, p2_1, p2_2⟩ := hp
  have fr := oFr_tr fr p2_0 (by decide)
  have wuu3 : ∀ a, σ.1 327 a = σ.1 327 a ∨ σ.1 327 a = σ.1 327 b0 := (fun a => Or.inl (rfl))
  have uu3 : ∀ a, σ1.1 327 a = σ.1 327 a ∨ σ1.1 327 a = σ.1 327 b0 := u_tr wuu3 (p2_2 b0 (hF0)) (u_self wuu3)
  refine lv_pop hx hb dX1_hourOfReturn_4 rfl ?_
  refine lv_aload_n hx hb dX1_hourOfReturn_5 rfl (lv_at hl 0 rfl) ?_
  refine g_4 cx hw ha0 k_f_X1_18 dX1_hourOfReturn_6 (fun v4 e4 h4 => ?_)
  refine lv_iconst (v := (-1)) hx hb dX1_hourOfReturn_9 (by decide) ?_
  refine o_cv hw (oRunS cx hA hw q_J7_fill_53178 k_m_X1_62 (As := [.ref v4, .int (-1)]) (c_J7_fill_53178 v4 h4 (-1)) (by decide) rfl hl.1 rfl (Nat.le_of_ble_eq_true rfl) dX1_hourOfReturn_10 (by decide)) (fun σ5 H locs hp hw => ?_)
  have p6_0 := hp
  have fr := oFr_tr fr p6_0 (by decide)
  refine lv_aload_n hx hb dX1_hourOfReturn_13 rfl (lv_at hl 0 rfl) ?_
  refine g_4 cx hw ha0 k_f_X1_18 dX1_hourOfReturn_14 (fun v7 e7 h7 => ?_)
  rw [show v7 = v4 from Option.some.inj (e7.symm.trans (((kr_c p6_0 (by decide)).trans e4)))]
  refine lv_aload_n hx hb dX1_hourOfReturn_17 rfl (lv_at hl 0 rfl) ?_
  refine g_3 cx hw ha0 k_f_X1_12 dX1_hourOfReturn_18 (fun v8 e8 h8 => ?_)
  refine g_325 cx hw h8 k_f_X1_68 dX1_hourOfReturn_21 (fun v9 e9 h9 => ?_)
  refine lv_iload_n hx hb dX1_hourOfReturn_24 rfl (lv_at hl 1 rfl) ?_
  refine o_iald cx hw h9 (by decide) rfl (iv_in ia1 (by decide)) dX1_hourOfReturn_25 (fun v10 e10 b10 => ?_)
  have i10 : Iv v10 0 63 := b10
  refine lv_iconst (v := 0) hx hb dX1_hourOfReturn_26 (by decide) ?_
  refine o_iast cx hw h4 (by decide) rfl (iv_in i10 (by decide)) trivial dX1_hourOfReturn_27 (fun σ11 H locs eσ11 hw => ?_)
  have fr := oFr_p fr eσ11 h4 (by decide)
  refine lv_iconst (v := 1) hx hb dX1_hourOfReturn_28 (by decide) ?_
  refine lv_istore_n (lv' := [(2, .int 1), (0, .ref a0), (1, .int a1)]) hx hb dX1_hourOfReturn_29 rfl hl (by decide) rfl (fun ls hl => ?_)
  have frE_30 := fr
  have J_30 : ∀ n30 : Nat, ∀ (j30_2 : Int32) (ij30_2 : Iv j30_2 1 101), ∀ (σ_30 : oSt) (H : Heap) (locs : List Loc), oI A L τ cy D s.heap σ_30 H locs → oFr τ fs_X1_hourOfReturn ts_X1_hourOfReturn σ σ_30 → (101 - j30_2.toInt).toNat < n30 → (∀ a, σ_30.1 327 a = σ.1 327 a ∨ σ_30.1 327 a = σ.1 327 b0) → ∀ (ls : Array Slot), lv_has ls 4 [(0, .ref a0), (1, .int a1), (2, .int j30_2)] → W p l e ({ frames := 4, cells := 0, slots := 0, locals := 106 } : Room) s m args below meth c H locs 0 0 Q (F0 m 30 ls []) := by
    intro n30
    induction n30 with
    | zero => intro j30_2 ij30_2 σ_30 H locs hw fr   hn_30 u_30  ls hl; exact absurd hn_30 (Nat.not_lt_zero _)
    | succ n30 ih_30 =>
      intro j30_2 ij30_2 σ_30 H locs hw fr   hn_30 u_30  ls hl
      have fr_30 := fr
      refine lv_iload_n hx hb dX1_hourOfReturn_30 rfl (lv_at hl 2 rfl) ?_
      refine lv_bipush (v := 100) hx hb dX1_hourOfReturn_31 (by decide) ?_
      refine lv_icmp_gt (tgt := 83) hx hb dX1_hourOfReturn_33 (by decide) (fun c12 => ?_) (fun c12 => ?_)
      · --
        have i13 : Iv j30_2 101 101 := iv_lt2 c12 (⟨by decide, by decide⟩ : Iv 100 100 100) ij30_2 (by decide)
        refine lv_iconst (v := (-1)) hx hb dX1_hourOfReturn_83 (by decide) ?_
        rw [← hQ]
        exact o_ri cx rx hw dX1_hourOfReturn_84 ⟨fr, (iv_w (⟨by decide, by decide⟩ : Iv (-1) (-1) (-1)) (by decide)), (by intro b hb9; rw [show b = b0 from Option.some.inj (hb9.symm.trans hF0)]; exact u_30)⟩
      · --
        have i14 : Iv j30_2 1 100 := iv_le1 (iv_nlt c12) ij30_2 (⟨by decide, by decide⟩ : Iv 100 100 100) (by decide)
        refine lv_aload_n hx hb dX1_hourOfReturn_36 rfl (lv_at hl 0 rfl) ?_
        refine g_2 cx hw ha0 k_f_X1_33 dX1_hourOfReturn_37 (fun v15 e15 h15 => ?_)
        refine lv_aload_n hx hb dX1_hourOfReturn_40 rfl (lv_at hl 0 rfl) ?_
        refine g_3 cx hw ha0 k_f_X1_12 dX1_hourOfReturn_41 (fun v16 e16 h16 => ?_)
        rw [show v16 = v8 from Option.some.inj (e16.symm.trans (((kr_c fr_30 (by decide)).trans ((kr_c frE_30 (by decide)).symm.trans (((kr_p eσ11).trans e8))))))]
        refine o_ci hw (oRunV cx hA hw q_X9_pass k_m_X1_54 rfl h15 (by decide) (As := [.ref v8]) (c_X9_pass v15 h15 v8 h8) (by decide) rfl hl.1 rfl (Nat.le_of_ble_eq_true rfl) dX1_hourOfReturn_44 (by decide)) (fun v18 σ17 H locs hp hw => ?_)
        have p18_0 := hp
        have fr := oFr_tr fr p18_0 (by decide)
        refine lv_pop hx hb dX1_hourOfReturn_47 rfl ?_
        refine lv_aload_n hx hb dX1_hourOfReturn_48 rfl (lv_at hl 0 rfl) ?_
        refine g_3 cx hw ha0 k_f_X1_12 dX1_hourOfReturn_49 (fun v19 e19 h19 => ?_)
        rw [show v19 = v8 from Option.some.inj (e19.symm.trans (((kr_c p18_0 (by decide)).trans ((kr_c fr_30 (by decide)).trans ((kr_c frE_30 (by decide)).symm.trans (((kr_p eσ11).trans e8)))))))]
        refine g_325 cx hw h8 k_f_X1_68 dX1_hourOfReturn_52 (fun v20 e20 h20 => ?_)
        rw [show v20 = v9 from Option.some.inj (e20.symm.trans (((kr_c p18_0 (by decide)).trans ((kr_c fr_30 (by decide)).trans ((kr_c frE_30 (by decide)).symm.trans (((kr_p eσ11).trans e9)))))))]
        refine lv_iload_n hx hb dX1_hourOfReturn_55 rfl (lv_at hl 1 rfl) ?_
        refine o_iald cx hw h9 (by decide) rfl (iv_in ia1 (by decide)) dX1_hourOfReturn_56 (fun v21 e21 b21 => ?_)
        have i21 : Iv v21 0 63 := b21
        refine lv_istore_n (lv' := [(3, .int v21), (0, .ref a0), (1, .int a1), (2, .int j30_2)]) hx hb dX1_hourOfReturn_57 rfl hl (by decide) rfl (fun ls hl => ?_)
        refine lv_aload_n hx hb dX1_hourOfReturn_58 rfl (lv_at hl 1 rfl) ?_
        refine g_4 cx hw ha0 k_f_X1_18 dX1_hourOfReturn_59 (fun v22 e22 h22 => ?_)
        rw [show v22 = v4 from Option.some.inj (e22.symm.trans (((kr_c p18_0 (by decide)).trans ((kr_c fr_30 (by decide)).trans ((kr_c frE_30 (by decide)).symm.trans (((kr_p eσ11).trans ((kr_c p6_0 (by decide)).trans e4))))))))]
        refine lv_iload_n hx hb dX1_hourOfReturn_62 rfl (lv_at hl 0 rfl) ?_
        refine o_iald cx hw h4 (by decide) rfl (iv_in i21 (by decide)) dX1_hourOfReturn_63 (fun v23 e23 b23 => ?_)
        refine lv_iconst (v := (-1)) hx hb dX1_hourOfReturn_64 (by decide) ?_
        refine lv_icmp_eq (tgt := 70) hx hb dX1_hourOfReturn_65 (by decide) (fun c24 => ?_) (fun c24 => ?_)
        · --
          have i25 : Iv v23 (-1) (-1) := iv_eq1 c24 (iv_top v23) (⟨by decide, by decide⟩ : Iv (-1) (-1) (-1)) (by decide)
          refine lv_aload_n hx hb dX1_hourOfReturn_70 rfl (lv_at hl 1 rfl) ?_
          refine g_4 cx hw ha0 k_f_X1_18 dX1_hourOfReturn_71 (fun v26 e26 h26 => ?_)
          rw [show v26 = v4 from Option.some.inj (e26.symm.trans (((kr_c p18_0 (by decide)).trans ((kr_c fr_30 (by decide)).trans ((kr_c frE_30 (by decide)).symm.trans (((kr_p eσ11).trans ((kr_c p6_0 (by decide)).trans e4))))))))]
          refine lv_iload_n hx hb dX1_hourOfReturn_74 rfl (lv_at hl 0 rfl) ?_
          refine lv_iload_n hx hb dX1_hourOfReturn_75 rfl (lv_at hl 3 rfl) ?_
          refine o_iast cx hw h4 (by decide) rfl (iv_in i21 (by decide)) trivial dX1_hourOfReturn_76 (fun σ27 H locs eσ27 hw => ?_)
          have fr := oFr_p fr eσ27 h4 (by decide)
          obtain ⟨v28, e28⟩ : ∃ y : Int32, y = j30_2 + 1 := ⟨_, rfl⟩
          have i28 : Iv v28 2 101 := iv_add e28 i14 (⟨by decide, by decide⟩ : Iv 1 1 1) (by decide)
          have x28 : v28.toInt = j30_2.toInt + 1 := ex_add e28 i14 (⟨by decide, by decide⟩ : Iv 1 1 1) (by decide)
          refine lv_iinc (v := v28) (lv' := [(2, .int v28), (3, .int v21), (0, .ref a0), (1, .int a1)]) hx hb dX1_hourOfReturn_77 hl (k := 3) rfl (by rw [e28]; rfl) (by decide) rfl (fun ls hl => ?_)
          refine lv_goto (tgt := 30) hx hb dX1_hourOfReturn_80 (by decide) ?_
          exact ih_30 v28 (iv_w i28 (by decide)) σ27 _ _ hw fr (ms_up x28 (by decide) (iv_w (a' := 1) (b' := 101) i28 (by decide)).2 hn_30) (u_mv u_30 (fun a => ((kp_p eσ27).trans ((kp_c p18_0 (by decide)).trans rfl)))) _ (lv_sub hl [2, 3, 0] rfl)
        · --
          refine lv_iload_n hx hb dX1_hourOfReturn_68 rfl (lv_at hl 3 rfl) ?_
          rw [← hQ]
          exact o_ri cx rx hw dX1_hourOfReturn_69 ⟨fr, (iv_w i14 (by decide)), (by intro b hb9; rw [show b = b0 from Option.some.inj (hb9.symm.trans hF0)]; exact (u_mv u_30 (fun a => ((kp_c p18_0 (by decide)).trans rfl))))⟩
  exact J_30 _ 1 (iv_w (⟨by decide, by decide⟩ : Iv 1 1 1) (by decide)) σ11 _ _ hw fr (Nat.lt_succ_self _) (u_mv uu3 (fun a => ((kp_p eσ11).trans ((kp_c p6_0 (by decide)).trans rfl)))) _ (lv_sub hl [1, 2, 0] rfl)
set_option maxHeartbeats 4000000 in
set_option maxRecDepth 100000 in
theorem c_X5_asksFor (a0 : Nat) (ha0 : oA L τ a0 4) (a1 : Int32) (ia1 : Iv a1 0 65535) : oMet l A L τ cy D K yX5_asksFor cX5_asksFor 4 (some .boolean) 5 126 [.ref a0, .int a1] σ (va_Qi (fun r σ1 => σ1 = σ ∧ Iv r 0 1) (oPo A L τ cy D) A) := by
  refine oMk (by decide) (Nat.le_of_ble_eq_true rfl) rfl ?_
  intro p e s m args below meth c ls cx rx hA hw hl
  generalize hQ : MQ below _ args s 0 0 A = Q
  have hx := cx.1.1
  have hb := cx.1.2.1
  have hml := cx.1.2.2.1
  have hown := cx.1.2.2.2.1
  have hts := cx.1.2.2.2.2
  have hl : lv_has ls 4 [(0, .ref a0), (1, .int a1)] := hl
  refine lv_iload_n hx hb dX5_asksFor_0 rfl (lv_at hl 1 rfl) ?_
  refine o_ci hw (oRunS cx hA hw q_X5_numberOf k_m_X5_98 (As := [.int a1]) (c_X5_numberOf a1) (by decide) rfl hl.1 rfl (Nat.le_of_ble_eq_true rfl) dX5_asksFor_1 (by decide)) (fun v2 σ1 H locs hp hw => ?_)
  obtain ⟨p2_0, p2_1⟩ := hp
  rw [p2_0] at hw
  refine lv_istore_n (lv' := [(2, .int v2), (0, .ref a0), (1, .int a1)]) hx hb dX5_asksFor_4 rfl hl (by decide) rfl (fun ls hl => ?_)
  refine lv_iconst (v := 0) hx hb dX5_asksFor_5 (by decide) ?_
  refine lv_istore_n (lv' := [(3, .int 0), (2, .int v2), (0, .ref a0), (1, .int a1)]) hx hb dX5_asksFor_6 rfl hl (by decide) rfl (fun ls hl => ?_)
  have J_7 : ∀ n7 : Nat, ∀ (j7_3 : Int32) (ij7_3 : Iv j7_3 0 40), ∀ (H : Heap) (locs : List Loc), oI A L τ cy D s.heap σ H locs → (40 - j7_3.toInt).toNat < n7 → ∀ (ls : Array Slot), lv_has ls 4 [(0, .ref a0), (1, .int a1), (2, .int v2), (3, .int j7_3)] → W p l e ({ frames := 5, cells := 0, slots := 0, locals := 126 } : Room) s m args below meth c H locs 0 0 Q (F0 m 7 ls []) := by
    intro n7
    induction n7 with
    | zero => intro j7_3 ij7_3 H locs hw  hn_7   ls hl; exact absurd hn_7 (Nat.not_lt_zero _)
    | succ n7 ih_7 =>
      intro j7_3 ij7_3 H locs hw  hn_7   ls hl
      refine lv_iload_n hx hb dX5_asksFor_7 rfl (lv_at hl 3 rfl) ?_
      refine lv_aload_n hx hb dX5_asksFor_8 rfl (lv_at hl 0 rfl) ?_
      refine g_257 cx hw ha0 k_f_X5_60 dX5_asksFor_9 (fun v3 e3 i3 => ?_)
      refine lv_icmp_ge (tgt := 33) hx hb dX5_asksFor_12 (by decide) (fun c4 => ?_) (fun c4 => ?_)
      · --
        refine lv_iconst (v := 0) hx hb dX5_asksFor_33 (by decide) ?_
        rw [← hQ]
        exact o_rz cx rx hw (iv_nz01 (iv_w (⟨by decide, by decide⟩ : Iv 0 0 0) (by decide))) dX5_asksFor_34 ⟨rfl, (iv_w (⟨by decide, by decide⟩ : Iv 0 0 0) (by decide))⟩
      · --
        have i5 : Iv j7_3 0 39 := iv_lt1 (iv_nle c4) ij7_3 i3 (by decide)
        have i6 : Iv v3 1 40 := iv_lt2 (iv_nle c4) ij7_3 i3 (by decide)
        refine lv_aload_n hx hb dX5_asksFor_15 rfl (lv_at hl 0 rfl) ?_
        refine g_256 cx hw ha0 k_f_X5_9 dX5_asksFor_16 (fun v7 e7 h7 => ?_)
        refine lv_iload_n hx hb dX5_asksFor_19 rfl (lv_at hl 3 rfl) ?_
        refine o_iald cx hw h7 (by decide) rfl (iv_in i5 (by decide)) dX5_asksFor_20 (fun v8 e8 b8 => ?_)
        refine lv_iload_n hx hb dX5_asksFor_21 rfl (lv_at hl 2 rfl) ?_
        refine lv_icmp_ne (tgt := 27) hx hb dX5_asksFor_22 (by decide) (fun c9 => ?_) (fun c9 => ?_)
        · --
          obtain ⟨v10, e10⟩ : ∃ y : Int32, y = j7_3 + 1 := ⟨_, rfl⟩
          have i10 : Iv v10 1 40 := iv_add e10 i5 (⟨by decide, by decide⟩ : Iv 1 1 1) (by decide)
          have x10 : v10.toInt = j7_3.toInt + 1 := ex_add e10 i5 (⟨by decide, by decide⟩ : Iv 1 1 1) (by decide)
          refine lv_iinc (v := v10) (lv' := [(3, .int v10), (0, .ref a0), (1, .int a1), (2, .int v2)]) hx hb dX5_asksFor_27 hl (k := 3) rfl (by rw [e10]; rfl) (by decide) rfl (fun ls hl => ?_)
          refine lv_goto (tgt := 7) hx hb dX5_asksFor_30 (by decide) ?_
          exact ih_7 v10 (iv_w i10 (by decide)) _ _ hw (ms_up x10 (by decide) (iv_w (a' := 0) (b' := 40) i10 (by decide)).2 hn_7) _ (lv_sub hl [1, 2, 3, 0] rfl)
        · --
          have i11 : Iv v8 0 9 := iv_eq1 c9 (iv_top v8) p2_1 (by decide)
          refine lv_iconst (v := 1) hx hb dX5_asksFor_25 (by decide) ?_
          rw [← hQ]
          exact o_rz cx rx hw (iv_nz01 (iv_w (⟨by decide, by decide⟩ : Iv 1 1 1) (by decide))) dX5_asksFor_26 ⟨rfl, (iv_w (⟨by decide, by decide⟩ : Iv 1 1 1) (by decide))⟩
  exact J_7 _ 0 (iv_w (⟨by decide, by decide⟩ : Iv 0 0 0) (by decide)) _ _ hw (Nat.lt_succ_self _) _ (lv_sub hl [2, 3, 1, 0] rfl)
set_option maxHeartbeats 4000000 in
set_option maxRecDepth 100000 in
theorem c_X9_tellingBy (a0 : Nat) (ha0 : oA L τ a0 8) (a1 : Int32) (ia1 : Iv a1 0 65535) : oMet l A L τ cy D K yX9_tellingBy cX9_tellingBy 2 (some .long) 6 149 [.ref a0, .int a1] σ (va_Ql (fun r σ1 => σ1 = σ) (oPo A L τ cy D) A) := by
  refine oMk (by decide) (Nat.le_of_ble_eq_true rfl) rfl ?_
  intro p e s m args below meth c ls cx rx hA hw hl
  generalize hQ : MQ below _ args s 0 0 A = Q
  have hx := cx.1.1
  have hb := cx.1.2.1
  have hml := cx.1.2.2.1
  have hown := cx.1.2.2.2.1
  have hts := cx.1.2.2.2.2
  have hl : lv_has ls 2 [(0, .ref a0), (1, .int a1)] := hl
  refine lv_aload_n hx hb dX9_tellingBy_0 rfl (lv_at hl 0 rfl) ?_
  refine g_513 cx hw ha0 k_f_X9_28 dX9_tellingBy_1 (fun v1 e1 h1 => ?_)
  refine lv_iload_n hx hb dX9_tellingBy_4 rfl (lv_at hl 1 rfl) ?_
  refine o_ci hw (oRunV cx hA hw q_X5_asksFor k_m_X9_36 rfl h1 (by decide) (As := [.int a1]) (c_X5_asksFor v1 h1 a1 (iv_w ia1 (by decide))) (by decide) rfl hl.1 rfl (Nat.le_of_ble_eq_true rfl) dX9_tellingBy_5 (by decide)) (fun v3 σ2 H locs hp hw => ?_)
  obtain ⟨p3_0, p3_1⟩ := hp
  rw [p3_0] at hw
  refine lv_if_eq (tgt := 18) hx hb dX9_tellingBy_8 (by decide) (fun c4 => ?_) (fun c4 => ?_)
  · --
    have i5 : Iv v3 0 0 := iv_eq1 c4 p3_1 (⟨by decide, by decide⟩ : Iv 0 0 0) (by decide)
    refine lv_lconst (v := 0) hx hb dX9_tellingBy_18 (by decide) ?_
    rw [← hQ]
    exact o_rl cx rx hw dX9_tellingBy_19 rfl
  · --
    have i6 : Iv v3 1 1 := iv_ne1 c4 p3_1 (⟨by decide, by decide⟩ : Iv 0 0 0) (by decide)
    refine lv_aload_n hx hb dX9_tellingBy_11 rfl (lv_at hl 0 rfl) ?_
    refine g_517 cx hw ha0 k_f_X9_32 dX9_tellingBy_12 (fun v7 e7 => ?_)
    refine lv_goto (tgt := 19) hx hb dX9_tellingBy_15 (by decide) ?_
    rw [← hQ]
    exact o_rl cx rx hw dX9_tellingBy_19 rfl
abbrev fs_X1_saltThatLures : List Nat := [6, 327, 328, 329, 330, 331, 517]
abbrev ts_X1_saltThatLures : List Nat := [32, 33, 34, 37, 38]
set_option maxHeartbeats 4000000 in
set_option maxRecDepth 100000 in
theorem c_X1_saltThatLures (a0 : Nat) (ha0 : oA L τ a0 0) (a1 : Int32) (a2 : Int32) (ia2 : Iv a2 1 100) : oMet l A L τ cy D K yX1_saltThatLures cX1_saltThatLures 7 (some .int) 7 170 [.ref a0, .int a1, .int a2] σ (va_Qi (fun r σ1 => oFr τ fs_X1_saltThatLures ts_X1_saltThatLures σ σ1 ∧ Iv r (-2) 9 ∧ (∀ b, σ.2.2.2.2 0 a0 = some b → ∀ a, σ1.1 327 a = σ.1 327 a ∨ σ1.1 327 a = σ.1 327 b)) (oPo A L τ cy D) A) := by
  refine oMk (by decide) (Nat.le_of_ble_eq_true rfl) rfl ?_
  intro p e s m args below meth c ls cx rx hA hw hl
  generalize hQ : MQ below _ args s 0 0 A = Q
  have hx := cx.1.1
  have hb := cx.1.2.1
  have hml := cx.1.2.2.1
  have hown := cx.1.2.2.2.1
  have hts := cx.1.2.2.2.2
  have hl : lv_has ls 7 [(0, .ref a0), (1, .int a1), (2, .int a2)] := hl
  have fr : oFr τ fs_X1_saltThatLures ts_X1_saltThatLures σ σ := oFr_rf
  obtain ⟨b0, hF0, hb0⟩ := hw.2.2.2.2.2 0 a0 5 (by rw [ha0.2]; rfl) ha0.1
  refine lv_aload_n hx hb dX1_saltThatLures_0 rfl (lv_at hl 0 rfl) ?_
  refine g_2 cx hw ha0 k_f_X1_33 dX1_saltThatLures_1 (fun v1 e1 h1 => ?_)
  refine lv_bipush (v := 115) hx hb dX1_saltThatLures_4 (by decide) ?_
  refine o_cl hw (oRunV cx hA hw q_X9_tellingBy k_m_X1_75 rfl h1 (by decide) (As := [.int 115]) (c_X9_tellingBy v1 h1 115 (iv_w (⟨by decide, by decide⟩ : Iv 115 115 115) (by decide))) (by decide) rfl hl.1 rfl (Nat.le_of_ble_eq_true rfl) dX1_saltThatLures_6 (by decide)) (fun v3 σ2 H locs hp hw => ?_)
  have p3_0 := hp
  rw [p3_0] at hw
  refine lv_lstore_n (lv' := [(3, .long v3), (0, .ref a0), (1, .int a1), (2, .int a2)]) hx hb dX1_saltThatLures_9 rfl hl (by decide) rfl (fun ls hl => ?_)
  refine lv_iconst (v := 1) hx hb dX1_saltThatLures_10 (by decide) ?_
  refine lv_istore (lv' := [(5, .int 1), (3, .long v3), (0, .ref a0), (1, .int a1), (2, .int a2)]) hx hb dX1_saltThatLures_11 hl (by decide) rfl (fun ls hl => ?_)
  have frE_13 := fr
  have J_13 : ∀ n13 : Nat, ∀ (j13_5 : Int32) (ij13_5 : Iv j13_5 1 10), ∀ (σ_13 : oSt) (H : Heap) (locs : List Loc), oI A L τ cy D s.heap σ_13 H locs → oFr τ fs_X1_saltThatLures ts_X1_saltThatLures σ σ_13 → (10 - j13_5.toInt).toNat < n13 → (∀ a, σ_13.1 327 a = σ.1 327 a ∨ σ_13.1 327 a = σ.1 327 b0) → ∀ (ls : Array Slot), lv_has ls 7 [(0, .ref a0), (1, .int a1), (2, .int a2), (3, .long v3), (5, .int j13_5)] → W p l e ({ frames := 7, cells := 0, slots := 0, locals := 170 } : Room) s m args below meth c H locs 0 0 Q (F0 m 13 ls []) := by
    intro n13
    induction n13 with
    | zero => intro j13_5 ij13_5 σ_13 H locs hw fr   hn_13 u_13  ls hl; exact absurd hn_13 (Nat.not_lt_zero _)
    | succ n13 ih_13 =>
      intro j13_5 ij13_5 σ_13 H locs hw fr   hn_13 u_13  ls hl
      have fr_13 := fr
      refine lv_iload hx hb dX1_saltThatLures_13 (lv_at hl 4 rfl) ?_
      refine lv_bipush (v := 9) hx hb dX1_saltThatLures_15 (by decide) ?_
      refine lv_icmp_gt (tgt := 120) hx hb dX1_saltThatLures_17 (by decide) (fun c4 => ?_) (fun c4 => ?_)
      · --
        have i5 : Iv j13_5 10 10 := iv_lt2 c4 (⟨by decide, by decide⟩ : Iv 9 9 9) ij13_5 (by decide)
        refine lv_bipush (v := (-2)) hx hb dX1_saltThatLures_120 (by decide) ?_
        rw [← hQ]
        exact o_ri cx rx hw dX1_saltThatLures_122 ⟨fr, (iv_w (⟨by decide, by decide⟩ : Iv (-2) (-2) (-2)) (by decide)), (by intro b hb9; rw [show b = b0 from Option.some.inj (hb9.symm.trans hF0)]; exact u_13)⟩
      · --
        have i6 : Iv j13_5 1 9 := iv_le1 (iv_nlt c4) ij13_5 (⟨by decide, by decide⟩ : Iv 9 9 9) (by decide)
        refine lv_iconst (v := 0) hx hb dX1_saltThatLures_20 (by decide) ?_
        refine lv_istore (lv' := [(6, .int 0), (0, .ref a0), (1, .int a1), (2, .int a2), (3, .long v3), (5, .int j13_5)]) hx hb dX1_saltThatLures_21 hl (by decide) rfl (fun ls hl => ?_)
        have frE_23 := fr
        have J_23 : ∀ n23 : Nat, ∀ (j23_6 : Int32) (ij23_6 : Iv j23_6 0 64), ∀ (σ_23 : oSt) (H : Heap) (locs : List Loc), oI A L τ cy D s.heap σ_23 H locs → oFr τ fs_X1_saltThatLures ts_X1_saltThatLures σ σ_23 → (64 - j23_6.toInt).toNat < n23 → (∀ a, σ_23.1 327 a = σ.1 327 a ∨ σ_23.1 327 a = σ.1 327 b0) → ∀ (ls : Array Slot), lv_has ls 7 [(0, .ref a0), (1, .int a1), (2, .int a2), (3, .long v3), (5, .int j13_5), (6, .int j23_6)] → W p l e ({ frames := 7, cells := 0, slots := 0, locals := 170 } : Room) s m args below meth c H locs 0 0 Q (F0 m 23 ls []) := by
          intro n23
          induction n23 with
          | zero => intro j23_6 ij23_6 σ_23 H locs hw fr   hn_23 u_23  ls hl; exact absurd hn_23 (Nat.not_lt_zero _)
          | succ n23 ih_23 =>
            intro j23_6 ij23_6 σ_23 H locs hw fr   hn_23 u_23  ls hl
            have fr_23 := fr
            refine lv_iload hx hb dX1_saltThatLures_23 (lv_at hl 5 rfl) ?_
            refine lv_bipush (v := 64) hx hb dX1_saltThatLures_25 (by decide) ?_
            refine lv_icmp_ge (tgt := 114) hx hb dX1_saltThatLures_27 (by decide) (fun c7 => ?_) (fun c7 => ?_)
            · --
              have i8 : Iv j23_6 64 64 := iv_le2 c7 (⟨by decide, by decide⟩ : Iv 64 64 64) ij23_6 (by decide)
              obtain ⟨v9, e9⟩ : ∃ y : Int32, y = j13_5 + 1 := ⟨_, rfl⟩
              have i9 : Iv v9 2 10 := iv_add e9 i6 (⟨by decide, by decide⟩ : Iv 1 1 1) (by decide)
              have x9 : v9.toInt = j13_5.toInt + 1 := ex_add e9 i6 (⟨by decide, by decide⟩ : Iv 1 1 1) (by decide)
              refine lv_iinc (v := v9) (lv' := [(5, .int v9), (0, .ref a0), (1, .int a1), (2, .int a2), (3, .long v3), (6, .int j23_6)]) hx hb dX1_saltThatLures_114 hl (k := 4) rfl (by rw [e9]; rfl) (by decide) rfl (fun ls hl => ?_)
              refine lv_goto (tgt := 13) hx hb dX1_saltThatLures_117 (by decide) ?_
              exact ih_13 v9 (iv_w i9 (by decide)) σ_23 _ _ hw fr (ms_up x9 (by decide) (iv_w (a' := 1) (b' := 10) i9 (by decide)).2 hn_13) u_23 _ (lv_sub hl [1, 2, 3, 4, 0] rfl)
            · --
              have i10 : Iv j23_6 0 63 := iv_lt1 (iv_nle c7) ij23_6 (⟨by decide, by decide⟩ : Iv 64 64 64) (by decide)
              refine lv_lload_n hx hb dX1_saltThatLures_30 rfl (lv_at hl 3 rfl) ?_
              refine lv_iload hx hb dX1_saltThatLures_31 (lv_at hl 5 rfl) ?_
              refine o_ci hw (oRunS cx hA hw q_X0_has k_m_X1_79 (As := [.long v3, .int j23_6]) (c_X0_has v3 j23_6) (by decide) rfl hl.1 rfl (Nat.le_of_ble_eq_true rfl) dX1_saltThatLures_33 (by decide)) (fun v12 σ11 H locs hp hw => ?_)
              obtain ⟨p12_0, p12_1, p12_2, p12_3⟩ := hp
              rw [p12_0] at hw
              have frE_108 := fr
              have J_108 : ∀ (σ_108 : oSt) (H : Heap) (locs : List Loc), oI A L τ cy D s.heap σ_108 H locs → oFr τ fs_X1_saltThatLures ts_X1_saltThatLures σ σ_108 → (∀ a, σ_108.1 327 a = σ.1 327 a ∨ σ_108.1 327 a = σ.1 327 b0) → ∀ (ls : Array Slot), lv_has ls 7 [(0, .ref a0), (1, .int a1), (2, .int a2), (3, .long v3), (5, .int j13_5), (6, .int j23_6)] → W p l e ({ frames := 7, cells := 0, slots := 0, locals := 170 } : Room) s m args below meth c H locs 0 0 Q (F0 m 108 ls []) := by
                intro  σ_108 H locs hw fr    u_108  ls hl
                have fr_108 := fr
                obtain ⟨v13, e13⟩ : ∃ y : Int32, y = j23_6 + 1 := ⟨_, rfl⟩
                have i13 : Iv v13 1 64 := iv_add e13 i10 (⟨by decide, by decide⟩ : Iv 1 1 1) (by decide)
                have x13 : v13.toInt = j23_6.toInt + 1 := ex_add e13 i10 (⟨by decide, by decide⟩ : Iv 1 1 1) (by decide)
                refine lv_iinc (v := v13) (lv' := [(6, .int v13), (0, .ref a0), (1, .int a1), (2, .int a2), (3, .long v3), (5, .int j13_5)]) hx hb dX1_saltThatLures_108 hl (k := 5) rfl (by rw [e13]; rfl) (by decide) rfl (fun ls hl => ?_)
                refine lv_goto (tgt := 23) hx hb dX1_saltThatLures_111 (by decide) ?_
                exact ih_23 v13 (iv_w i13 (by decide)) σ_108 _ _ hw fr (ms_up x13 (by decide) (iv_w (a' := 0) (b' := 64) i13 (by decide)).2 hn_23) u_108 _ (lv_sub hl [1, 2, 3, 4, 5, 0] rfl)
              refine lv_if_eq (tgt := 108) hx hb dX1_saltThatLures_36 (by decide) (fun c14 => ?_) (fun c14 => ?_)
              · --
                have i15 : Iv v12 0 0 := iv_eq1 c14 p12_1 (⟨by decide, by decide⟩ : Iv 0 0 0) (by decide)
                exact J_108 σ_23 _ _ hw fr u_23 _ (lv_sub hl [0, 1, 2, 3, 4, 5] rfl)
              · --
                have i16 : Iv v12 1 1 := iv_ne1 c14 p12_1 (⟨by decide, by decide⟩ : Iv 0 0 0) (by decide)
                have i17 : Iv j23_6 0 63 := p12_2 c14
                refine lv_aload_n hx hb dX1_saltThatLures_39 rfl (lv_at hl 0 rfl) ?_
                refine g_1 cx hw ha0 k_f_X1_29 dX1_saltThatLures_40 (fun v18 e18 h18 => ?_)
                refine lv_iload hx hb dX1_saltThatLures_43 (lv_at hl 5 rfl) ?_
                refine o_ci hw (oRunV cx hA hw q_X2_isPlain k_m_X1_85 rfl h18 (by decide) (As := [.int j23_6]) (c_X2_isPlain v18 h18 j23_6) (by decide) rfl hl.1 rfl (Nat.le_of_ble_eq_true rfl) dX1_saltThatLures_45 (by decide)) (fun v20 σ19 H locs hp hw => ?_)
                obtain ⟨p20_0, p20_1, p20_2, p20_3⟩ := hp
                rw [p20_0] at hw
                refine lv_if_eq (tgt := 108) hx hb dX1_saltThatLures_48 (by decide) (fun c21 => ?_) (fun c21 => ?_)
                · --
                  have i22 : Iv v20 0 0 := iv_eq1 c21 p20_1 (⟨by decide, by decide⟩ : Iv 0 0 0) (by decide)
                  exact J_108 σ_23 _ _ hw fr u_23 _ (lv_sub hl [0, 1, 2, 3, 4, 5] rfl)
                · --
                  have i23 : Iv v20 1 1 := iv_ne1 c21 p20_1 (⟨by decide, by decide⟩ : Iv 0 0 0) (by decide)
                  have i24 : Iv j23_6 0 63 := p20_2 c21
                  refine lv_aload_n hx hb dX1_saltThatLures_51 rfl (lv_at hl 0 rfl) ?_
                  refine g_0 cx hw ha0 k_f_X1_26 dX1_saltThatLures_52 (fun v25 e25 h25 => ?_)
                  rw [show v25 = b0 from Option.some.inj (e25.symm.trans (((kr_c fr_23 (by decide)).trans hF0)))]
                  refine g_321 cx hw hb0 k_f_X1_91 dX1_saltThatLures_55 (fun v26 e26 h26 => ?_)
                  refine lv_iload hx hb dX1_saltThatLures_58 (lv_at hl 5 rfl) ?_
                  refine o_iald cx hw h26 (by decide) rfl (iv_in i24 (by decide)) dX1_saltThatLures_60 (fun v27 e27 b27 => ?_)
                  refine lv_iload hx hb dX1_saltThatLures_61 (lv_at hl 4 rfl) ?_
                  refine lv_iadd hx hb dX1_saltThatLures_63 ?_
                  refine lv_topi (fun v28 e28 => ?_)
                  refine lv_bipush (v := 9) hx hb dX1_saltThatLures_64 (by decide) ?_
                  refine lv_icmp_gt (tgt := 108) hx hb dX1_saltThatLures_66 (by decide) (fun c29 => ?_) (fun c29 => ?_)
                  · --
                    have i30 : Iv v28 10 2147483647 := iv_lt2 c29 (⟨by decide, by decide⟩ : Iv 9 9 9) (iv_top v28) (by decide)
                    exact J_108 σ_23 _ _ hw fr u_23 _ (lv_sub hl [0, 1, 2, 3, 4, 5] rfl)
                  · --
                    have i31 : Iv v28 (-2147483648) 9 := iv_le1 (iv_nlt c29) (iv_top v28) (⟨by decide, by decide⟩ : Iv 9 9 9) (by decide)
                    refine lv_aload_n hx hb dX1_saltThatLures_69 rfl (lv_at hl 0 rfl) ?_
                    refine o_cr hw (oRunV cx hA hw q_X1_begin k_m_X1_46 rfl ha0 (by decide) (As := []) (c_X1_begin a0 ha0) (by decide) rfl hl.1 rfl (Nat.le_of_ble_eq_true rfl) dX1_saltThatLures_70 (by decide)) (fun v33 σ32 H locs hp hw => ?_)
                    obtain ⟨p33_0, p33_1, p33_2⟩ := hp
                    have fr := oFr_tr fr p33_0 (by decide)
                    have wuu34 : ∀ a, σ_23.1 327 a = σ.1 327 a ∨ σ_23.1 327 a = σ.1 327 b0 := u_23
                    have uu34 : ∀ a, σ32.1 327 a = σ.1 327 a ∨ σ32.1 327 a = σ.1 327 b0 := u_tr wuu34 (p33_2 b0 (((kr_c fr_23 (by decide)).trans hF0))) (u_self wuu34)
                    refine lv_pop hx hb dX1_saltThatLures_73 rfl ?_
                    refine lv_aload_n hx hb dX1_saltThatLures_74 rfl (lv_at hl 0 rfl) ?_
                    refine g_3 cx hw ha0 k_f_X1_12 dX1_saltThatLures_75 (fun v35 e35 h35 => ?_)
                    refine g_321 cx hw h35 k_f_X1_91 dX1_saltThatLures_78 (fun v36 e36 h36 => ?_)
                    refine lv_iload hx hb dX1_saltThatLures_81 (lv_at hl 5 rfl) ?_
                    refine lv_dup2_11 hx hb dX1_saltThatLures_83 rfl rfl ?_
                    refine o_iald cx hw h36 (by decide) rfl (iv_in i24 (by decide)) dX1_saltThatLures_84 (fun v37 e37 b37 => ?_)
                    refine lv_iload hx hb dX1_saltThatLures_85 (lv_at hl 4 rfl) ?_
                    refine lv_iadd hx hb dX1_saltThatLures_87 ?_
                    refine lv_topi (fun v38 e38 => ?_)
                    refine o_iast cx hw h36 (by decide) rfl (iv_in i24 (by decide)) trivial dX1_saltThatLures_88 (fun σ39 H locs eσ39 hw => ?_)
                    have fr := oFr_p fr eσ39 h36 (by decide)
                    refine lv_aload_n hx hb dX1_saltThatLures_89 rfl (lv_at hl 0 rfl) ?_
                    refine lv_iload_n hx hb dX1_saltThatLures_90 rfl (lv_at hl 1 rfl) ?_
                    refine lv_iload_n hx hb dX1_saltThatLures_91 rfl (lv_at hl 2 rfl) ?_
                    refine o_ci hw (oRunV cx hA hw q_X1_hourOfComing k_m_X1_94 rfl ha0 (by decide) (As := [.int a1, .int a2]) (c_X1_hourOfComing a0 ha0 a1 a2 (iv_w ia2 (by decide))) (by decide) rfl hl.1 rfl (Nat.le_of_ble_eq_true rfl) dX1_saltThatLures_92 (by decide)) (fun v41 σ40 H locs hp hw => ?_)
                    obtain ⟨p41_0, p41_1⟩ := hp
                    have fr := oFr_tr fr p41_0 (by decide)
                    refine lv_iconst (v := (-1)) hx hb dX1_saltThatLures_95 (by decide) ?_
                    refine lv_icmp_eq (tgt := 108) hx hb dX1_saltThatLures_96 (by decide) (fun c42 => ?_) (fun c42 => ?_)
                    · --
                      have i43 : Iv v41 (-1) (-1) := iv_eq1 c42 p41_1 (⟨by decide, by decide⟩ : Iv (-1) (-1) (-1)) (by decide)
                      exact J_108 σ40 _ _ hw fr (u_mv uu34 (fun a => ((kp_c p41_0 (by decide)).trans ((kp_p eσ39).trans rfl)))) _ (lv_sub hl [0, 1, 2, 3, 4, 5] rfl)
                    · --
                      have i44 : Iv v41 0 100 := iv_ne1 c42 p41_1 (⟨by decide, by decide⟩ : Iv (-1) (-1) (-1)) (by decide)
                      refine lv_aload_n hx hb dX1_saltThatLures_99 rfl (lv_at hl 0 rfl) ?_
                      refine lv_iload hx hb dX1_saltThatLures_100 (lv_at hl 5 rfl) ?_
                      refine p_6 cx hw ha0 k_f_X1_98 dX1_saltThatLures_102 (fun σ45 H locs eσ45 hw => ?_)
                      have fr := oFr_i fr eσ45 (by decide)
                      refine lv_iload hx hb dX1_saltThatLures_105 (lv_at hl 4 rfl) ?_
                      rw [← hQ]
                      exact o_ri cx rx hw dX1_saltThatLures_107 ⟨fr, (iv_w i6 (by decide)), (by intro b hb9; rw [show b = b0 from Option.some.inj (hb9.symm.trans hF0)]; exact (u_mv uu34 (fun a => ((kp_i eσ45 (by decide)).trans ((kp_c p41_0 (by decide)).trans ((kp_p eσ39).trans rfl))))))⟩
        exact J_23 _ 0 (iv_w (⟨by decide, by decide⟩ : Iv 0 0 0) (by decide)) σ_13 _ _ hw fr (Nat.lt_succ_self _) u_13 _ (lv_sub hl [1, 2, 3, 4, 5, 0] rfl)
  exact J_13 _ 1 (iv_w (⟨by decide, by decide⟩ : Iv 1 1 1) (by decide)) σ _ _ hw fr (Nat.lt_succ_self _) (fun a => Or.inl (rfl)) _ (lv_sub hl [2, 3, 4, 1, 0] rfl)
abbrev fs_X1_beginWithThistles : List Nat := [327, 328, 329, 330, 331, 517]
abbrev ts_X1_beginWithThistles : List Nat := [32, 33, 34]
set_option maxHeartbeats 4000000 in
set_option maxRecDepth 100000 in
theorem c_X1_beginWithThistles (a0 : Nat) (ha0 : oA L τ a0 0) (a1 : Int32) (ia1 : Iv a1 0 63) (a2 : Int32) (ia2 : Iv a2 0 63) : oMet l A L τ cy D K yX1_beginWithThistles cX1_beginWithThistles 3 none 3 101 [.ref a0, .int a1, .int a2] σ (va_Qv (fun σ1 => oFr τ fs_X1_beginWithThistles ts_X1_beginWithThistles σ σ1 ∧ (∀ b, σ.2.2.2.2 0 a0 = some b → ∀ a, σ1.1 327 a = σ.1 327 a ∨ σ1.1 327 a = σ.1 327 b)) (oPo A L τ cy D) A) := by
  refine oMk (by decide) (Nat.le_of_ble_eq_true rfl) rfl ?_
  intro p e s m args below meth c ls cx rx hA hw hl
  generalize hQ : MQ below _ args s 0 0 A = Q
  have hx := cx.1.1
  have hb := cx.1.2.1
  have hml := cx.1.2.2.1
  have hown := cx.1.2.2.2.1
  have hts := cx.1.2.2.2.2
  have hl : lv_has ls 3 [(0, .ref a0), (1, .int a1), (2, .int a2)] := hl
  have fr : oFr τ fs_X1_beginWithThistles ts_X1_beginWithThistles σ σ := oFr_rf
  obtain ⟨b0, hF0, hb0⟩ := hw.2.2.2.2.2 0 a0 5 (by rw [ha0.2]; rfl) ha0.1
  refine lv_aload_n hx hb dX1_beginWithThistles_0 rfl (lv_at hl 0 rfl) ?_
  refine o_cr hw (oRunV cx hA hw q_X1_begin k_m_X1_46 rfl ha0 (by decide) (As := []) (c_X1_begin a0 ha0) (by decide) rfl hl.1 rfl (Nat.le_of_ble_eq_true rfl) dX1_beginWithThistles_1 (by decide)) (fun v2 σ1 H locs hp hw => ?_)
  obtain ⟨p2_0, p2_1, p2_2⟩ := hp
  have fr := oFr_tr fr p2_0 (by decide)
  have wuu3 : ∀ a, σ.1 327 a = σ.1 327 a ∨ σ.1 327 a = σ.1 327 b0 := (fun a => Or.inl (rfl))
  have uu3 : ∀ a, σ1.1 327 a = σ.1 327 a ∨ σ1.1 327 a = σ.1 327 b0 := u_tr wuu3 (p2_2 b0 (hF0)) (u_self wuu3)
  refine lv_pop hx hb dX1_beginWithThistles_4 rfl ?_
  refine lv_aload_n hx hb dX1_beginWithThistles_5 rfl (lv_at hl 0 rfl) ?_
  refine g_3 cx hw ha0 k_f_X1_12 dX1_beginWithThistles_6 (fun v4 e4 h4 => ?_)
  refine g_322 cx hw h4 k_f_X1_108 dX1_beginWithThistles_9 (fun v5 e5 h5 => ?_)
  refine lv_iload_n hx hb dX1_beginWithThistles_12 rfl (lv_at hl 1 rfl) ?_
  refine lv_bipush (v := 9) hx hb dX1_beginWithThistles_13 (by decide) ?_
  refine o_iast cx hw h5 (by decide) rfl (iv_in ia1 (by decide)) trivial dX1_beginWithThistles_15 (fun σ6 H locs eσ6 hw => ?_)
  have fr := oFr_p fr eσ6 h5 (by decide)
  refine lv_aload_n hx hb dX1_beginWithThistles_16 rfl (lv_at hl 0 rfl) ?_
  refine g_3 cx hw ha0 k_f_X1_12 dX1_beginWithThistles_17 (fun v7 e7 h7 => ?_)
  rw [show v7 = v4 from Option.some.inj (e7.symm.trans (((kr_p eσ6).trans e4)))]
  refine g_322 cx hw h4 k_f_X1_108 dX1_beginWithThistles_20 (fun v8 e8 h8 => ?_)
  rw [show v8 = v5 from Option.some.inj (e8.symm.trans (((kr_p eσ6).trans e5)))]
  refine lv_iload_n hx hb dX1_beginWithThistles_23 rfl (lv_at hl 2 rfl) ?_
  refine lv_bipush (v := 9) hx hb dX1_beginWithThistles_24 (by decide) ?_
  refine o_iast cx hw h5 (by decide) rfl (iv_in ia2 (by decide)) trivial dX1_beginWithThistles_26 (fun σ9 H locs eσ9 hw => ?_)
  have fr := oFr_p fr eσ9 h5 (by decide)
  rw [← hQ]
  exact o_rv cx rx hw dX1_beginWithThistles_27 ⟨fr, (by intro b hb9; rw [show b = b0 from Option.some.inj (hb9.symm.trans hF0)]; exact (u_mv uu3 (fun a => ((kp_p eσ9).trans ((kp_p eσ6).trans rfl)))))⟩
abbrev fs_X1_isHedgedByOne : List Nat := [6, 327, 328, 329, 330, 331, 517]
abbrev ts_X1_isHedgedByOne : List Nat := [32, 33, 34, 37, 38, 39]
set_option maxHeartbeats 4000000 in
set_option maxRecDepth 100000 in
theorem c_X1_isHedgedByOne (a0 : Nat) (ha0 : oA L τ a0 0) (a1 : Int32) (a2 : Int32) (ia2 : Iv a2 1 100) : oMet l A L τ cy D K yX1_isHedgedByOne cX1_isHedgedByOne 6 (some .boolean) 7 170 [.ref a0, .int a1, .int a2] σ (va_Qi (fun r σ1 => oFr τ fs_X1_isHedgedByOne ts_X1_isHedgedByOne σ σ1 ∧ Iv r 0 1 ∧ (∀ b, σ.2.2.2.2 0 a0 = some b → ∀ a, σ1.1 327 a = σ.1 327 a ∨ σ1.1 327 a = σ.1 327 b)) (oPo A L τ cy D) A) := by
  refine oMk (by decide) (Nat.le_of_ble_eq_true rfl) rfl ?_
  intro p e s m args below meth c ls cx rx hA hw hl
  generalize hQ : MQ below _ args s 0 0 A = Q
  have hx := cx.1.1
  have hb := cx.1.2.1
  have hml := cx.1.2.2.1
  have hown := cx.1.2.2.2.1
  have hts := cx.1.2.2.2.2
  have hl : lv_has ls 6 [(0, .ref a0), (1, .int a1), (2, .int a2)] := hl
  have fr : oFr τ fs_X1_isHedgedByOne ts_X1_isHedgedByOne σ σ := oFr_rf
  obtain ⟨b0, hF0, hb0⟩ := hw.2.2.2.2.2 0 a0 5 (by rw [ha0.2]; rfl) ha0.1
  refine lv_aload_n hx hb dX1_isHedgedByOne_0 rfl (lv_at hl 0 rfl) ?_
  refine g_2 cx hw ha0 k_f_X1_33 dX1_isHedgedByOne_1 (fun v1 e1 h1 => ?_)
  refine lv_bipush (v := 116) hx hb dX1_isHedgedByOne_4 (by decide) ?_
  refine o_cl hw (oRunV cx hA hw q_X9_tellingBy k_m_X1_75 rfl h1 (by decide) (As := [.int 116]) (c_X9_tellingBy v1 h1 116 (iv_w (⟨by decide, by decide⟩ : Iv 116 116 116) (by decide))) (by decide) rfl hl.1 rfl (Nat.le_of_ble_eq_true rfl) dX1_isHedgedByOne_6 (by decide)) (fun v3 σ2 H locs hp hw => ?_)
  have p3_0 := hp
  rw [p3_0] at hw
  refine lv_lstore_n (lv' := [(3, .long v3), (0, .ref a0), (1, .int a1), (2, .int a2)]) hx hb dX1_isHedgedByOne_9 rfl hl (by decide) rfl (fun ls hl => ?_)
  refine lv_iconst (v := 0) hx hb dX1_isHedgedByOne_10 (by decide) ?_
  refine lv_istore (lv' := [(5, .int 0), (3, .long v3), (0, .ref a0), (1, .int a1), (2, .int a2)]) hx hb dX1_isHedgedByOne_11 hl (by decide) rfl (fun ls hl => ?_)
  have frE_13 := fr
  have J_13 : ∀ n13 : Nat, ∀ (j13_5 : Int32) (ij13_5 : Iv j13_5 0 64), ∀ (σ_13 : oSt) (H : Heap) (locs : List Loc), oI A L τ cy D s.heap σ_13 H locs → oFr τ fs_X1_isHedgedByOne ts_X1_isHedgedByOne σ σ_13 → (64 - j13_5.toInt).toNat < n13 → (∀ a, σ_13.1 327 a = σ.1 327 a ∨ σ_13.1 327 a = σ.1 327 b0) → ∀ (ls : Array Slot), lv_has ls 6 [(0, .ref a0), (1, .int a1), (2, .int a2), (3, .long v3), (5, .int j13_5)] → W p l e ({ frames := 7, cells := 0, slots := 0, locals := 170 } : Room) s m args below meth c H locs 0 0 Q (F0 m 13 ls []) := by
    intro n13
    induction n13 with
    | zero => intro j13_5 ij13_5 σ_13 H locs hw fr   hn_13 u_13  ls hl; exact absurd hn_13 (Nat.not_lt_zero _)
    | succ n13 ih_13 =>
      intro j13_5 ij13_5 σ_13 H locs hw fr   hn_13 u_13  ls hl
      have fr_13 := fr
      refine lv_iload hx hb dX1_isHedgedByOne_13 (lv_at hl 4 rfl) ?_
      refine lv_bipush (v := 64) hx hb dX1_isHedgedByOne_15 (by decide) ?_
      refine lv_icmp_ge (tgt := 97) hx hb dX1_isHedgedByOne_17 (by decide) (fun c4 => ?_) (fun c4 => ?_)
      · --
        have i5 : Iv j13_5 64 64 := iv_le2 c4 (⟨by decide, by decide⟩ : Iv 64 64 64) ij13_5 (by decide)
        refine lv_iconst (v := 0) hx hb dX1_isHedgedByOne_97 (by decide) ?_
        rw [← hQ]
        exact o_rz cx rx hw (iv_nz01 (iv_w (⟨by decide, by decide⟩ : Iv 0 0 0) (by decide))) dX1_isHedgedByOne_98 ⟨fr, (iv_w (⟨by decide, by decide⟩ : Iv 0 0 0) (by decide)), (by intro b hb9; rw [show b = b0 from Option.some.inj (hb9.symm.trans hF0)]; exact u_13)⟩
      · --
        have i6 : Iv j13_5 0 63 := iv_lt1 (iv_nle c4) ij13_5 (⟨by decide, by decide⟩ : Iv 64 64 64) (by decide)
        refine lv_aload_n hx hb dX1_isHedgedByOne_20 rfl (lv_at hl 0 rfl) ?_
        refine g_5 cx hw ha0 k_f_X1_22 dX1_isHedgedByOne_21 (fun v7 e7 h7 => ?_)
        refine lv_iload hx hb dX1_isHedgedByOne_24 (lv_at hl 4 rfl) ?_
        refine lv_lload_n hx hb dX1_isHedgedByOne_26 rfl (lv_at hl 3 rfl) ?_
        refine o_last cx hw h7 (by decide) rfl (iv_in i6 (by decide)) dX1_isHedgedByOne_27 (fun σ8 H locs eσ8 hw => ?_)
        have fr := oFr_q fr eσ8 h7 (by decide)
        refine lv_lload_n hx hb dX1_isHedgedByOne_28 rfl (lv_at hl 3 rfl) ?_
        refine lv_iload hx hb dX1_isHedgedByOne_29 (lv_at hl 4 rfl) ?_
        refine o_ci hw (oRunS cx hA hw q_X0_has k_m_X1_79 (As := [.long v3, .int j13_5]) (c_X0_has v3 j13_5) (by decide) rfl hl.1 rfl (Nat.le_of_ble_eq_true rfl) dX1_isHedgedByOne_31 (by decide)) (fun v10 σ9 H locs hp hw => ?_)
        obtain ⟨p10_0, p10_1, p10_2, p10_3⟩ := hp
        rw [p10_0] at hw
        have frE_91 := fr
        have J_91 : ∀ (σ_91 : oSt) (H : Heap) (locs : List Loc), oI A L τ cy D s.heap σ_91 H locs → oFr τ fs_X1_isHedgedByOne ts_X1_isHedgedByOne σ σ_91 → (∀ a, σ_91.1 327 a = σ.1 327 a ∨ σ_91.1 327 a = σ.1 327 b0) → ∀ (ls : Array Slot), lv_has ls 6 [(0, .ref a0), (1, .int a1), (2, .int a2), (3, .long v3), (5, .int j13_5)] → W p l e ({ frames := 7, cells := 0, slots := 0, locals := 170 } : Room) s m args below meth c H locs 0 0 Q (F0 m 91 ls []) := by
          intro  σ_91 H locs hw fr    u_91  ls hl
          have fr_91 := fr
          obtain ⟨v11, e11⟩ : ∃ y : Int32, y = j13_5 + 1 := ⟨_, rfl⟩
          have i11 : Iv v11 1 64 := iv_add e11 i6 (⟨by decide, by decide⟩ : Iv 1 1 1) (by decide)
          have x11 : v11.toInt = j13_5.toInt + 1 := ex_add e11 i6 (⟨by decide, by decide⟩ : Iv 1 1 1) (by decide)
          refine lv_iinc (v := v11) (lv' := [(5, .int v11), (0, .ref a0), (1, .int a1), (2, .int a2), (3, .long v3)]) hx hb dX1_isHedgedByOne_91 hl (k := 4) rfl (by rw [e11]; rfl) (by decide) rfl (fun ls hl => ?_)
          refine lv_goto (tgt := 13) hx hb dX1_isHedgedByOne_94 (by decide) ?_
          exact ih_13 v11 (iv_w i11 (by decide)) σ_91 _ _ hw fr (ms_up x11 (by decide) (iv_w (a' := 0) (b' := 64) i11 (by decide)).2 hn_13) u_91 _ (lv_sub hl [1, 2, 3, 4, 0] rfl)
        refine lv_if_eq (tgt := 91) hx hb dX1_isHedgedByOne_34 (by decide) (fun c12 => ?_) (fun c12 => ?_)
        · --
          have i13 : Iv v10 0 0 := iv_eq1 c12 p10_1 (⟨by decide, by decide⟩ : Iv 0 0 0) (by decide)
          exact J_91 σ8 _ _ hw fr (u_mv u_13 (fun a => ((kp_q eσ8).trans rfl))) _ (lv_sub hl [0, 1, 2, 3, 4] rfl)
        · --
          have i14 : Iv v10 1 1 := iv_ne1 c12 p10_1 (⟨by decide, by decide⟩ : Iv 0 0 0) (by decide)
          have i15 : Iv j13_5 0 63 := p10_2 c12
          refine lv_aload_n hx hb dX1_isHedgedByOne_37 rfl (lv_at hl 0 rfl) ?_
          refine g_1 cx hw ha0 k_f_X1_29 dX1_isHedgedByOne_38 (fun v16 e16 h16 => ?_)
          refine lv_iload hx hb dX1_isHedgedByOne_41 (lv_at hl 4 rfl) ?_
          refine o_ci hw (oRunV cx hA hw q_X2_isPlain k_m_X1_85 rfl h16 (by decide) (As := [.int j13_5]) (c_X2_isPlain v16 h16 j13_5) (by decide) rfl hl.1 rfl (Nat.le_of_ble_eq_true rfl) dX1_isHedgedByOne_43 (by decide)) (fun v18 σ17 H locs hp hw => ?_)
          obtain ⟨p18_0, p18_1, p18_2, p18_3⟩ := hp
          rw [p18_0] at hw
          refine lv_if_eq (tgt := 91) hx hb dX1_isHedgedByOne_46 (by decide) (fun c19 => ?_) (fun c19 => ?_)
          · --
            have i20 : Iv v18 0 0 := iv_eq1 c19 p18_1 (⟨by decide, by decide⟩ : Iv 0 0 0) (by decide)
            exact J_91 σ8 _ _ hw fr (u_mv u_13 (fun a => ((kp_q eσ8).trans rfl))) _ (lv_sub hl [0, 1, 2, 3, 4] rfl)
          · --
            have i21 : Iv v18 1 1 := iv_ne1 c19 p18_1 (⟨by decide, by decide⟩ : Iv 0 0 0) (by decide)
            have i22 : Iv j13_5 0 63 := p18_2 c19
            refine lv_aload_n hx hb dX1_isHedgedByOne_49 rfl (lv_at hl 0 rfl) ?_
            refine lv_iload hx hb dX1_isHedgedByOne_50 (lv_at hl 4 rfl) ?_
            refine lv_iload hx hb dX1_isHedgedByOne_52 (lv_at hl 4 rfl) ?_
            refine o_cv hw (oRunV cx hA hw q_X1_beginWithThistles k_m_X1_101 rfl ha0 (by decide) (As := [.int j13_5, .int j13_5]) (c_X1_beginWithThistles a0 ha0 j13_5 (iv_w i22 (by decide)) j13_5 (iv_w i22 (by decide))) (by decide) rfl hl.1 rfl (Nat.le_of_ble_eq_true rfl) dX1_isHedgedByOne_54 (by decide)) (fun σ23 H locs hp hw => ?_)
            obtain ⟨p24_0, p24_1⟩ := hp
            have fr := oFr_tr fr p24_0 (by decide)
            have wuu25 : ∀ a, σ8.1 327 a = σ.1 327 a ∨ σ8.1 327 a = σ.1 327 b0 := (u_mv u_13 (fun a => ((kp_q eσ8).trans rfl)))
            have uu25 : ∀ a, σ23.1 327 a = σ.1 327 a ∨ σ23.1 327 a = σ.1 327 b0 := u_tr wuu25 (p24_1 b0 (((kr_q eσ8).trans ((kr_c fr_13 (by decide)).trans hF0)))) (u_self wuu25)
            refine lv_aload_n hx hb dX1_isHedgedByOne_57 rfl (lv_at hl 0 rfl) ?_
            refine lv_iload_n hx hb dX1_isHedgedByOne_58 rfl (lv_at hl 1 rfl) ?_
            refine lv_iload_n hx hb dX1_isHedgedByOne_59 rfl (lv_at hl 2 rfl) ?_
            refine o_ci hw (oRunV cx hA hw q_X1_hourOfComing k_m_X1_94 rfl ha0 (by decide) (As := [.int a1, .int a2]) (c_X1_hourOfComing a0 ha0 a1 a2 (iv_w ia2 (by decide))) (by decide) rfl hl.1 rfl (Nat.le_of_ble_eq_true rfl) dX1_isHedgedByOne_60 (by decide)) (fun v27 σ26 H locs hp hw => ?_)
            obtain ⟨p27_0, p27_1⟩ := hp
            have fr := oFr_tr fr p27_0 (by decide)
            refine lv_iconst (v := (-1)) hx hb dX1_isHedgedByOne_63 (by decide) ?_
            refine lv_icmp_ne (tgt := 75) hx hb dX1_isHedgedByOne_64 (by decide) (fun c28 => ?_) (fun c28 => ?_)
            · --
              have i29 : Iv v27 0 100 := iv_ne1 c28 p27_1 (⟨by decide, by decide⟩ : Iv (-1) (-1) (-1)) (by decide)
              refine lv_aload_n hx hb dX1_isHedgedByOne_75 rfl (lv_at hl 0 rfl) ?_
              refine g_5 cx hw ha0 k_f_X1_22 dX1_isHedgedByOne_76 (fun v30 e30 h30 => ?_)
              rw [show v30 = v7 from Option.some.inj (e30.symm.trans (((kr_c p27_0 (by decide)).trans ((kr_c p24_0 (by decide)).trans ((kr_q eσ8).trans e7)))))]
              refine lv_iload hx hb dX1_isHedgedByOne_79 (lv_at hl 4 rfl) ?_
              refine lv_aload_n hx hb dX1_isHedgedByOne_81 rfl (lv_at hl 0 rfl) ?_
              refine g_2 cx hw ha0 k_f_X1_33 dX1_isHedgedByOne_82 (fun v31 e31 h31 => ?_)
              rw [show v31 = v1 from Option.some.inj (e31.symm.trans (((kr_c p27_0 (by decide)).trans ((kr_c p24_0 (by decide)).trans ((kr_q eσ8).trans ((kr_c fr_13 (by decide)).trans ((kr_c frE_13 (by decide)).symm.trans (e1))))))))]
              refine lv_bipush (v := 116) hx hb dX1_isHedgedByOne_85 (by decide) ?_
              refine o_cl hw (oRunV cx hA hw q_X9_tellingBy k_m_X1_75 rfl h1 (by decide) (As := [.int 116]) (c_X9_tellingBy v1 h1 116 (iv_w (⟨by decide, by decide⟩ : Iv 116 116 116) (by decide))) (by decide) rfl hl.1 rfl (Nat.le_of_ble_eq_true rfl) dX1_isHedgedByOne_87 (by decide)) (fun v33 σ32 H locs hp hw => ?_)
              have p33_0 := hp
              rw [p33_0] at hw
              refine o_last cx hw h7 (by decide) rfl (iv_in i22 (by decide)) dX1_isHedgedByOne_90 (fun σ34 H locs eσ34 hw => ?_)
              have fr := oFr_q fr eσ34 h7 (by decide)
              exact J_91 σ34 _ _ hw fr (u_mv uu25 (fun a => ((kp_q eσ34).trans ((kp_c p27_0 (by decide)).trans rfl)))) _ (lv_sub hl [0, 1, 2, 3, 4] rfl)
            · --
              have i35 : Iv v27 (-1) (-1) := iv_eq1 c28 p27_1 (⟨by decide, by decide⟩ : Iv (-1) (-1) (-1)) (by decide)
              refine lv_aload_n hx hb dX1_isHedgedByOne_67 rfl (lv_at hl 0 rfl) ?_
              refine lv_iload hx hb dX1_isHedgedByOne_68 (lv_at hl 4 rfl) ?_
              refine p_6 cx hw ha0 k_f_X1_98 dX1_isHedgedByOne_70 (fun σ36 H locs eσ36 hw => ?_)
              have fr := oFr_i fr eσ36 (by decide)
              refine lv_iconst (v := 1) hx hb dX1_isHedgedByOne_73 (by decide) ?_
              rw [← hQ]
              exact o_rz cx rx hw (iv_nz01 (iv_w (⟨by decide, by decide⟩ : Iv 1 1 1) (by decide))) dX1_isHedgedByOne_74 ⟨fr, (iv_w (⟨by decide, by decide⟩ : Iv 1 1 1) (by decide)), (by intro b hb9; rw [show b = b0 from Option.some.inj (hb9.symm.trans hF0)]; exact (u_mv uu25 (fun a => ((kp_i eσ36 (by decide)).trans ((kp_c p27_0 (by decide)).trans rfl)))))⟩
  exact J_13 _ 0 (iv_w (⟨by decide, by decide⟩ : Iv 0 0 0) (by decide)) σ _ _ hw fr (Nat.lt_succ_self _) (fun a => Or.inl (rfl)) _ (lv_sub hl [2, 3, 4, 1, 0] rfl)
abbrev fs_X1_isHedgedByTwo : List Nat := [6, 7, 327, 328, 329, 330, 331, 517]
abbrev ts_X1_isHedgedByTwo : List Nat := [32, 33, 34, 37, 38]
set_option maxHeartbeats 4000000 in
set_option maxRecDepth 100000 in
theorem c_X1_isHedgedByTwo (a0 : Nat) (ha0 : oA L τ a0 0) (a1 : Int32) (a2 : Int32) (ia2 : Iv a2 1 100) : oMet l A L τ cy D K yX1_isHedgedByTwo cX1_isHedgedByTwo 5 (some .boolean) 5 129 [.ref a0, .int a1, .int a2] σ (va_Qi (fun r σ1 => oFr τ fs_X1_isHedgedByTwo ts_X1_isHedgedByTwo σ σ1 ∧ Iv r 0 1 ∧ (∀ b, σ.2.2.2.2 0 a0 = some b → ∀ a, σ1.1 327 a = σ.1 327 a ∨ σ1.1 327 a = σ.1 327 b)) (oPo A L τ cy D) A) := by
  refine oMk (by decide) (Nat.le_of_ble_eq_true rfl) rfl ?_
  intro p e s m args below meth c ls cx rx hA hw hl
  generalize hQ : MQ below _ args s 0 0 A = Q
  have hx := cx.1.1
  have hb := cx.1.2.1
  have hml := cx.1.2.2.1
  have hown := cx.1.2.2.2.1
  have hts := cx.1.2.2.2.2
  have hl : lv_has ls 5 [(0, .ref a0), (1, .int a1), (2, .int a2)] := hl
  have fr : oFr τ fs_X1_isHedgedByTwo ts_X1_isHedgedByTwo σ σ := oFr_rf
  obtain ⟨b0, hF0, hb0⟩ := hw.2.2.2.2.2 0 a0 5 (by rw [ha0.2]; rfl) ha0.1
  refine lv_iconst (v := 0) hx hb dX1_isHedgedByTwo_0 (by decide) ?_
  refine lv_istore_n (lv' := [(3, .int 0), (0, .ref a0), (1, .int a1), (2, .int a2)]) hx hb dX1_isHedgedByTwo_1 rfl hl (by decide) rfl (fun ls hl => ?_)
  have frE_2 := fr
  have J_2 : ∀ n2 : Nat, ∀ (j2_3 : Int32) (ij2_3 : Iv j2_3 0 64), ∀ (σ_2 : oSt) (H : Heap) (locs : List Loc), oI A L τ cy D s.heap σ_2 H locs → oFr τ fs_X1_isHedgedByTwo ts_X1_isHedgedByTwo σ σ_2 → (64 - j2_3.toInt).toNat < n2 → (∀ a, σ_2.1 327 a = σ.1 327 a ∨ σ_2.1 327 a = σ.1 327 b0) → ∀ (ls : Array Slot), lv_has ls 5 [(0, .ref a0), (1, .int a1), (2, .int a2), (3, .int j2_3)] → W p l e ({ frames := 5, cells := 0, slots := 0, locals := 129 } : Room) s m args below meth c H locs 0 0 Q (F0 m 2 ls []) := by
    intro n2
    induction n2 with
    | zero => intro j2_3 ij2_3 σ_2 H locs hw fr   hn_2 u_2  ls hl; exact absurd hn_2 (Nat.not_lt_zero _)
    | succ n2 ih_2 =>
      intro j2_3 ij2_3 σ_2 H locs hw fr   hn_2 u_2  ls hl
      have fr_2 := fr
      refine lv_iload_n hx hb dX1_isHedgedByTwo_2 rfl (lv_at hl 3 rfl) ?_
      refine lv_bipush (v := 64) hx hb dX1_isHedgedByTwo_3 (by decide) ?_
      refine lv_icmp_ge (tgt := 113) hx hb dX1_isHedgedByTwo_5 (by decide) (fun c1 => ?_) (fun c1 => ?_)
      · --
        have i2 : Iv j2_3 64 64 := iv_le2 c1 (⟨by decide, by decide⟩ : Iv 64 64 64) ij2_3 (by decide)
        refine lv_iconst (v := 0) hx hb dX1_isHedgedByTwo_113 (by decide) ?_
        rw [← hQ]
        exact o_rz cx rx hw (iv_nz01 (iv_w (⟨by decide, by decide⟩ : Iv 0 0 0) (by decide))) dX1_isHedgedByTwo_114 ⟨fr, (iv_w (⟨by decide, by decide⟩ : Iv 0 0 0) (by decide)), (by intro b hb9; rw [show b = b0 from Option.some.inj (hb9.symm.trans hF0)]; exact u_2)⟩
      · --
        have i3 : Iv j2_3 0 63 := iv_lt1 (iv_nle c1) ij2_3 (⟨by decide, by decide⟩ : Iv 64 64 64) (by decide)
        refine lv_iload_n hx hb dX1_isHedgedByTwo_8 rfl (lv_at hl 3 rfl) ?_
        refine lv_iconst (v := 1) hx hb dX1_isHedgedByTwo_9 (by decide) ?_
        refine lv_iadd hx hb dX1_isHedgedByTwo_10 ?_
        refine lv_topi (fun v4 e4 => ?_)
        have i4 : Iv v4 1 64 := iv_add e4 i3 (⟨by decide, by decide⟩ : Iv 1 1 1) (by decide)
        have x4 : v4.toInt = j2_3.toInt + 1 := ex_add e4 i3 (⟨by decide, by decide⟩ : Iv 1 1 1) (by decide)
        refine lv_istore (lv' := [(4, .int v4), (0, .ref a0), (1, .int a1), (2, .int a2), (3, .int j2_3)]) hx hb dX1_isHedgedByTwo_11 hl (by decide) rfl (fun ls hl => ?_)
        have frE_13 := fr
        have J_13 : ∀ n13 : Nat, ∀ (j13_4 : Int32) (ij13_4 : Iv j13_4 1 64), ∀ (σ_13 : oSt) (H : Heap) (locs : List Loc), oI A L τ cy D s.heap σ_13 H locs → oFr τ fs_X1_isHedgedByTwo ts_X1_isHedgedByTwo σ σ_13 → (64 - j13_4.toInt).toNat < n13 → (∀ a, σ_13.1 327 a = σ.1 327 a ∨ σ_13.1 327 a = σ.1 327 b0) → ∀ (ls : Array Slot), lv_has ls 5 [(0, .ref a0), (1, .int a1), (2, .int a2), (3, .int j2_3), (4, .int j13_4)] → W p l e ({ frames := 5, cells := 0, slots := 0, locals := 129 } : Room) s m args below meth c H locs 0 0 Q (F0 m 13 ls []) := by
          intro n13
          induction n13 with
          | zero => intro j13_4 ij13_4 σ_13 H locs hw fr   hn_13 u_13  ls hl; exact absurd hn_13 (Nat.not_lt_zero _)
          | succ n13 ih_13 =>
            intro j13_4 ij13_4 σ_13 H locs hw fr   hn_13 u_13  ls hl
            have fr_13 := fr
            refine lv_iload hx hb dX1_isHedgedByTwo_13 (lv_at hl 4 rfl) ?_
            refine lv_bipush (v := 64) hx hb dX1_isHedgedByTwo_15 (by decide) ?_
            refine lv_icmp_ge (tgt := 107) hx hb dX1_isHedgedByTwo_17 (by decide) (fun c5 => ?_) (fun c5 => ?_)
            · --
              have i6 : Iv j13_4 64 64 := iv_le2 c5 (⟨by decide, by decide⟩ : Iv 64 64 64) ij13_4 (by decide)
              obtain ⟨v7, e7⟩ : ∃ y : Int32, y = j2_3 + 1 := ⟨_, rfl⟩
              have i7 : Iv v7 1 64 := iv_add e7 i3 (⟨by decide, by decide⟩ : Iv 1 1 1) (by decide)
              have x7 : v7.toInt = j2_3.toInt + 1 := ex_add e7 i3 (⟨by decide, by decide⟩ : Iv 1 1 1) (by decide)
              refine lv_iinc (v := v7) (lv' := [(3, .int v7), (0, .ref a0), (1, .int a1), (2, .int a2), (4, .int j13_4)]) hx hb dX1_isHedgedByTwo_107 hl (k := 3) rfl (by rw [e7]; rfl) (by decide) rfl (fun ls hl => ?_)
              refine lv_goto (tgt := 2) hx hb dX1_isHedgedByTwo_110 (by decide) ?_
              exact ih_2 v7 (iv_w i7 (by decide)) σ_13 _ _ hw fr (ms_up x7 (by decide) (iv_w (a' := 0) (b' := 64) i7 (by decide)).2 hn_2) u_13 _ (lv_sub hl [1, 2, 3, 0] rfl)
            · --
              have i8 : Iv j13_4 1 63 := iv_lt1 (iv_nle c5) ij13_4 (⟨by decide, by decide⟩ : Iv 64 64 64) (by decide)
              refine lv_aload_n hx hb dX1_isHedgedByTwo_20 rfl (lv_at hl 0 rfl) ?_
              refine g_5 cx hw ha0 k_f_X1_22 dX1_isHedgedByTwo_21 (fun v9 e9 h9 => ?_)
              refine lv_iload_n hx hb dX1_isHedgedByTwo_24 rfl (lv_at hl 3 rfl) ?_
              refine o_lald cx hw h9 (by decide) rfl (iv_in i3 (by decide)) dX1_isHedgedByTwo_25 (fun v10 e10 => ?_)
              refine lv_iload hx hb dX1_isHedgedByTwo_26 (lv_at hl 4 rfl) ?_
              refine o_ci hw (oRunS cx hA hw q_X0_has k_m_X1_79 (As := [.long v10, .int j13_4]) (c_X0_has v10 j13_4) (by decide) rfl hl.1 rfl (Nat.le_of_ble_eq_true rfl) dX1_isHedgedByTwo_28 (by decide)) (fun v12 σ11 H locs hp hw => ?_)
              obtain ⟨p12_0, p12_1, p12_2, p12_3⟩ := hp
              rw [p12_0] at hw
              have frE_101 := fr
              have J_101 : ∀ (σ_101 : oSt) (H : Heap) (locs : List Loc), oI A L τ cy D s.heap σ_101 H locs → oFr τ fs_X1_isHedgedByTwo ts_X1_isHedgedByTwo σ σ_101 → (∀ a, σ_101.1 327 a = σ.1 327 a ∨ σ_101.1 327 a = σ.1 327 b0) → ∀ (ls : Array Slot), lv_has ls 5 [(0, .ref a0), (1, .int a1), (2, .int a2), (3, .int j2_3), (4, .int j13_4)] → W p l e ({ frames := 5, cells := 0, slots := 0, locals := 129 } : Room) s m args below meth c H locs 0 0 Q (F0 m 101 ls []) := by
                intro  σ_101 H locs hw fr    u_101  ls hl
                have fr_101 := fr
                obtain ⟨v13, e13⟩ : ∃ y : Int32, y = j13_4 + 1 := ⟨_, rfl⟩
                have i13 : Iv v13 2 64 := iv_add e13 i8 (⟨by decide, by decide⟩ : Iv 1 1 1) (by decide)
                have x13 : v13.toInt = j13_4.toInt + 1 := ex_add e13 i8 (⟨by decide, by decide⟩ : Iv 1 1 1) (by decide)
                refine lv_iinc (v := v13) (lv' := [(4, .int v13), (0, .ref a0), (1, .int a1), (2, .int a2), (3, .int j2_3)]) hx hb dX1_isHedgedByTwo_101 hl (k := 4) rfl (by rw [e13]; rfl) (by decide) rfl (fun ls hl => ?_)
                refine lv_goto (tgt := 13) hx hb dX1_isHedgedByTwo_104 (by decide) ?_
                exact ih_13 v13 (iv_w i13 (by decide)) σ_101 _ _ hw fr (ms_up x13 (by decide) (iv_w (a' := 1) (b' := 64) i13 (by decide)).2 hn_13) u_101 _ (lv_sub hl [1, 2, 3, 4, 0] rfl)
              refine lv_if_eq (tgt := 101) hx hb dX1_isHedgedByTwo_31 (by decide) (fun c14 => ?_) (fun c14 => ?_)
              · --
                have i15 : Iv v12 0 0 := iv_eq1 c14 p12_1 (⟨by decide, by decide⟩ : Iv 0 0 0) (by decide)
                exact J_101 σ_13 _ _ hw fr u_13 _ (lv_sub hl [0, 1, 2, 3, 4] rfl)
              · --
                have i16 : Iv v12 1 1 := iv_ne1 c14 p12_1 (⟨by decide, by decide⟩ : Iv 0 0 0) (by decide)
                have i17 : Iv j13_4 0 63 := p12_2 c14
                have i18 : Iv j13_4 1 63 := iv_cap i17 i8 (by decide)
                refine lv_aload_n hx hb dX1_isHedgedByTwo_34 rfl (lv_at hl 0 rfl) ?_
                refine g_5 cx hw ha0 k_f_X1_22 dX1_isHedgedByTwo_35 (fun v19 e19 h19 => ?_)
                rw [show v19 = v9 from Option.some.inj (e19.symm.trans (e9))]
                refine lv_iload hx hb dX1_isHedgedByTwo_38 (lv_at hl 4 rfl) ?_
                refine o_lald cx hw h9 (by decide) rfl (iv_in i18 (by decide)) dX1_isHedgedByTwo_40 (fun v20 e20 => ?_)
                refine lv_iload_n hx hb dX1_isHedgedByTwo_41 rfl (lv_at hl 3 rfl) ?_
                refine o_ci hw (oRunS cx hA hw q_X0_has k_m_X1_79 (As := [.long v20, .int j2_3]) (c_X0_has v20 j2_3) (by decide) rfl hl.1 rfl (Nat.le_of_ble_eq_true rfl) dX1_isHedgedByTwo_42 (by decide)) (fun v22 σ21 H locs hp hw => ?_)
                obtain ⟨p22_0, p22_1, p22_2, p22_3⟩ := hp
                rw [p22_0] at hw
                refine lv_if_eq (tgt := 101) hx hb dX1_isHedgedByTwo_45 (by decide) (fun c23 => ?_) (fun c23 => ?_)
                · --
                  have i24 : Iv v22 0 0 := iv_eq1 c23 p22_1 (⟨by decide, by decide⟩ : Iv 0 0 0) (by decide)
                  exact J_101 σ_13 _ _ hw fr u_13 _ (lv_sub hl [0, 1, 2, 3, 4] rfl)
                · --
                  have i25 : Iv v22 1 1 := iv_ne1 c23 p22_1 (⟨by decide, by decide⟩ : Iv 0 0 0) (by decide)
                  have i26 : Iv j2_3 0 63 := p22_2 c23
                  refine lv_aload_n hx hb dX1_isHedgedByTwo_48 rfl (lv_at hl 0 rfl) ?_
                  refine g_1 cx hw ha0 k_f_X1_29 dX1_isHedgedByTwo_49 (fun v27 e27 h27 => ?_)
                  refine lv_iload_n hx hb dX1_isHedgedByTwo_52 rfl (lv_at hl 3 rfl) ?_
                  refine o_ci hw (oRunV cx hA hw q_X2_isPlain k_m_X1_85 rfl h27 (by decide) (As := [.int j2_3]) (c_X2_isPlain v27 h27 j2_3) (by decide) rfl hl.1 rfl (Nat.le_of_ble_eq_true rfl) dX1_isHedgedByTwo_53 (by decide)) (fun v29 σ28 H locs hp hw => ?_)
                  obtain ⟨p29_0, p29_1, p29_2, p29_3⟩ := hp
                  rw [p29_0] at hw
                  refine lv_if_eq (tgt := 101) hx hb dX1_isHedgedByTwo_56 (by decide) (fun c30 => ?_) (fun c30 => ?_)
                  · --
                    have i31 : Iv v29 0 0 := iv_eq1 c30 p29_1 (⟨by decide, by decide⟩ : Iv 0 0 0) (by decide)
                    exact J_101 σ_13 _ _ hw fr u_13 _ (lv_sub hl [0, 1, 2, 3, 4] rfl)
                  · --
                    have i32 : Iv v29 1 1 := iv_ne1 c30 p29_1 (⟨by decide, by decide⟩ : Iv 0 0 0) (by decide)
                    have i33 : Iv j2_3 0 63 := p29_2 c30
                    refine lv_aload_n hx hb dX1_isHedgedByTwo_59 rfl (lv_at hl 0 rfl) ?_
                    refine g_1 cx hw ha0 k_f_X1_29 dX1_isHedgedByTwo_60 (fun v34 e34 h34 => ?_)
                    rw [show v34 = v27 from Option.some.inj (e34.symm.trans (e27))]
                    refine lv_iload hx hb dX1_isHedgedByTwo_63 (lv_at hl 4 rfl) ?_
                    refine o_ci hw (oRunV cx hA hw q_X2_isPlain k_m_X1_85 rfl h27 (by decide) (As := [.int j13_4]) (c_X2_isPlain v27 h27 j13_4) (by decide) rfl hl.1 rfl (Nat.le_of_ble_eq_true rfl) dX1_isHedgedByTwo_65 (by decide)) (fun v36 σ35 H locs hp hw => ?_)
                    obtain ⟨p36_0, p36_1, p36_2, p36_3⟩ := hp
                    rw [p36_0] at hw
                    refine lv_if_eq (tgt := 101) hx hb dX1_isHedgedByTwo_68 (by decide) (fun c37 => ?_) (fun c37 => ?_)
                    · --
                      have i38 : Iv v36 0 0 := iv_eq1 c37 p36_1 (⟨by decide, by decide⟩ : Iv 0 0 0) (by decide)
                      exact J_101 σ_13 _ _ hw fr u_13 _ (lv_sub hl [0, 1, 2, 3, 4] rfl)
                    · --
                      have i39 : Iv v36 1 1 := iv_ne1 c37 p36_1 (⟨by decide, by decide⟩ : Iv 0 0 0) (by decide)
                      have i40 : Iv j13_4 0 63 := p36_2 c37
                      have i41 : Iv j13_4 1 63 := iv_cap i40 i18 (by decide)
                      refine lv_aload_n hx hb dX1_isHedgedByTwo_71 rfl (lv_at hl 0 rfl) ?_
                      refine lv_iload_n hx hb dX1_isHedgedByTwo_72 rfl (lv_at hl 3 rfl) ?_
                      refine lv_iload hx hb dX1_isHedgedByTwo_73 (lv_at hl 4 rfl) ?_
                      refine o_cv hw (oRunV cx hA hw q_X1_beginWithThistles k_m_X1_101 rfl ha0 (by decide) (As := [.int j2_3, .int j13_4]) (c_X1_beginWithThistles a0 ha0 j2_3 (iv_w i33 (by decide)) j13_4 (iv_w i41 (by decide))) (by decide) rfl hl.1 rfl (Nat.le_of_ble_eq_true rfl) dX1_isHedgedByTwo_75 (by decide)) (fun σ42 H locs hp hw => ?_)
                      obtain ⟨p43_0, p43_1⟩ := hp
                      have fr := oFr_tr fr p43_0 (by decide)
                      have wuu44 : ∀ a, σ_13.1 327 a = σ.1 327 a ∨ σ_13.1 327 a = σ.1 327 b0 := u_13
                      have uu44 : ∀ a, σ42.1 327 a = σ.1 327 a ∨ σ42.1 327 a = σ.1 327 b0 := u_tr wuu44 (p43_1 b0 (((kr_c fr_13 (by decide)).trans hF0))) (u_self wuu44)
                      refine lv_aload_n hx hb dX1_isHedgedByTwo_78 rfl (lv_at hl 0 rfl) ?_
                      refine lv_iload_n hx hb dX1_isHedgedByTwo_79 rfl (lv_at hl 1 rfl) ?_
                      refine lv_iload_n hx hb dX1_isHedgedByTwo_80 rfl (lv_at hl 2 rfl) ?_
                      refine o_ci hw (oRunV cx hA hw q_X1_hourOfComing k_m_X1_94 rfl ha0 (by decide) (As := [.int a1, .int a2]) (c_X1_hourOfComing a0 ha0 a1 a2 (iv_w ia2 (by decide))) (by decide) rfl hl.1 rfl (Nat.le_of_ble_eq_true rfl) dX1_isHedgedByTwo_81 (by decide)) (fun v46 σ45 H locs hp hw => ?_)
                      obtain ⟨p46_0, p46_1⟩ := hp
                      have fr := oFr_tr fr p46_0 (by decide)
                      refine lv_iconst (v := (-1)) hx hb dX1_isHedgedByTwo_84 (by decide) ?_
                      refine lv_icmp_ne (tgt := 101) hx hb dX1_isHedgedByTwo_85 (by decide) (fun c47 => ?_) (fun c47 => ?_)
                      · --
                        have i48 : Iv v46 0 100 := iv_ne1 c47 p46_1 (⟨by decide, by decide⟩ : Iv (-1) (-1) (-1)) (by decide)
                        exact J_101 σ45 _ _ hw fr (u_mv uu44 (fun a => ((kp_c p46_0 (by decide)).trans rfl))) _ (lv_sub hl [0, 1, 2, 3, 4] rfl)
                      · --
                        have i49 : Iv v46 (-1) (-1) := iv_eq1 c47 p46_1 (⟨by decide, by decide⟩ : Iv (-1) (-1) (-1)) (by decide)
                        refine lv_aload_n hx hb dX1_isHedgedByTwo_88 rfl (lv_at hl 0 rfl) ?_
                        refine lv_iload_n hx hb dX1_isHedgedByTwo_89 rfl (lv_at hl 3 rfl) ?_
                        refine p_6 cx hw ha0 k_f_X1_98 dX1_isHedgedByTwo_90 (fun σ50 H locs eσ50 hw => ?_)
                        have fr := oFr_i fr eσ50 (by decide)
                        refine lv_aload_n hx hb dX1_isHedgedByTwo_93 rfl (lv_at hl 0 rfl) ?_
                        refine lv_iload hx hb dX1_isHedgedByTwo_94 (lv_at hl 4 rfl) ?_
                        refine p_7 cx hw ha0 k_f_X1_105 dX1_isHedgedByTwo_96 (fun σ51 H locs eσ51 hw => ?_)
                        have fr := oFr_i fr eσ51 (by decide)
                        refine lv_iconst (v := 1) hx hb dX1_isHedgedByTwo_99 (by decide) ?_
                        rw [← hQ]
                        exact o_rz cx rx hw (iv_nz01 (iv_w (⟨by decide, by decide⟩ : Iv 1 1 1) (by decide))) dX1_isHedgedByTwo_100 ⟨fr, (iv_w (⟨by decide, by decide⟩ : Iv 1 1 1) (by decide)), (by intro b hb9; rw [show b = b0 from Option.some.inj (hb9.symm.trans hF0)]; exact (u_mv uu44 (fun a => ((kp_i eσ51 (by decide)).trans ((kp_i eσ50 (by decide)).trans ((kp_c p46_0 (by decide)).trans rfl))))))⟩
        exact J_13 _ v4 i4 σ_2 _ _ hw fr (Nat.lt_succ_self _) u_2 _ (lv_sub hl [1, 2, 3, 4, 0] rfl)
  exact J_2 _ 0 (iv_w (⟨by decide, by decide⟩ : Iv 0 0 0) (by decide)) σ _ _ hw fr (Nat.lt_succ_self _) (fun a => Or.inl (rfl)) _ (lv_sub hl [1, 2, 3, 0] rfl)
set_option maxHeartbeats 4000000 in
set_option maxRecDepth 100000 in
theorem c_X2_gatesIn (a0 : Nat) (ha0 : oA L τ a0 1) (a1 : Int64) : oMet l A L τ cy D K yX2_gatesIn cX2_gatesIn 5 (some .int) 1 22 [.ref a0, .long a1] σ (va_Qi (fun r σ1 => σ1 = σ ∧ Iv r 0 63) (oPo A L τ cy D) A) := by
  refine oMk (by decide) (Nat.le_of_ble_eq_true rfl) rfl ?_
  intro p e s m args below meth c ls cx rx hA hw hl
  generalize hQ : MQ below _ args s 0 0 A = Q
  have hx := cx.1.1
  have hb := cx.1.2.1
  have hml := cx.1.2.2.1
  have hown := cx.1.2.2.2.1
  have hts := cx.1.2.2.2.2
  have hl : lv_has ls 5 [(0, .ref a0), (1, .long a1)] := hl
  refine lv_iconst (v := 0) hx hb dX2_gatesIn_0 (by decide) ?_
  refine lv_istore_n (lv' := [(3, .int 0), (0, .ref a0), (1, .long a1)]) hx hb dX2_gatesIn_1 rfl hl (by decide) rfl (fun ls hl => ?_)
  refine lv_iconst (v := 0) hx hb dX2_gatesIn_2 (by decide) ?_
  refine lv_istore (lv' := [(4, .int 0), (3, .int 0), (0, .ref a0), (1, .long a1)]) hx hb dX2_gatesIn_3 hl (by decide) rfl (fun ls hl => ?_)
  have J_5 : ∀ n5 : Nat, ∀ (j5_3 : Int32) (ij5_3 : Iv j5_3 0 63) (j5_4 : Int32) (ij5_4 : Iv j5_4 0 6), ∀ (H : Heap) (locs : List Loc), oI A L τ cy D s.heap σ H locs → (6 - j5_4.toInt).toNat < n5 → ∀ (ls : Array Slot), lv_has ls 5 [(0, .ref a0), (1, .long a1), (3, .int j5_3), (4, .int j5_4)] → W p l e ({ frames := 1, cells := 0, slots := 0, locals := 22 } : Room) s m args below meth c H locs 0 0 Q (F0 m 5 ls []) := by
    intro n5
    induction n5 with
    | zero => intro j5_3 ij5_3 j5_4 ij5_4 H locs hw  hn_5   ls hl; exact absurd hn_5 (Nat.not_lt_zero _)
    | succ n5 ih_5 =>
      intro j5_3 ij5_3 j5_4 ij5_4 H locs hw  hn_5   ls hl
      refine lv_iload hx hb dX2_gatesIn_5 (lv_at hl 3 rfl) ?_
      refine lv_aload_n hx hb dX2_gatesIn_7 rfl (lv_at hl 0 rfl) ?_
      refine g_66 cx hw ha0 k_f_X2_54 dX2_gatesIn_8 (fun v1 e1 i1 => ?_)
      refine lv_icmp_ge (tgt := 41) hx hb dX2_gatesIn_11 (by decide) (fun c2 => ?_) (fun c2 => ?_)
      · --
        refine lv_iload_n hx hb dX2_gatesIn_41 rfl (lv_at hl 2 rfl) ?_
        rw [← hQ]
        exact o_ri cx rx hw dX2_gatesIn_42 ⟨rfl, (iv_w ij5_3 (by decide))⟩
      · --
        have i3 : Iv j5_4 0 5 := iv_lt1 (iv_nle c2) ij5_4 i1 (by decide)
        have i4 : Iv v1 1 6 := iv_lt2 (iv_nle c2) ij5_4 i1 (by decide)
        refine lv_lload_n hx hb dX2_gatesIn_14 rfl (lv_at hl 1 rfl) ?_
        refine lv_aload_n hx hb dX2_gatesIn_15 rfl (lv_at hl 0 rfl) ?_
        refine g_67 cx hw ha0 k_f_X2_9 dX2_gatesIn_16 (fun v5 e5 h5 => ?_)
        refine lv_iload hx hb dX2_gatesIn_19 (lv_at hl 3 rfl) ?_
        refine o_iald cx hw h5 (by decide) rfl (iv_in i3 (by decide)) dX2_gatesIn_21 (fun v6 e6 b6 => ?_)
        refine o_ci hw (oRunS cx hA hw q_X0_has k_m_X2_86 (As := [.long a1, .int v6]) (c_X0_has a1 v6) (by decide) rfl hl.1 rfl (Nat.le_of_ble_eq_true rfl) dX2_gatesIn_22 (by decide)) (fun v8 σ7 H locs hp hw => ?_)
        obtain ⟨p8_0, p8_1, p8_2, p8_3⟩ := hp
        rw [p8_0] at hw
        have J_35 : ∀ (j35_3 : Int32) (ij35_3 : Iv j35_3 0 63), ∀ (H : Heap) (locs : List Loc), oI A L τ cy D s.heap σ H locs → ∀ (ls : Array Slot), lv_has ls 5 [(0, .ref a0), (1, .long a1), (3, .int j35_3), (4, .int j5_4)] → W p l e ({ frames := 1, cells := 0, slots := 0, locals := 22 } : Room) s m args below meth c H locs 0 0 Q (F0 m 35 ls []) := by
          intro j35_3 ij35_3 H locs hw     ls hl
          obtain ⟨v9, e9⟩ : ∃ y : Int32, y = j5_4 + 1 := ⟨_, rfl⟩
          have i9 : Iv v9 1 6 := iv_add e9 i3 (⟨by decide, by decide⟩ : Iv 1 1 1) (by decide)
          have x9 : v9.toInt = j5_4.toInt + 1 := ex_add e9 i3 (⟨by decide, by decide⟩ : Iv 1 1 1) (by decide)
          refine lv_iinc (v := v9) (lv' := [(4, .int v9), (0, .ref a0), (1, .long a1), (3, .int j35_3)]) hx hb dX2_gatesIn_35 hl (k := 3) rfl (by rw [e9]; rfl) (by decide) rfl (fun ls hl => ?_)
          refine lv_goto (tgt := 5) hx hb dX2_gatesIn_38 (by decide) ?_
          exact ih_5 j35_3 ij35_3 v9 (iv_w i9 (by decide)) _ _ hw (ms_up x9 (by decide) (iv_w (a' := 0) (b' := 6) i9 (by decide)).2 hn_5) _ (lv_sub hl [1, 2, 3, 0] rfl)
        refine lv_if_eq (tgt := 35) hx hb dX2_gatesIn_25 (by decide) (fun c10 => ?_) (fun c10 => ?_)
        · --
          have i11 : Iv v8 0 0 := iv_eq1 c10 p8_1 (⟨by decide, by decide⟩ : Iv 0 0 0) (by decide)
          exact J_35 j5_3 ij5_3 _ _ hw _ (lv_sub hl [0, 1, 2, 3] rfl)
        · --
          have i12 : Iv v8 1 1 := iv_ne1 c10 p8_1 (⟨by decide, by decide⟩ : Iv 0 0 0) (by decide)
          have i13 : Iv v6 0 63 := p8_2 c10
          refine lv_iload_n hx hb dX2_gatesIn_28 rfl (lv_at hl 2 rfl) ?_
          refine lv_iconst (v := 1) hx hb dX2_gatesIn_29 (by decide) ?_
          refine lv_iload hx hb dX2_gatesIn_30 (lv_at hl 3 rfl) ?_
          refine lv_ishl hx hb dX2_gatesIn_32 ?_
          refine lv_topi (fun v14 e14 => ?_)
          have i14 : Iv v14 1 32 := iv_shl1 e14 i3 (by decide)
          refine lv_ior hx hb dX2_gatesIn_33 ?_
          refine lv_topi (fun v15 e15 => ?_)
          have i15 : Iv v15 0 63 := iv_or e15 ij5_3 i14 6 (by decide)
          refine lv_istore_n (lv' := [(3, .int v15), (0, .ref a0), (1, .long a1), (4, .int j5_4)]) hx hb dX2_gatesIn_34 rfl hl (by decide) rfl (fun ls hl => ?_)
          exact J_35 v15 i15 _ _ hw _ (lv_sub hl [1, 2, 0, 3] rfl)
  exact J_5 _ 0 (iv_w (⟨by decide, by decide⟩ : Iv 0 0 0) (by decide)) 0 (iv_w (⟨by decide, by decide⟩ : Iv 0 0 0) (by decide)) _ _ hw (Nat.lt_succ_self _) _ (lv_sub hl [2, 3, 1, 0] rfl)
abbrev fs_X1_isAtWith : List Nat := [327, 328, 329, 330, 331, 517]
abbrev ts_X1_isAtWith : List Nat := [32, 33, 34, 37, 38]
set_option maxHeartbeats 4000000 in
set_option maxRecDepth 100000 in
theorem c_X1_isAtWith (a0 : Nat) (ha0 : oA L τ a0 0) (a1 : Int32) (a2 : Int32) (ia2 : Iv a2 0 5) (a3 : Int32) (a4 : Int32) : oMet l A L τ cy D K yX1_isAtWith cX1_isAtWith 5 (some .boolean) 5 130 [.ref a0, .int a1, .int a2, .int a3, .int a4] σ (va_Qi (fun r σ1 => oFr τ fs_X1_isAtWith ts_X1_isAtWith σ σ1 ∧ Iv r 0 1 ∧ (∀ b, σ.2.2.2.2 0 a0 = some b → ∀ a, σ1.1 327 a = σ.1 327 a ∨ σ1.1 327 a = σ.1 327 b)) (oPo A L τ cy D) A) := by
  refine oMk (by decide) (Nat.le_of_ble_eq_true rfl) rfl ?_
  intro p e s m args below meth c ls cx rx hA hw hl
  generalize hQ : MQ below _ args s 0 0 A = Q
  have hx := cx.1.1
  have hb := cx.1.2.1
  have hml := cx.1.2.2.1
  have hown := cx.1.2.2.2.1
  have hts := cx.1.2.2.2.2
  have hl : lv_has ls 5 [(0, .ref a0), (1, .int a1), (2, .int a2), (3, .int a3), (4, .int a4)] := hl
  have fr : oFr τ fs_X1_isAtWith ts_X1_isAtWith σ σ := oFr_rf
  obtain ⟨b0, hF0, hb0⟩ := hw.2.2.2.2.2 0 a0 5 (by rw [ha0.2]; rfl) ha0.1
  refine lv_aload_n hx hb dX1_isAtWith_0 rfl (lv_at hl 0 rfl) ?_
  refine o_cr hw (oRunV cx hA hw q_X1_begin k_m_X1_46 rfl ha0 (by decide) (As := []) (c_X1_begin a0 ha0) (by decide) rfl hl.1 rfl (Nat.le_of_ble_eq_true rfl) dX1_isAtWith_1 (by decide)) (fun v2 σ1 H locs hp hw => ?_)
  obtain ⟨p2_0, p2_1, p2_2⟩ := hp
  have fr := oFr_tr fr p2_0 (by decide)
  have wuu3 : ∀ a, σ.1 327 a = σ.1 327 a ∨ σ.1 327 a = σ.1 327 b0 := (fun a => Or.inl (rfl))
  have uu3 : ∀ a, σ1.1 327 a = σ.1 327 a ∨ σ1.1 327 a = σ.1 327 b0 := u_tr wuu3 (p2_2 b0 (hF0)) (u_self wuu3)
  refine lv_pop hx hb dX1_isAtWith_4 rfl ?_
  refine lv_aload_n hx hb dX1_isAtWith_5 rfl (lv_at hl 0 rfl) ?_
  refine g_3 cx hw ha0 k_f_X1_12 dX1_isAtWith_6 (fun v4 e4 h4 => ?_)
  refine lv_iload_n hx hb dX1_isAtWith_9 rfl (lv_at hl 1 rfl) ?_
  refine p_330 cx hw h4 k_f_X1_71 dX1_isAtWith_10 (fun σ5 H locs eσ5 hw => ?_)
  have fr := oFr_i fr eσ5 (by decide)
  refine lv_aload_n hx hb dX1_isAtWith_13 rfl (lv_at hl 0 rfl) ?_
  refine g_2 cx hw ha0 k_f_X1_33 dX1_isAtWith_14 (fun v6 e6 h6 => ?_)
  refine lv_aload_n hx hb dX1_isAtWith_17 rfl (lv_at hl 0 rfl) ?_
  refine g_3 cx hw ha0 k_f_X1_12 dX1_isAtWith_18 (fun v7 e7 h7 => ?_)
  rw [show v7 = v4 from Option.some.inj (e7.symm.trans (((kr_i eσ5).trans e4)))]
  refine lv_iload hx hb dX1_isAtWith_21 (lv_at hl 4 rfl) ?_
  refine o_ci hw (oRunV cx hA hw q_X9_passMany k_m_X1_50 rfl h6 (by decide) (As := [.ref v4, .int a4]) (c_X9_passMany v6 h6 v4 h4 a4) (by decide) rfl hl.1 rfl (Nat.le_of_ble_eq_true rfl) dX1_isAtWith_23 (by decide)) (fun v9 σ8 H locs hp hw => ?_)
  have p9_0 := hp
  have fr := oFr_tr fr p9_0 (by decide)
  refine lv_pop hx hb dX1_isAtWith_26 rfl ?_
  refine lv_aload_n hx hb dX1_isAtWith_27 rfl (lv_at hl 0 rfl) ?_
  refine g_3 cx hw ha0 k_f_X1_12 dX1_isAtWith_28 (fun v10 e10 h10 => ?_)
  rw [show v10 = v4 from Option.some.inj (e10.symm.trans (((kr_c p9_0 (by decide)).trans ((kr_i eσ5).trans e4))))]
  refine g_325 cx hw h4 k_f_X1_68 dX1_isAtWith_31 (fun v11 e11 h11 => ?_)
  refine lv_iload_n hx hb dX1_isAtWith_34 rfl (lv_at hl 2 rfl) ?_
  refine o_iald cx hw h11 (by decide) rfl (iv_in ia2 (by decide)) dX1_isAtWith_35 (fun v12 e12 b12 => ?_)
  have i12 : Iv v12 0 63 := b12
  refine lv_iload_n hx hb dX1_isAtWith_36 rfl (lv_at hl 3 rfl) ?_
  refine lv_icmp_ne (tgt := 44) hx hb dX1_isAtWith_37 (by decide) (fun c13 => ?_) (fun c13 => ?_)
  · --
    refine lv_iconst (v := 0) hx hb dX1_isAtWith_44 (by decide) ?_
    rw [← hQ]
    exact o_rz cx rx hw (iv_nz01 (iv_w (⟨by decide, by decide⟩ : Iv 0 0 0) (by decide))) dX1_isAtWith_45 ⟨fr, (iv_w (⟨by decide, by decide⟩ : Iv 0 0 0) (by decide)), (by intro b hb9; rw [show b = b0 from Option.some.inj (hb9.symm.trans hF0)]; exact (u_mv uu3 (fun a => ((kp_c p9_0 (by decide)).trans ((kp_i eσ5 (by decide)).trans rfl)))))⟩
  · --
    have i14 : Iv a3 0 63 := iv_eq1 (Eq.symm c13) (iv_top a3) i12 (by decide)
    refine lv_iconst (v := 1) hx hb dX1_isAtWith_40 (by decide) ?_
    refine lv_goto (tgt := 45) hx hb dX1_isAtWith_41 (by decide) ?_
    rw [← hQ]
    exact o_rz cx rx hw (iv_nz01 (iv_w (⟨by decide, by decide⟩ : Iv 1 1 1) (by decide))) dX1_isAtWith_45 ⟨fr, (iv_w (⟨by decide, by decide⟩ : Iv 1 1 1) (by decide)), (by intro b hb9; rw [show b = b0 from Option.some.inj (hb9.symm.trans hF0)]; exact (u_mv uu3 (fun a => ((kp_c p9_0 (by decide)).trans ((kp_i eσ5 (by decide)).trans rfl)))))⟩
end OM
