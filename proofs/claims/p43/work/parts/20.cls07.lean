section OM
variable {l : Launch} {A : Nat → Prop} {L : List Nat} {τ : Nat → Nat} {cy : Nat → ClassId} {D : va_G} {K : (Nat → Nat) × (Nat → Nat)} {σ : oSt}
abbrev fs_J7_fill_d0a16 : List Nat := []
abbrev ts_J7_fill_d0a16 : List Nat := [39]
set_option maxHeartbeats 4000000 in
set_option maxRecDepth 100000 in
theorem c_J7_fill_d0a16 (a0 : Nat) (ha0 : oA L τ a0 39) (a1 : Int64) : oMet l A L τ cy D K yJ7_fill_d0a16 cJ7_fill_d0a16 5 none 0 0 [.ref a0, .long a1] σ (va_Qv (fun σ1 => oFr τ fs_J7_fill_d0a16 ts_J7_fill_d0a16 σ σ1) (oPo A L τ cy D) A) := by
  refine oMk (by decide) (Nat.le_of_ble_eq_true rfl) rfl ?_
  intro p e s m args below meth c ls cx rx hA hw hl
  generalize hQ : MQ below _ args s 0 0 A = Q
  have hx := cx.1.1
  have hb := cx.1.2.1
  have hml := cx.1.2.2.1
  have hown := cx.1.2.2.2.1
  have hts := cx.1.2.2.2.2
  have hl : lv_has ls 5 [(0, .ref a0), (1, .long a1)] := hl
  have fr : oFr τ fs_J7_fill_d0a16 ts_J7_fill_d0a16 σ σ := oFr_rf
  refine lv_iconst (v := 0) hx hb dJ7_fill_d0a16_0 (by decide) ?_
  refine lv_istore_n (lv' := [(3, .int 0), (0, .ref a0), (1, .long a1)]) hx hb dJ7_fill_d0a16_1 rfl hl (by decide) rfl (fun ls hl => ?_)
  refine lv_aload_n hx hb dJ7_fill_d0a16_2 rfl (lv_at hl 1 rfl) ?_
  refine o_alenl (v := 64) cx hw ha0 (by decide) rfl (by decide) dJ7_fill_d0a16_3 ?_
  refine lv_istore (lv' := [(4, .int 64), (3, .int 0), (0, .ref a0), (1, .long a1)]) hx hb dJ7_fill_d0a16_4 hl (by decide) rfl (fun ls hl => ?_)
  have frE_6 := fr
  have J_6 : ∀ n6 : Nat, ∀ (j6_3 : Int32) (ij6_3 : Iv j6_3 0 2147483647), ∀ (σ_6 : oSt) (H : Heap) (locs : List Loc), oI A L τ cy D s.heap σ_6 H locs → oFr τ fs_J7_fill_d0a16 ts_J7_fill_d0a16 σ σ_6 → (2147483647 - j6_3.toInt).toNat < n6 → ∀ (ls : Array Slot), lv_has ls 5 [(0, .ref a0), (1, .long a1), (3, .int j6_3), (4, .int 64)] → W p l e ({ frames := 0, cells := 0, slots := 0, locals := 0 } : Room) s m args below meth c H locs 0 0 Q (F0 m 6 ls []) := by
    intro n6
    induction n6 with
    | zero => intro j6_3 ij6_3 σ_6 H locs hw fr   hn_6   ls hl; exact absurd hn_6 (Nat.not_lt_zero _)
    | succ n6 ih_6 =>
      intro j6_3 ij6_3 σ_6 H locs hw fr   hn_6   ls hl
      have fr_6 := fr
      refine lv_iload_n hx hb dJ7_fill_d0a16_6 rfl (lv_at hl 2 rfl) ?_
      refine lv_iload hx hb dJ7_fill_d0a16_7 (lv_at hl 3 rfl) ?_
      refine lv_icmp_ge (tgt := 22) hx hb dJ7_fill_d0a16_9 (by decide) (fun c1 => ?_) (fun c1 => ?_)
      · --
        have i2 : Iv j6_3 64 2147483647 := iv_le2 c1 (⟨by decide, by decide⟩ : Iv 64 64 64) ij6_3 (by decide)
        rw [← hQ]
        exact o_rv cx rx hw dJ7_fill_d0a16_22 fr
      · --
        have i3 : Iv j6_3 0 63 := iv_lt1 (iv_nle c1) ij6_3 (⟨by decide, by decide⟩ : Iv 64 64 64) (by decide)
        refine lv_aload_n hx hb dJ7_fill_d0a16_12 rfl (lv_at hl 0 rfl) ?_
        refine lv_iload_n hx hb dJ7_fill_d0a16_13 rfl (lv_at hl 2 rfl) ?_
        refine lv_lload_n hx hb dJ7_fill_d0a16_14 rfl (lv_at hl 1 rfl) ?_
        refine o_last cx hw ha0 (by decide) rfl (iv_in i3 (by decide)) dJ7_fill_d0a16_15 (fun σ4 H locs eσ4 hw => ?_)
        have fr := oFr_q fr eσ4 ha0 (by decide)
        obtain ⟨v5, e5⟩ : ∃ y : Int32, y = j6_3 + 1 := ⟨_, rfl⟩
        have i5 : Iv v5 1 64 := iv_add e5 i3 (⟨by decide, by decide⟩ : Iv 1 1 1) (by decide)
        have x5 : v5.toInt = j6_3.toInt + 1 := ex_add e5 i3 (⟨by decide, by decide⟩ : Iv 1 1 1) (by decide)
        refine lv_iinc (v := v5) (lv' := [(3, .int v5), (0, .ref a0), (1, .long a1), (4, .int 64)]) hx hb dJ7_fill_d0a16_16 hl (k := 2) rfl (by rw [e5]; rfl) (by decide) rfl (fun ls hl => ?_)
        refine lv_goto (tgt := 6) hx hb dJ7_fill_d0a16_19 (by decide) ?_
        exact ih_6 v5 (iv_w i5 (by decide)) σ4 _ _ hw fr (ms_up x5 (by decide) (iv_w (a' := 0) (b' := 2147483647) i5 (by decide)).2 hn_6) _ (lv_sub hl [1, 2, 0, 3] rfl)
  exact J_6 _ 0 (iv_w (⟨by decide, by decide⟩ : Iv 0 0 0) (by decide)) σ _ _ hw fr (Nat.lt_succ_self _) _ (lv_sub hl [2, 3, 1, 0] rfl)
set_option maxHeartbeats 4000000 in
set_option maxRecDepth 100000 in
theorem c_X8_sumBeside (a0 : Nat) (ha0 : oA L τ a0 7) (a1 : Int32) (ia1 : Iv a1 0 63) : oMet l A L τ cy D K yX8_sumBeside cX8_sumBeside 6 (some .long) 1 60 [.ref a0, .int a1] σ (va_Ql (fun r σ1 => σ1 = σ) (oPo A L τ cy D) A) := by
  refine oMk (by decide) (Nat.le_of_ble_eq_true rfl) rfl ?_
  intro p e s m args below meth c ls cx rx hA hw hl
  generalize hQ : MQ below _ args s 0 0 A = Q
  have hx := cx.1.1
  have hb := cx.1.2.1
  have hml := cx.1.2.2.1
  have hown := cx.1.2.2.2.1
  have hts := cx.1.2.2.2.2
  have hl : lv_has ls 6 [(0, .ref a0), (1, .int a1)] := hl
  refine lv_lconst (v := 0) hx hb dX8_sumBeside_0 (by decide) ?_
  refine lv_lstore_n (lv' := [(2, .long 0), (0, .ref a0), (1, .int a1)]) hx hb dX8_sumBeside_1 rfl hl (by decide) rfl (fun ls hl => ?_)
  refine lv_iconst (v := 0) hx hb dX8_sumBeside_2 (by decide) ?_
  refine lv_istore (lv' := [(4, .int 0), (2, .long 0), (0, .ref a0), (1, .int a1)]) hx hb dX8_sumBeside_3 hl (by decide) rfl (fun ls hl => ?_)
  have J_5 : ∀ n5 : Nat, ∀ (j5_2 : Int64) (j5_4 : Int32) (ij5_4 : Iv j5_4 0 4), ∀ (H : Heap) (locs : List Loc), oI A L τ cy D s.heap σ H locs → (4 - j5_4.toInt).toNat < n5 → ∀ (ls : Array Slot), lv_has ls 6 [(0, .ref a0), (1, .int a1), (2, .long j5_2), (4, .int j5_4)] → W p l e ({ frames := 1, cells := 0, slots := 0, locals := 60 } : Room) s m args below meth c H locs 0 0 Q (F0 m 5 ls []) := by
    intro n5
    induction n5 with
    | zero => intro j5_2 j5_4 ij5_4 H locs hw  hn_5   ls hl; exact absurd hn_5 (Nat.not_lt_zero _)
    | succ n5 ih_5 =>
      intro j5_2 j5_4 ij5_4 H locs hw  hn_5   ls hl
      refine lv_iload hx hb dX8_sumBeside_5 (lv_at hl 3 rfl) ?_
      refine lv_iconst (v := 3) hx hb dX8_sumBeside_7 (by decide) ?_
      refine lv_icmp_gt (tgt := 45) hx hb dX8_sumBeside_8 (by decide) (fun c1 => ?_) (fun c1 => ?_)
      · --
        have i2 : Iv j5_4 4 4 := iv_lt2 c1 (⟨by decide, by decide⟩ : Iv 3 3 3) ij5_4 (by decide)
        refine lv_ldc2 (v := 1000000) hx hb hown (hts _ k_k_X8_60) dX8_sumBeside_45 ?_
        refine lv_lload_n hx hb dX8_sumBeside_48 rfl (lv_at hl 2 rfl) ?_
        refine va_mmin_long hx hb (hml.trans hl.1.symm) hown (hts _ k_m_X8_62) (hts _ k_s_J9_min_f86c9) (hts _ k_i_J9) (hts _ k_code_J9_min_f86c9) (by decide) (Nat.le_of_ble_eq_true rfl) (by decide) (by decide) dX8_sumBeside_49 ?_
        refine lv_topl (fun v3 e3 => ?_)
        rw [← hQ]
        exact o_rl cx rx hw dX8_sumBeside_52 rfl
      · --
        have i4 : Iv j5_4 0 3 := iv_le1 (iv_nlt c1) ij5_4 (⟨by decide, by decide⟩ : Iv 3 3 3) (by decide)
        refine lv_iload_n hx hb dX8_sumBeside_11 rfl (lv_at hl 1 rfl) ?_
        refine lv_iload hx hb dX8_sumBeside_12 (lv_at hl 3 rfl) ?_
        refine o_ci hw (oRunS cx hA hw q_X0_next k_m_X8_56 (As := [.int a1, .int j5_4]) (c_X0_next a1 (iv_w ia1 (by decide)) j5_4) (by decide) rfl hl.1 rfl (Nat.le_of_ble_eq_true rfl) dX8_sumBeside_14 (by decide)) (fun v6 σ5 H locs hp hw => ?_)
        obtain ⟨p6_0, p6_1⟩ := hp
        rw [p6_0] at hw
        refine lv_istore (lv' := [(5, .int v6), (0, .ref a0), (1, .int a1), (2, .long j5_2), (4, .int j5_4)]) hx hb dX8_sumBeside_17 hl (by decide) rfl (fun ls hl => ?_)
        refine lv_lload_n hx hb dX8_sumBeside_19 rfl (lv_at hl 3 rfl) ?_
        refine lv_iload hx hb dX8_sumBeside_20 (lv_at hl 0 rfl) ?_
        refine lv_iconst (v := (-1)) hx hb dX8_sumBeside_22 (by decide) ?_
        have J_37 : ∀ (k37_1 : Int64), ∀ (H : Heap) (locs : List Loc), oI A L τ cy D s.heap σ H locs → ∀ (ls : Array Slot), lv_has ls 6 [(0, .ref a0), (1, .int a1), (2, .long j5_2), (4, .int j5_4), (5, .int v6)] → W p l e ({ frames := 1, cells := 0, slots := 0, locals := 60 } : Room) s m args below meth c H locs 0 0 Q (F0 m 37 ls [.long k37_1, .long j5_2]) := by
          intro k37_1 H locs hw     ls hl
          refine lv_ladd hx hb dX8_sumBeside_37 ?_
          refine lv_topl (fun v7 e7 => ?_)
          refine lv_lstore_n (lv' := [(2, .long v7), (0, .ref a0), (1, .int a1), (4, .int j5_4), (5, .int v6)]) hx hb dX8_sumBeside_38 rfl hl (by decide) rfl (fun ls hl => ?_)
          obtain ⟨v8, e8⟩ : ∃ y : Int32, y = j5_4 + 1 := ⟨_, rfl⟩
          have i8 : Iv v8 1 4 := iv_add e8 i4 (⟨by decide, by decide⟩ : Iv 1 1 1) (by decide)
          have x8 : v8.toInt = j5_4.toInt + 1 := ex_add e8 i4 (⟨by decide, by decide⟩ : Iv 1 1 1) (by decide)
          refine lv_iinc (v := v8) (lv' := [(4, .int v8), (2, .long v7), (0, .ref a0), (1, .int a1), (5, .int v6)]) hx hb dX8_sumBeside_39 hl (k := 3) rfl (by rw [e8]; rfl) (by decide) rfl (fun ls hl => ?_)
          refine lv_goto (tgt := 5) hx hb dX8_sumBeside_42 (by decide) ?_
          exact ih_5 v7 v8 (iv_w i8 (by decide)) _ _ hw (ms_up x8 (by decide) (iv_w (a' := 0) (b' := 4) i8 (by decide)).2 hn_5) _ (lv_sub hl [2, 3, 1, 0] rfl)
        refine lv_icmp_ne (tgt := 30) hx hb dX8_sumBeside_23 (by decide) (fun c9 => ?_) (fun c9 => ?_)
        · --
          have i10 : Iv v6 0 63 := iv_ne1 c9 p6_1 (⟨by decide, by decide⟩ : Iv (-1) (-1) (-1)) (by decide)
          refine lv_aload_n hx hb dX8_sumBeside_30 rfl (lv_at hl 1 rfl) ?_
          refine g_449 cx hw ha0 k_f_X8_15 dX8_sumBeside_31 (fun v11 e11 h11 => ?_)
          refine lv_iload hx hb dX8_sumBeside_34 (lv_at hl 0 rfl) ?_
          refine o_lald cx hw h11 (by decide) rfl (iv_in i10 (by decide)) dX8_sumBeside_36 (fun v12 e12 => ?_)
          exact J_37 v12 _ _ hw _ (lv_sub hl [1, 2, 3, 4, 0] rfl)
        · --
          have i13 : Iv v6 (-1) (-1) := iv_eq1 c9 p6_1 (⟨by decide, by decide⟩ : Iv (-1) (-1) (-1)) (by decide)
          refine lv_lconst (v := 0) hx hb dX8_sumBeside_26 (by decide) ?_
          refine lv_goto (tgt := 37) hx hb dX8_sumBeside_27 (by decide) ?_
          exact J_37 0 _ _ hw _ (lv_sub hl [1, 2, 3, 4, 0] rfl)
  exact J_5 _ 0 0 (iv_w (⟨by decide, by decide⟩ : Iv 0 0 0) (by decide)) _ _ hw (Nat.lt_succ_self _) _ (lv_sub hl [2, 3, 1, 0] rfl)
abbrev fs_X8_countWays : List Nat := []
abbrev ts_X8_countWays : List Nat := [39]
set_option maxHeartbeats 4000000 in
set_option maxRecDepth 100000 in
theorem c_X8_countWays (a0 : Nat) (ha0 : oA L τ a0 7) (a1 : Int64) (a2 : Int32) (a3 : Int32) : oMet l A L τ cy D K yX8_countWays cX8_countWays 7 none 2 85 [.ref a0, .long a1, .int a2, .int a3] σ (va_Qv (fun σ1 => oFr τ fs_X8_countWays ts_X8_countWays σ σ1) (oPo A L τ cy D) A) := by
  refine oMk (by decide) (Nat.le_of_ble_eq_true rfl) rfl ?_
  intro p e s m args below meth c ls cx rx hA hw hl
  generalize hQ : MQ below _ args s 0 0 A = Q
  have hx := cx.1.1
  have hb := cx.1.2.1
  have hml := cx.1.2.2.1
  have hown := cx.1.2.2.2.1
  have hts := cx.1.2.2.2.2
  have hl : lv_has ls 7 [(0, .ref a0), (1, .long a1), (3, .int a2), (4, .int a3)] := hl
  have fr : oFr τ fs_X8_countWays ts_X8_countWays σ σ := oFr_rf
  refine lv_aload_n hx hb dX8_countWays_0 rfl (lv_at hl 0 rfl) ?_
  refine g_449 cx hw ha0 k_f_X8_15 dX8_countWays_1 (fun v1 e1 h1 => ?_)
  refine lv_lconst (v := 0) hx hb dX8_countWays_4 (by decide) ?_
  refine o_cv hw (oRunS cx hA hw q_J7_fill_d0a16 k_m_X8_44 (As := [.ref v1, .long 0]) (c_J7_fill_d0a16 v1 h1 0) (by decide) rfl hl.1 rfl (Nat.le_of_ble_eq_true rfl) dX8_countWays_5 (by decide)) (fun σ2 H locs hp hw => ?_)
  have p3_0 := hp
  have fr := oFr_tr fr p3_0 (by decide)
  refine lv_lload_n hx hb dX8_countWays_8 rfl (lv_at hl 1 rfl) ?_
  refine lv_iload_n hx hb dX8_countWays_9 rfl (lv_at hl 2 rfl) ?_
  refine o_ci hw (oRunS cx hA hw q_X0_has k_m_X8_28 (As := [.long a1, .int a2]) (c_X0_has a1 a2) (by decide) rfl hl.1 rfl (Nat.le_of_ble_eq_true rfl) dX8_countWays_10 (by decide)) (fun v5 σ4 H locs hp hw => ?_)
  obtain ⟨p5_0, p5_1, p5_2, p5_3⟩ := hp
  rw [p5_0] at hw
  have frE_23 := fr
  have J_23 : ∀ (σ_23 : oSt) (H : Heap) (locs : List Loc), oI A L τ cy D s.heap σ_23 H locs → oFr τ fs_X8_countWays ts_X8_countWays σ σ_23 → ∀ (ls : Array Slot), lv_has ls 7 [(0, .ref a0), (1, .long a1), (3, .int a2), (4, .int a3)] → W p l e ({ frames := 2, cells := 0, slots := 0, locals := 85 } : Room) s m args below meth c H locs 0 0 Q (F0 m 23 ls []) := by
    intro  σ_23 H locs hw fr      ls hl
    have fr_23 := fr
    refine lv_iconst (v := 0) hx hb dX8_countWays_23 (by decide) ?_
    refine lv_istore (lv' := [(5, .int 0), (0, .ref a0), (1, .long a1), (3, .int a2), (4, .int a3)]) hx hb dX8_countWays_24 hl (by decide) rfl (fun ls hl => ?_)
    have frE_26 := fr
    have J_26 : ∀ n26 : Nat, ∀ (j26_5 : Int32) (ij26_5 : Iv j26_5 0 2147483647), ∀ (σ_26 : oSt) (H : Heap) (locs : List Loc), oI A L τ cy D s.heap σ_26 H locs → oFr τ fs_X8_countWays ts_X8_countWays σ σ_26 → (2147483647 - j26_5.toInt).toNat < n26 → ∀ (ls : Array Slot), lv_has ls 7 [(0, .ref a0), (1, .long a1), (3, .int a2), (4, .int a3), (5, .int j26_5)] → W p l e ({ frames := 2, cells := 0, slots := 0, locals := 85 } : Room) s m args below meth c H locs 0 0 Q (F0 m 26 ls []) := by
      intro n26
      induction n26 with
      | zero => intro j26_5 ij26_5 σ_26 H locs hw fr   hn_26   ls hl; exact absurd hn_26 (Nat.not_lt_zero _)
      | succ n26 ih_26 =>
        intro j26_5 ij26_5 σ_26 H locs hw fr   hn_26   ls hl
        have fr_26 := fr
        refine lv_iload hx hb dX8_countWays_26 (lv_at hl 4 rfl) ?_
        refine lv_iload hx hb dX8_countWays_28 (lv_at hl 3 rfl) ?_
        refine lv_icmp_ge (tgt := 96) hx hb dX8_countWays_30 (by decide) (fun c6 => ?_) (fun c6 => ?_)
        · --
          rw [← hQ]
          exact o_rv cx rx hw dX8_countWays_96 fr
        · --
          have i7 : Iv j26_5 0 2147483646 := iv_lt1 (iv_nle c6) ij26_5 (iv_top a3) (by decide)
          have i8 : Iv a3 1 2147483647 := iv_lt2 (iv_nle c6) ij26_5 (iv_top a3) (by decide)
          refine lv_iconst (v := 0) hx hb dX8_countWays_33 (by decide) ?_
          refine lv_istore (lv' := [(6, .int 0), (0, .ref a0), (1, .long a1), (3, .int a2), (4, .int a3), (5, .int j26_5)]) hx hb dX8_countWays_34 hl (by decide) rfl (fun ls hl => ?_)
          have frE_36 := fr
          have J_36 : ∀ n36 : Nat, ∀ (j36_6 : Int32) (ij36_6 : Iv j36_6 0 64), ∀ (σ_36 : oSt) (H : Heap) (locs : List Loc), oI A L τ cy D s.heap σ_36 H locs → oFr τ fs_X8_countWays ts_X8_countWays σ σ_36 → (64 - j36_6.toInt).toNat < n36 → ∀ (ls : Array Slot), lv_has ls 7 [(0, .ref a0), (1, .long a1), (3, .int a2), (4, .int a3), (5, .int j26_5), (6, .int j36_6)] → W p l e ({ frames := 2, cells := 0, slots := 0, locals := 85 } : Room) s m args below meth c H locs 0 0 Q (F0 m 36 ls []) := by
            intro n36
            induction n36 with
            | zero => intro j36_6 ij36_6 σ_36 H locs hw fr   hn_36   ls hl; exact absurd hn_36 (Nat.not_lt_zero _)
            | succ n36 ih_36 =>
              intro j36_6 ij36_6 σ_36 H locs hw fr   hn_36   ls hl
              have fr_36 := fr
              refine lv_iload hx hb dX8_countWays_36 (lv_at hl 5 rfl) ?_
              refine lv_bipush (v := 64) hx hb dX8_countWays_38 (by decide) ?_
              refine lv_icmp_ge (tgt := 75) hx hb dX8_countWays_40 (by decide) (fun c9 => ?_) (fun c9 => ?_)
              · --
                have i10 : Iv j36_6 64 64 := iv_le2 c9 (⟨by decide, by decide⟩ : Iv 64 64 64) ij36_6 (by decide)
                refine lv_aload_n hx hb dX8_countWays_75 rfl (lv_at hl 0 rfl) ?_
                refine g_450 cx hw ha0 k_f_X8_19 dX8_countWays_76 (fun v11 e11 h11 => ?_)
                refine lv_iconst (v := 0) hx hb dX8_countWays_79 (by decide) ?_
                refine lv_aload_n hx hb dX8_countWays_80 rfl (lv_at hl 0 rfl) ?_
                refine g_449 cx hw ha0 k_f_X8_15 dX8_countWays_81 (fun v12 e12 h12 => ?_)
                rw [show v12 = v1 from Option.some.inj (e12.symm.trans (((kr_c fr_36 (by decide)).trans ((kr_c frE_36 (by decide)).symm.trans (((kr_c fr_26 (by decide)).trans ((kr_c frE_26 (by decide)).symm.trans (((kr_c fr_23 (by decide)).trans ((kr_c frE_23 (by decide)).symm.trans (((kr_c p3_0 (by decide)).trans e1))))))))))))]
                refine lv_iconst (v := 0) hx hb dX8_countWays_84 (by decide) ?_
                refine lv_bipush (v := 64) hx hb dX8_countWays_85 (by decide) ?_
                refine o_copyl cx hw h11 h1 (by decide) rfl (by decide) k_m_X8_50 hl.1 (by decide) (Nat.le_of_ble_eq_true rfl) dX8_countWays_87 (fun σ13 H locs eσ13 hw => ?_)
                have fr := oFr_q fr eσ13 h1 (by decide)
                obtain ⟨v14, e14⟩ : ∃ y : Int32, y = j26_5 + 1 := ⟨_, rfl⟩
                have i14 : Iv v14 1 2147483647 := iv_add e14 i7 (⟨by decide, by decide⟩ : Iv 1 1 1) (by decide)
                have x14 : v14.toInt = j26_5.toInt + 1 := ex_add e14 i7 (⟨by decide, by decide⟩ : Iv 1 1 1) (by decide)
                refine lv_iinc (v := v14) (lv' := [(5, .int v14), (0, .ref a0), (1, .long a1), (3, .int a2), (4, .int a3), (6, .int j36_6)]) hx hb dX8_countWays_90 hl (k := 4) rfl (by rw [e14]; rfl) (by decide) rfl (fun ls hl => ?_)
                refine lv_goto (tgt := 26) hx hb dX8_countWays_93 (by decide) ?_
                exact ih_26 v14 (iv_w i14 (by decide)) σ13 _ _ hw fr (ms_up x14 (by decide) (iv_w (a' := 0) (b' := 2147483647) i14 (by decide)).2 hn_26) _ (lv_sub hl [1, 2, 3, 4, 0] rfl)
              · --
                have i15 : Iv j36_6 0 63 := iv_lt1 (iv_nle c9) ij36_6 (⟨by decide, by decide⟩ : Iv 64 64 64) (by decide)
                refine lv_aload_n hx hb dX8_countWays_43 rfl (lv_at hl 0 rfl) ?_
                refine g_450 cx hw ha0 k_f_X8_19 dX8_countWays_44 (fun v16 e16 h16 => ?_)
                refine lv_iload hx hb dX8_countWays_47 (lv_at hl 5 rfl) ?_
                refine lv_lload_n hx hb dX8_countWays_49 rfl (lv_at hl 1 rfl) ?_
                refine lv_iload hx hb dX8_countWays_50 (lv_at hl 5 rfl) ?_
                refine o_ci hw (oRunS cx hA hw q_X0_has k_m_X8_28 (As := [.long a1, .int j36_6]) (c_X0_has a1 j36_6) (by decide) rfl hl.1 rfl (Nat.le_of_ble_eq_true rfl) dX8_countWays_52 (by decide)) (fun v18 σ17 H locs hp hw => ?_)
                obtain ⟨p18_0, p18_1, p18_2, p18_3⟩ := hp
                rw [p18_0] at hw
                have J_68 : ∀ (k68_2 : Int64), ∀ (H : Heap) (locs : List Loc), oI A L τ cy D s.heap σ_36 H locs → ∀ (ls : Array Slot), lv_has ls 7 [(0, .ref a0), (1, .long a1), (3, .int a2), (4, .int a3), (5, .int j26_5), (6, .int j36_6)] → W p l e ({ frames := 2, cells := 0, slots := 0, locals := 85 } : Room) s m args below meth c H locs 0 0 Q (F0 m 68 ls [.long k68_2, .int j36_6, .ref v16]) := by
                  intro k68_2 H locs hw     ls hl
                  refine o_last cx hw h16 (by decide) rfl (iv_in i15 (by decide)) dX8_countWays_68 (fun σ19 H locs eσ19 hw => ?_)
                  have fr := oFr_q fr eσ19 h16 (by decide)
                  obtain ⟨v20, e20⟩ : ∃ y : Int32, y = j36_6 + 1 := ⟨_, rfl⟩
                  have i20 : Iv v20 1 64 := iv_add e20 i15 (⟨by decide, by decide⟩ : Iv 1 1 1) (by decide)
                  have x20 : v20.toInt = j36_6.toInt + 1 := ex_add e20 i15 (⟨by decide, by decide⟩ : Iv 1 1 1) (by decide)
                  refine lv_iinc (v := v20) (lv' := [(6, .int v20), (0, .ref a0), (1, .long a1), (3, .int a2), (4, .int a3), (5, .int j26_5)]) hx hb dX8_countWays_69 hl (k := 5) rfl (by rw [e20]; rfl) (by decide) rfl (fun ls hl => ?_)
                  refine lv_goto (tgt := 36) hx hb dX8_countWays_72 (by decide) ?_
                  exact ih_36 v20 (iv_w i20 (by decide)) σ19 _ _ hw fr (ms_up x20 (by decide) (iv_w (a' := 0) (b' := 64) i20 (by decide)).2 hn_36) _ (lv_sub hl [1, 2, 3, 4, 5, 0] rfl)
                refine lv_if_eq (tgt := 67) hx hb dX8_countWays_55 (by decide) (fun c21 => ?_) (fun c21 => ?_)
                · --
                  have i22 : Iv v18 0 0 := iv_eq1 c21 p18_1 (⟨by decide, by decide⟩ : Iv 0 0 0) (by decide)
                  refine lv_lconst (v := 0) hx hb dX8_countWays_67 (by decide) ?_
                  exact J_68 0 _ _ hw _ (lv_sub hl [0, 1, 2, 3, 4, 5] rfl)
                · --
                  have i23 : Iv v18 1 1 := iv_ne1 c21 p18_1 (⟨by decide, by decide⟩ : Iv 0 0 0) (by decide)
                  have i24 : Iv j36_6 0 63 := p18_2 c21
                  refine lv_aload_n hx hb dX8_countWays_58 rfl (lv_at hl 0 rfl) ?_
                  refine lv_iload hx hb dX8_countWays_59 (lv_at hl 5 rfl) ?_
                  refine o_cl hw (oRunV cx hA hw q_X8_sumBeside k_m_X8_47 rfl ha0 (by decide) (As := [.int j36_6]) (c_X8_sumBeside a0 ha0 j36_6 (iv_w i24 (by decide))) (by decide) rfl hl.1 rfl (Nat.le_of_ble_eq_true rfl) dX8_countWays_61 (by decide)) (fun v26 σ25 H locs hp hw => ?_)
                  have p26_0 := hp
                  rw [p26_0] at hw
                  refine lv_goto (tgt := 68) hx hb dX8_countWays_64 (by decide) ?_
                  exact J_68 v26 _ _ hw _ (lv_sub hl [0, 1, 2, 3, 4, 5] rfl)
          exact J_36 _ 0 (iv_w (⟨by decide, by decide⟩ : Iv 0 0 0) (by decide)) σ_26 _ _ hw fr (Nat.lt_succ_self _) _ (lv_sub hl [1, 2, 3, 4, 5, 0] rfl)
    exact J_26 _ 0 (iv_w (⟨by decide, by decide⟩ : Iv 0 0 0) (by decide)) σ_23 _ _ hw fr (Nat.lt_succ_self _) _ (lv_sub hl [1, 2, 3, 4, 0] rfl)
  refine lv_if_eq (tgt := 23) hx hb dX8_countWays_13 (by decide) (fun c27 => ?_) (fun c27 => ?_)
  · --
    have i28 : Iv v5 0 0 := iv_eq1 c27 p5_1 (⟨by decide, by decide⟩ : Iv 0 0 0) (by decide)
    exact J_23 σ2 _ _ hw fr _ (lv_sub hl [0, 1, 2, 3] rfl)
  · --
    have i29 : Iv v5 1 1 := iv_ne1 c27 p5_1 (⟨by decide, by decide⟩ : Iv 0 0 0) (by decide)
    have i30 : Iv a2 0 63 := p5_2 c27
    refine lv_aload_n hx hb dX8_countWays_16 rfl (lv_at hl 0 rfl) ?_
    refine g_449 cx hw ha0 k_f_X8_15 dX8_countWays_17 (fun v31 e31 h31 => ?_)
    rw [show v31 = v1 from Option.some.inj (e31.symm.trans (((kr_c p3_0 (by decide)).trans e1)))]
    refine lv_iload_n hx hb dX8_countWays_20 rfl (lv_at hl 2 rfl) ?_
    refine lv_lconst (v := 1) hx hb dX8_countWays_21 (by decide) ?_
    refine o_last cx hw h1 (by decide) rfl (iv_in i30 (by decide)) dX8_countWays_22 (fun σ32 H locs eσ32 hw => ?_)
    have fr := oFr_q fr eσ32 h1 (by decide)
    exact J_23 σ32 _ _ hw fr _ (lv_sub hl [0, 1, 2, 3] rfl)
set_option maxHeartbeats 4000000 in
set_option maxRecDepth 100000 in
theorem c_X8_leastWithWay (a0 : Nat) (ha0 : oA L τ a0 7) (a1 : Int32) : oMet l A L τ cy D K yX8_leastWithWay cX8_leastWithWay 5 (some .int) 1 22 [.ref a0, .int a1] σ (va_Qi (fun r σ1 => σ1 = σ ∧ Iv r (-1) 63) (oPo A L τ cy D) A) := by
  refine oMk (by decide) (Nat.le_of_ble_eq_true rfl) rfl ?_
  intro p e s m args below meth c ls cx rx hA hw hl
  generalize hQ : MQ below _ args s 0 0 A = Q
  have hx := cx.1.1
  have hb := cx.1.2.1
  have hml := cx.1.2.2.1
  have hown := cx.1.2.2.2.1
  have hts := cx.1.2.2.2.2
  have hl : lv_has ls 5 [(0, .ref a0), (1, .int a1)] := hl
  refine lv_iload_n hx hb dX8_leastWithWay_0 rfl (lv_at hl 1 rfl) ?_
  refine o_cl hw (oRunS cx hA hw q_X0_bit k_m_X8_34 (As := [.int a1]) (c_X0_bit a1) (by decide) rfl hl.1 rfl (Nat.le_of_ble_eq_true rfl) dX8_leastWithWay_1 (by decide)) (fun v2 σ1 H locs hp hw => ?_)
  obtain ⟨p2_0, p2_1⟩ := hp
  rw [p2_0] at hw
  refine o_cl hw (oRunS cx hA hw q_X0_beside k_m_X8_38 (As := [.long v2]) (c_X0_beside v2) (by decide) rfl hl.1 rfl (Nat.le_of_ble_eq_true rfl) dX8_leastWithWay_4 (by decide)) (fun v4 σ3 H locs hp hw => ?_)
  have p4_0 := hp
  rw [p4_0] at hw
  refine lv_lstore_n (lv' := [(2, .long v4), (0, .ref a0), (1, .int a1)]) hx hb dX8_leastWithWay_7 rfl hl (by decide) rfl (fun ls hl => ?_)
  refine lv_iconst (v := 0) hx hb dX8_leastWithWay_8 (by decide) ?_
  refine lv_istore (lv' := [(4, .int 0), (2, .long v4), (0, .ref a0), (1, .int a1)]) hx hb dX8_leastWithWay_9 hl (by decide) rfl (fun ls hl => ?_)
  have J_11 : ∀ n11 : Nat, ∀ (j11_4 : Int32) (ij11_4 : Iv j11_4 0 64), ∀ (H : Heap) (locs : List Loc), oI A L τ cy D s.heap σ H locs → (64 - j11_4.toInt).toNat < n11 → ∀ (ls : Array Slot), lv_has ls 5 [(0, .ref a0), (1, .int a1), (2, .long v4), (4, .int j11_4)] → W p l e ({ frames := 1, cells := 0, slots := 0, locals := 22 } : Room) s m args below meth c H locs 0 0 Q (F0 m 11 ls []) := by
    intro n11
    induction n11 with
    | zero => intro j11_4 ij11_4 H locs hw  hn_11   ls hl; exact absurd hn_11 (Nat.not_lt_zero _)
    | succ n11 ih_11 =>
      intro j11_4 ij11_4 H locs hw  hn_11   ls hl
      refine lv_iload hx hb dX8_leastWithWay_11 (lv_at hl 3 rfl) ?_
      refine lv_bipush (v := 64) hx hb dX8_leastWithWay_13 (by decide) ?_
      refine lv_icmp_ge (tgt := 48) hx hb dX8_leastWithWay_15 (by decide) (fun c5 => ?_) (fun c5 => ?_)
      · --
        have i6 : Iv j11_4 64 64 := iv_le2 c5 (⟨by decide, by decide⟩ : Iv 64 64 64) ij11_4 (by decide)
        refine lv_iconst (v := (-1)) hx hb dX8_leastWithWay_48 (by decide) ?_
        rw [← hQ]
        exact o_ri cx rx hw dX8_leastWithWay_49 ⟨rfl, (iv_w (⟨by decide, by decide⟩ : Iv (-1) (-1) (-1)) (by decide))⟩
      · --
        have i7 : Iv j11_4 0 63 := iv_lt1 (iv_nle c5) ij11_4 (⟨by decide, by decide⟩ : Iv 64 64 64) (by decide)
        refine lv_lload_n hx hb dX8_leastWithWay_18 rfl (lv_at hl 2 rfl) ?_
        refine lv_iload hx hb dX8_leastWithWay_19 (lv_at hl 3 rfl) ?_
        refine o_ci hw (oRunS cx hA hw q_X0_has k_m_X8_28 (As := [.long v4, .int j11_4]) (c_X0_has v4 j11_4) (by decide) rfl hl.1 rfl (Nat.le_of_ble_eq_true rfl) dX8_leastWithWay_21 (by decide)) (fun v9 σ8 H locs hp hw => ?_)
        obtain ⟨p9_0, p9_1, p9_2, p9_3⟩ := hp
        rw [p9_0] at hw
        have J_42 : ∀ (H : Heap) (locs : List Loc), oI A L τ cy D s.heap σ H locs → ∀ (ls : Array Slot), lv_has ls 5 [(0, .ref a0), (1, .int a1), (2, .long v4), (4, .int j11_4)] → W p l e ({ frames := 1, cells := 0, slots := 0, locals := 22 } : Room) s m args below meth c H locs 0 0 Q (F0 m 42 ls []) := by
          intro  H locs hw     ls hl
          obtain ⟨v10, e10⟩ : ∃ y : Int32, y = j11_4 + 1 := ⟨_, rfl⟩
          have i10 : Iv v10 1 64 := iv_add e10 i7 (⟨by decide, by decide⟩ : Iv 1 1 1) (by decide)
          have x10 : v10.toInt = j11_4.toInt + 1 := ex_add e10 i7 (⟨by decide, by decide⟩ : Iv 1 1 1) (by decide)
          refine lv_iinc (v := v10) (lv' := [(4, .int v10), (0, .ref a0), (1, .int a1), (2, .long v4)]) hx hb dX8_leastWithWay_42 hl (k := 3) rfl (by rw [e10]; rfl) (by decide) rfl (fun ls hl => ?_)
          refine lv_goto (tgt := 11) hx hb dX8_leastWithWay_45 (by decide) ?_
          exact ih_11 v10 (iv_w i10 (by decide)) _ _ hw (ms_up x10 (by decide) (iv_w (a' := 0) (b' := 64) i10 (by decide)).2 hn_11) _ (lv_sub hl [1, 2, 3, 0] rfl)
        refine lv_if_eq (tgt := 42) hx hb dX8_leastWithWay_24 (by decide) (fun c11 => ?_) (fun c11 => ?_)
        · --
          have i12 : Iv v9 0 0 := iv_eq1 c11 p9_1 (⟨by decide, by decide⟩ : Iv 0 0 0) (by decide)
          exact J_42 _ _ hw _ (lv_sub hl [0, 1, 2, 3] rfl)
        · --
          have i13 : Iv v9 1 1 := iv_ne1 c11 p9_1 (⟨by decide, by decide⟩ : Iv 0 0 0) (by decide)
          have i14 : Iv j11_4 0 63 := p9_2 c11
          refine lv_aload_n hx hb dX8_leastWithWay_27 rfl (lv_at hl 0 rfl) ?_
          refine g_449 cx hw ha0 k_f_X8_15 dX8_leastWithWay_28 (fun v15 e15 h15 => ?_)
          refine lv_iload hx hb dX8_leastWithWay_31 (lv_at hl 3 rfl) ?_
          refine o_lald cx hw h15 (by decide) rfl (iv_in i14 (by decide)) dX8_leastWithWay_33 (fun v16 e16 => ?_)
          refine lv_lconst (v := 0) hx hb dX8_leastWithWay_34 (by decide) ?_
          refine W.lcmp hx hb dX8_leastWithWay_35 ?_
          refine lv_topi (fun v17 e17 => ?_)
          have i17 : Iv v17 (-1) 1 := iv_lcmp e17
          refine lv_if_le (tgt := 42) hx hb dX8_leastWithWay_36 (by decide) (fun c18 => ?_) (fun c18 => ?_)
          · --
            have i19 : Iv v17 (-1) 0 := iv_le1 c18 i17 (⟨by decide, by decide⟩ : Iv 0 0 0) (by decide)
            exact J_42 _ _ hw _ (lv_sub hl [0, 1, 2, 3] rfl)
          · --
            have i20 : Iv v17 1 1 := iv_lt2 (iv_nle c18) (⟨by decide, by decide⟩ : Iv 0 0 0) i17 (by decide)
            refine lv_iload hx hb dX8_leastWithWay_39 (lv_at hl 3 rfl) ?_
            rw [← hQ]
            exact o_ri cx rx hw dX8_leastWithWay_41 ⟨rfl, (iv_w i14 (by decide))⟩
  exact J_11 _ 0 (iv_w (⟨by decide, by decide⟩ : Iv 0 0 0) (by decide)) _ _ hw (Nat.lt_succ_self _) _ (lv_sub hl [2, 3, 1, 0] rfl)
abbrev fs_X10_faultOfSightings : List Nat := [386]
abbrev ts_X10_faultOfSightings : List Nat := []
set_option maxHeartbeats 4000000 in
set_option maxRecDepth 100000 in
theorem c_X10_faultOfSightings (a0 : Nat) (ha0 : oA L τ a0 9) : oMet l A L τ cy D K yX10_faultOfSightings cX10_faultOfSightings 2 (some .int) 4 90 [.ref a0] σ (va_Qi (fun r σ1 => oFr τ fs_X10_faultOfSightings ts_X10_faultOfSightings σ σ1) (oPo A L τ cy D) A) := by
  refine oMk (by decide) (Nat.le_of_ble_eq_true rfl) rfl ?_
  intro p e s m args below meth c ls cx rx hA hw hl
  generalize hQ : MQ below _ args s 0 0 A = Q
  have hx := cx.1.1
  have hb := cx.1.2.1
  have hml := cx.1.2.2.1
  have hown := cx.1.2.2.2.1
  have hts := cx.1.2.2.2.2
  have hl : lv_has ls 2 [(0, .ref a0)] := hl
  have fr : oFr τ fs_X10_faultOfSightings ts_X10_faultOfSightings σ σ := oFr_rf
  refine lv_iconst (v := 0) hx hb dX10_faultOfSightings_0 (by decide) ?_
  refine lv_istore_n (lv' := [(1, .int 0), (0, .ref a0)]) hx hb dX10_faultOfSightings_1 rfl hl (by decide) rfl (fun ls hl => ?_)
  have frE_2 := fr
  have J_2 : ∀ n2 : Nat, ∀ (j2_1 : Int32) (ij2_1 : Iv j2_1 0 12), ∀ (σ_2 : oSt) (H : Heap) (locs : List Loc), oI A L τ cy D s.heap σ_2 H locs → oFr τ fs_X10_faultOfSightings ts_X10_faultOfSightings σ σ_2 → (12 - j2_1.toInt).toNat < n2 → ∀ (ls : Array Slot), lv_has ls 2 [(0, .ref a0), (1, .int j2_1)] → W p l e ({ frames := 4, cells := 0, slots := 0, locals := 90 } : Room) s m args below meth c H locs 0 0 Q (F0 m 2 ls []) := by
    intro n2
    induction n2 with
    | zero => intro j2_1 ij2_1 σ_2 H locs hw fr   hn_2   ls hl; exact absurd hn_2 (Nat.not_lt_zero _)
    | succ n2 ih_2 =>
      intro j2_1 ij2_1 σ_2 H locs hw fr   hn_2   ls hl
      have fr_2 := fr
      refine lv_iload_n hx hb dX10_faultOfSightings_2 rfl (lv_at hl 1 rfl) ?_
      refine lv_bipush (v := 12) hx hb dX10_faultOfSightings_3 (by decide) ?_
      refine lv_icmp_ge (tgt := 56) hx hb dX10_faultOfSightings_5 (by decide) (fun c1 => ?_) (fun c1 => ?_)
      · --
        have i2 : Iv j2_1 12 12 := iv_le2 c1 (⟨by decide, by decide⟩ : Iv 12 12 12) ij2_1 (by decide)
        refine lv_aload_n hx hb dX10_faultOfSightings_56 rfl (lv_at hl 0 rfl) ?_
        refine g_576 cx hw ha0 k_f_X10_10 dX10_faultOfSightings_57 (fun v3 e3 h3 => ?_)
        refine o_ci hw (oRunV cx hA hw q_X7_fault k_m_X10_231 rfl h3 (by decide) (As := []) (c_X7_fault v3 h3) (by decide) rfl hl.1 rfl (Nat.le_of_ble_eq_true rfl) dX10_faultOfSightings_60 (by decide)) (fun v5 σ4 H locs hp hw => ?_)
        obtain ⟨p5_0, p5_1⟩ := hp
        rw [p5_0] at hw
        rw [← hQ]
        exact o_ri cx rx hw dX10_faultOfSightings_63 fr
      · --
        have i6 : Iv j2_1 0 11 := iv_lt1 (iv_nle c1) ij2_1 (⟨by decide, by decide⟩ : Iv 12 12 12) (by decide)
        refine lv_aload_n hx hb dX10_faultOfSightings_8 rfl (lv_at hl 0 rfl) ?_
        refine lv_aload_n hx hb dX10_faultOfSightings_9 rfl (lv_at hl 0 rfl) ?_
        refine g_578 cx hw ha0 k_f_X10_26 dX10_faultOfSightings_10 (fun v7 e7 h7 => ?_)
        refine g_64 cx hw h7 k_f_X10_121 dX10_faultOfSightings_13 (fun v8 e8 i8 => ?_)
        refine lv_aload_n hx hb dX10_faultOfSightings_16 rfl (lv_at hl 0 rfl) ?_
        refine g_578 cx hw ha0 k_f_X10_26 dX10_faultOfSightings_17 (fun v9 e9 h9 => ?_)
        rw [show v9 = v7 from Option.some.inj (e9.symm.trans (e7))]
        refine g_65 cx hw h7 k_f_X10_124 dX10_faultOfSightings_20 (fun v10 e10 i10 => ?_)
        refine o_ci hw (oRunV cx hA hw q_X10_readCell k_m_X10_238 rfl ha0 (by decide) (As := [.int v8, .int v10]) (c_X10_readCell a0 ha0 v8 (iv_w i8 (by decide)) v10 (iv_w i10 (by decide))) (by decide) rfl hl.1 rfl (Nat.le_of_ble_eq_true rfl) dX10_faultOfSightings_23 (by decide)) (fun v12 σ11 H locs hp hw => ?_)
        obtain ⟨p12_0, p12_1, p12_2⟩ := hp
        have fr := oFr_tr fr p12_0 (by decide)
        refine lv_iconst (v := (-1)) hx hb dX10_faultOfSightings_26 (by decide) ?_
        refine lv_icmp_ne (tgt := 38) hx hb dX10_faultOfSightings_27 (by decide) (fun c13 => ?_) (fun c13 => ?_)
        · --
          have i14 : Iv v12 0 63 := iv_ne1 c13 p12_1 (⟨by decide, by decide⟩ : Iv (-1) (-1) (-1)) (by decide)
          refine lv_aload_n hx hb dX10_faultOfSightings_38 rfl (lv_at hl 0 rfl) ?_
          refine g_576 cx hw ha0 k_f_X10_10 dX10_faultOfSightings_39 (fun v15 e15 h15 => ?_)
          have i16 : Iv (σ11.1 385 v15) 0 80 := o_fb (j := 385) hw h15 rfl
          refine o_ci hw (oRunV cx hA hw q_X7_isAtEnd k_m_X10_224 rfl h15 (by decide) (As := []) (c_X7_isAtEnd v15 h15) (by decide) rfl hl.1 rfl (Nat.le_of_ble_eq_true rfl) dX10_faultOfSightings_42 (by decide)) (fun v18 σ17 H locs hp hw => ?_)
          obtain ⟨p18_0, p18_1, p18_2⟩ := hp
          rw [p18_0] at hw
          refine lv_if_eq (tgt := 50) hx hb dX10_faultOfSightings_45 (by decide) (fun c19 => ?_) (fun c19 => ?_)
          · --
            have i20 : Iv v18 0 0 := iv_eq1 c19 p18_1 (⟨by decide, by decide⟩ : Iv 0 0 0) (by decide)
            obtain ⟨v21, e21⟩ : ∃ y : Int32, y = j2_1 + 1 := ⟨_, rfl⟩
            have i21 : Iv v21 1 12 := iv_add e21 i6 (⟨by decide, by decide⟩ : Iv 1 1 1) (by decide)
            have x21 : v21.toInt = j2_1.toInt + 1 := ex_add e21 i6 (⟨by decide, by decide⟩ : Iv 1 1 1) (by decide)
            refine lv_iinc (v := v21) (lv' := [(1, .int v21), (0, .ref a0)]) hx hb dX10_faultOfSightings_50 hl (k := 1) rfl (by rw [e21]; rfl) (by decide) rfl (fun ls hl => ?_)
            refine lv_goto (tgt := 2) hx hb dX10_faultOfSightings_53 (by decide) ?_
            exact ih_2 v21 (iv_w i21 (by decide)) σ11 _ _ hw fr (ms_up x21 (by decide) (iv_w (a' := 0) (b' := 12) i21 (by decide)).2 hn_2) _ (lv_sub hl [1, 0] rfl)
          · --
            have i22 : Iv v18 1 1 := iv_ne1 c19 p18_1 (⟨by decide, by decide⟩ : Iv 0 0 0) (by decide)
            refine lv_iconst (v := 0) hx hb dX10_faultOfSightings_48 (by decide) ?_
            rw [← hQ]
            exact o_ri cx rx hw dX10_faultOfSightings_49 fr
        · --
          have i23 : Iv v12 (-1) (-1) := iv_eq1 c13 p12_1 (⟨by decide, by decide⟩ : Iv (-1) (-1) (-1)) (by decide)
          refine lv_aload_n hx hb dX10_faultOfSightings_30 rfl (lv_at hl 0 rfl) ?_
          refine g_576 cx hw ha0 k_f_X10_10 dX10_faultOfSightings_31 (fun v24 e24 h24 => ?_)
          refine o_ci hw (oRunV cx hA hw q_X7_fault k_m_X10_231 rfl h24 (by decide) (As := []) (c_X7_fault v24 h24) (by decide) rfl hl.1 rfl (Nat.le_of_ble_eq_true rfl) dX10_faultOfSightings_34 (by decide)) (fun v26 σ25 H locs hp hw => ?_)
          obtain ⟨p26_0, p26_1⟩ := hp
          rw [p26_0] at hw
          rw [← hQ]
          exact o_ri cx rx hw dX10_faultOfSightings_37 fr
  exact J_2 _ 0 (iv_w (⟨by decide, by decide⟩ : Iv 0 0 0) (by decide)) σ _ _ hw fr (Nat.lt_succ_self _) _ (lv_sub hl [1, 0] rfl)
abbrev fs_X10_followSightings : List Nat := [193, 386, 387]
abbrev ts_X10_followSightings : List Nat := [32, 36, 39]
set_option maxHeartbeats 4000000 in
set_option maxRecDepth 100000 in
theorem c_X10_followSightings (a0 : Nat) (ha0 : oA L τ a0 9) : oMet l A L τ cy D K yX10_followSightings cX10_followSightings 10 (some .int) 4 111 [.ref a0] σ (va_Qi (fun r σ1 => oFr τ fs_X10_followSightings ts_X10_followSightings σ σ1) (oPo A L τ cy D) A) := by
  refine oMk (by decide) (Nat.le_of_ble_eq_true rfl) rfl ?_
  intro p e s m args below meth c ls cx rx hA hw hl
  generalize hQ : MQ below _ args s 0 0 A = Q
  have hx := cx.1.1
  have hb := cx.1.2.1
  have hml := cx.1.2.2.1
  have hown := cx.1.2.2.2.1
  have hts := cx.1.2.2.2.2
  have hl : lv_has ls 10 [(0, .ref a0)] := hl
  have fr : oFr τ fs_X10_followSightings ts_X10_followSightings σ σ := oFr_rf
  refine lv_aload_n hx hb dX10_followSightings_0 rfl (lv_at hl 0 rfl) ?_
  refine g_576 cx hw ha0 k_f_X10_10 dX10_followSightings_1 (fun v1 e1 h1 => ?_)
  refine lv_bipush (v := 80) hx hb dX10_followSightings_4 (by decide) ?_
  refine o_cv hw (oRunV cx hA hw q_X7_begin k_m_X10_220 rfl h1 (by decide) (As := [.int 80]) (c_X7_begin v1 h1 80) (by decide) rfl hl.1 rfl (Nat.le_of_ble_eq_true rfl) dX10_followSightings_6 (by decide)) (fun σ2 H locs hp hw => ?_)
  obtain ⟨p3_0, p3_1⟩ := hp
  have fr := oFr_tr fr p3_0 (by decide)
  refine lv_aload_n hx hb dX10_followSightings_9 rfl (lv_at hl 0 rfl) ?_
  refine o_cl hw (oRunV cx hA hw q_X10_roadNow k_m_X10_335 rfl ha0 (by decide) (As := []) (c_X10_roadNow a0 ha0) (by decide) rfl hl.1 rfl (Nat.le_of_ble_eq_true rfl) dX10_followSightings_10 (by decide)) (fun v5 σ4 H locs hp hw => ?_)
  have p5_0 := hp
  rw [p5_0] at hw
  refine lv_lstore_n (lv' := [(1, .long v5), (0, .ref a0)]) hx hb dX10_followSightings_13 rfl hl (by decide) rfl (fun ls hl => ?_)
  refine lv_aload_n hx hb dX10_followSightings_14 rfl (lv_at hl 1 rfl) ?_
  refine lv_aload_n hx hb dX10_followSightings_15 rfl (lv_at hl 1 rfl) ?_
  refine g_578 cx hw ha0 k_f_X10_26 dX10_followSightings_16 (fun v6 e6 h6 => ?_)
  refine g_64 cx hw h6 k_f_X10_121 dX10_followSightings_19 (fun v7 e7 i7 => ?_)
  refine lv_aload_n hx hb dX10_followSightings_22 rfl (lv_at hl 1 rfl) ?_
  refine g_578 cx hw ha0 k_f_X10_26 dX10_followSightings_23 (fun v8 e8 h8 => ?_)
  rw [show v8 = v6 from Option.some.inj (e8.symm.trans (e6))]
  refine g_65 cx hw h6 k_f_X10_124 dX10_followSightings_26 (fun v9 e9 i9 => ?_)
  refine o_ci hw (oRunV cx hA hw q_X10_readCell k_m_X10_238 rfl ha0 (by decide) (As := [.int v7, .int v9]) (c_X10_readCell a0 ha0 v7 (iv_w i7 (by decide)) v9 (iv_w i9 (by decide))) (by decide) rfl hl.1 rfl (Nat.le_of_ble_eq_true rfl) dX10_followSightings_29 (by decide)) (fun v11 σ10 H locs hp hw => ?_)
  obtain ⟨p11_0, p11_1, p11_2⟩ := hp
  have fr := oFr_tr fr p11_0 (by decide)
  refine lv_istore_n (lv' := [(3, .int v11), (1, .long v5), (0, .ref a0)]) hx hb dX10_followSightings_32 rfl hl (by decide) rfl (fun ls hl => ?_)
  refine lv_lload_n hx hb dX10_followSightings_33 rfl (lv_at hl 1 rfl) ?_
  refine lv_iload_n hx hb dX10_followSightings_34 rfl (lv_at hl 0 rfl) ?_
  refine o_ci hw (oRunS cx hA hw q_X0_has k_m_X10_321 (As := [.long v5, .int v11]) (c_X0_has v5 v11) (by decide) rfl hl.1 rfl (Nat.le_of_ble_eq_true rfl) dX10_followSightings_35 (by decide)) (fun v13 σ12 H locs hp hw => ?_)
  obtain ⟨p13_0, p13_1, p13_2, p13_3⟩ := hp
  rw [p13_0] at hw
  refine lv_if_ne (tgt := 44) hx hb dX10_followSightings_38 (by decide) (fun c14 => ?_) (fun c14 => ?_)
  · --
    have i15 : Iv v13 1 1 := iv_ne1 c14 p13_1 (⟨by decide, by decide⟩ : Iv 0 0 0) (by decide)
    have i16 : Iv v11 0 63 := p13_2 c14
    refine lv_iconst (v := 0) hx hb dX10_followSightings_44 (by decide) ?_
    refine lv_istore (lv' := [(4, .int 0), (3, .int v11), (1, .long v5), (0, .ref a0)]) hx hb dX10_followSightings_45 hl (by decide) rfl (fun ls hl => ?_)
    refine lv_lconst (v := 1) hx hb dX10_followSightings_47 (by decide) ?_
    refine lv_lstore (lv' := [(5, .long 1), (4, .int 0), (3, .int v11), (1, .long v5), (0, .ref a0)]) hx hb dX10_followSightings_48 hl (by decide) rfl (fun ls hl => ?_)
    refine lv_iconst (v := 1) hx hb dX10_followSightings_50 (by decide) ?_
    refine lv_istore (lv' := [(7, .int 1), (5, .long 1), (4, .int 0), (3, .int v11), (1, .long v5), (0, .ref a0)]) hx hb dX10_followSightings_51 hl (by decide) rfl (fun ls hl => ?_)
    have frE_53 := fr
    have J_53 : ∀ n53 : Nat, ∀ (j53_3 : Int32) (ij53_3 : Iv j53_3 0 63) (j53_4 : Int32) (j53_5 : Int64) (j53_7 : Int32) (ij53_7 : Iv j53_7 1 12), ∀ (σ_53 : oSt) (H : Heap) (locs : List Loc), oI A L τ cy D s.heap σ_53 H locs → oFr τ fs_X10_followSightings ts_X10_followSightings σ σ_53 → (12 - j53_7.toInt).toNat < n53 → ∀ (ls : Array Slot), lv_has ls 10 [(0, .ref a0), (1, .long v5), (3, .int j53_3), (4, .int j53_4), (5, .long j53_5), (7, .int j53_7)] → W p l e ({ frames := 4, cells := 0, slots := 0, locals := 111 } : Room) s m args below meth c H locs 0 0 Q (F0 m 53 ls []) := by
      intro n53
      induction n53 with
      | zero => intro j53_3 ij53_3 j53_4 j53_5 j53_7 ij53_7 σ_53 H locs hw fr   hn_53   ls hl; exact absurd hn_53 (Nat.not_lt_zero _)
      | succ n53 ih_53 =>
        intro j53_3 ij53_3 j53_4 j53_5 j53_7 ij53_7 σ_53 H locs hw fr   hn_53   ls hl
        have fr_53 := fr
        refine lv_iload hx hb dX10_followSightings_53 (lv_at hl 5 rfl) ?_
        refine lv_bipush (v := 12) hx hb dX10_followSightings_55 (by decide) ?_
        have J_185 : ∀ (H : Heap) (locs : List Loc), oI A L τ cy D s.heap σ_53 H locs → ∀ (ls : Array Slot), lv_has ls 10 [(0, .ref a0), (1, .long v5), (3, .int j53_3), (4, .int j53_4), (5, .long j53_5), (7, .int j53_7)] → W p l e ({ frames := 4, cells := 0, slots := 0, locals := 111 } : Room) s m args below meth c H locs 0 0 Q (F0 m 185 ls []) := by
          intro  H locs hw     ls hl
          refine lv_aload_n hx hb dX10_followSightings_185 rfl (lv_at hl 0 rfl) ?_
          refine g_577 cx hw ha0 k_f_X10_19 dX10_followSightings_186 (fun v17 e17 h17 => ?_)
          refine o_cv hw (oRunV cx hA hw q_X4_start k_m_X10_292 rfl h17 (by decide) (As := []) (c_X4_start v17 h17) (by decide) rfl hl.1 rfl (Nat.le_of_ble_eq_true rfl) dX10_followSightings_189 (by decide)) (fun σ18 H locs hp hw => ?_)
          have p19_0 := hp
          have fr := oFr_tr fr p19_0 (by decide)
          refine lv_aload_n hx hb dX10_followSightings_192 rfl (lv_at hl 0 rfl) ?_
          refine g_577 cx hw ha0 k_f_X10_19 dX10_followSightings_193 (fun v20 e20 h20 => ?_)
          rw [show v20 = v17 from Option.some.inj (e20.symm.trans (((kr_c p19_0 (by decide)).trans e17)))]
          refine lv_lload hx hb dX10_followSightings_196 (lv_at hl 4 rfl) ?_
          refine o_cv hw (oRunV cx hA hw q_X4_put k_m_X10_295 rfl h17 (by decide) (As := [.long j53_5]) (c_X4_put v17 h17 j53_5) (by decide) rfl hl.1 rfl (Nat.le_of_ble_eq_true rfl) dX10_followSightings_198 (by decide)) (fun σ21 H locs hp hw => ?_)
          have p22_0 := hp
          have fr := oFr_tr fr p22_0 (by decide)
          refine lv_iload hx hb dX10_followSightings_201 (lv_at hl 3 rfl) ?_
          rw [← hQ]
          exact o_ri cx rx hw dX10_followSightings_203 fr
        refine lv_icmp_ge (tgt := 185) hx hb dX10_followSightings_57 (by decide) (fun c23 => ?_) (fun c23 => ?_)
        · --
          have i24 : Iv j53_7 12 12 := iv_le2 c23 (⟨by decide, by decide⟩ : Iv 12 12 12) ij53_7 (by decide)
          exact J_185 _ _ hw _ (lv_sub hl [0, 1, 2, 3, 4, 5] rfl)
        · --
          have i25 : Iv j53_7 1 11 := iv_lt1 (iv_nle c23) ij53_7 (⟨by decide, by decide⟩ : Iv 12 12 12) (by decide)
          refine lv_aload_n hx hb dX10_followSightings_60 rfl (lv_at hl 0 rfl) ?_
          refine g_576 cx hw ha0 k_f_X10_10 dX10_followSightings_61 (fun v26 e26 h26 => ?_)
          rw [show v26 = v1 from Option.some.inj (e26.symm.trans (((kr_c fr_53 (by decide)).trans ((kr_c frE_53 (by decide)).symm.trans (((kr_c p11_0 (by decide)).trans ((kr_c p3_0 (by decide)).trans e1)))))))]
          have i27 : Iv (σ_53.1 385 v1) 0 80 := o_fb (j := 385) hw h1 rfl
          refine o_ci hw (oRunV cx hA hw q_X7_isAtEnd k_m_X10_224 rfl h1 (by decide) (As := []) (c_X7_isAtEnd v1 h1) (by decide) rfl hl.1 rfl (Nat.le_of_ble_eq_true rfl) dX10_followSightings_64 (by decide)) (fun v29 σ28 H locs hp hw => ?_)
          obtain ⟨p29_0, p29_1, p29_2⟩ := hp
          rw [p29_0] at hw
          refine lv_if_ne (tgt := 185) hx hb dX10_followSightings_67 (by decide) (fun c30 => ?_) (fun c30 => ?_)
          · --
            have i31 : Iv v29 1 1 := iv_ne1 c30 p29_1 (⟨by decide, by decide⟩ : Iv 0 0 0) (by decide)
            exact J_185 _ _ hw _ (lv_sub hl [0, 1, 2, 3, 4, 5] rfl)
          · --
            have i32 : Iv v29 0 0 := iv_eq1 c30 p29_1 (⟨by decide, by decide⟩ : Iv 0 0 0) (by decide)
            refine lv_aload_n hx hb dX10_followSightings_70 rfl (lv_at hl 0 rfl) ?_
            refine lv_aload_n hx hb dX10_followSightings_71 rfl (lv_at hl 0 rfl) ?_
            refine g_578 cx hw ha0 k_f_X10_26 dX10_followSightings_72 (fun v33 e33 h33 => ?_)
            rw [show v33 = v6 from Option.some.inj (e33.symm.trans (((kr_c fr_53 (by decide)).trans ((kr_c frE_53 (by decide)).symm.trans (((kr_c p11_0 (by decide)).trans e6))))))]
            refine g_64 cx hw h6 k_f_X10_121 dX10_followSightings_75 (fun v34 e34 i34 => ?_)
            rw [show v34 = v7 from e34.trans ((kp_c fr_53 (by decide)).trans ((kp_c frE_53 (by decide)).symm.trans (((kp_c p11_0 (by decide)).trans e7.symm))))]
            refine lv_aload_n hx hb dX10_followSightings_78 rfl (lv_at hl 0 rfl) ?_
            refine g_578 cx hw ha0 k_f_X10_26 dX10_followSightings_79 (fun v35 e35 h35 => ?_)
            rw [show v35 = v6 from Option.some.inj (e35.symm.trans (((kr_c fr_53 (by decide)).trans ((kr_c frE_53 (by decide)).symm.trans (((kr_c p11_0 (by decide)).trans e6))))))]
            refine g_65 cx hw h6 k_f_X10_124 dX10_followSightings_82 (fun v36 e36 i36 => ?_)
            rw [show v36 = v9 from e36.trans ((kp_c fr_53 (by decide)).trans ((kp_c frE_53 (by decide)).symm.trans (((kp_c p11_0 (by decide)).trans e9.symm))))]
            refine o_ci hw (oRunV cx hA hw q_X10_readCell k_m_X10_238 rfl ha0 (by decide) (As := [.int v7, .int v9]) (c_X10_readCell a0 ha0 v7 (iv_w i7 (by decide)) v9 (iv_w i9 (by decide))) (by decide) rfl hl.1 rfl (Nat.le_of_ble_eq_true rfl) dX10_followSightings_85 (by decide)) (fun v38 σ37 H locs hp hw => ?_)
            obtain ⟨p38_0, p38_1, p38_2⟩ := hp
            have fr := oFr_tr fr p38_0 (by decide)
            refine lv_istore (lv' := [(8, .int v38), (0, .ref a0), (1, .long v5), (3, .int j53_3), (4, .int j53_4), (5, .long j53_5), (7, .int j53_7)]) hx hb dX10_followSightings_88 hl (by decide) rfl (fun ls hl => ?_)
            refine lv_aload_n hx hb dX10_followSightings_90 rfl (lv_at hl 1 rfl) ?_
            refine g_584 cx hw ha0 k_f_X10_68 dX10_followSightings_91 (fun v39 e39 h39 => ?_)
            refine lv_lload_n hx hb dX10_followSightings_94 rfl (lv_at hl 2 rfl) ?_
            refine lv_iload_n hx hb dX10_followSightings_95 rfl (lv_at hl 3 rfl) ?_
            refine o_cv hw (oRunV cx hA hw q_X8_measure k_m_X10_354 rfl h39 (by decide) (As := [.long v5, .int j53_3]) (c_X8_measure v39 h39 v5 j53_3) (by decide) rfl hl.1 rfl (Nat.le_of_ble_eq_true rfl) dX10_followSightings_96 (by decide)) (fun σ40 H locs hp hw => ?_)
            have p41_0 := hp
            have fr := oFr_tr fr p41_0 (by decide)
            refine lv_lload_n hx hb dX10_followSightings_99 rfl (lv_at hl 2 rfl) ?_
            refine lv_iload hx hb dX10_followSightings_100 (lv_at hl 0 rfl) ?_
            refine o_ci hw (oRunS cx hA hw q_X0_has k_m_X10_321 (As := [.long v5, .int v38]) (c_X0_has v5 v38) (by decide) rfl hl.1 rfl (Nat.le_of_ble_eq_true rfl) dX10_followSightings_102 (by decide)) (fun v43 σ42 H locs hp hw => ?_)
            obtain ⟨p43_0, p43_1, p43_2, p43_3⟩ := hp
            rw [p43_0] at hw
            refine lv_if_eq (tgt := 122) hx hb dX10_followSightings_105 (by decide) (fun c44 => ?_) (fun c44 => ?_)
            · --
              have i45 : Iv v43 0 0 := iv_eq1 c44 p43_1 (⟨by decide, by decide⟩ : Iv 0 0 0) (by decide)
              refine lv_bipush (v := (-100)) hx hb dX10_followSightings_122 (by decide) ?_
              rw [← hQ]
              exact o_ri cx rx hw dX10_followSightings_124 fr
            · --
              have i46 : Iv v43 1 1 := iv_ne1 c44 p43_1 (⟨by decide, by decide⟩ : Iv 0 0 0) (by decide)
              have i47 : Iv v38 0 63 := p43_2 c44
              refine lv_aload_n hx hb dX10_followSightings_108 rfl (lv_at hl 1 rfl) ?_
              refine g_584 cx hw ha0 k_f_X10_68 dX10_followSightings_109 (fun v48 e48 h48 => ?_)
              rw [show v48 = v39 from Option.some.inj (e48.symm.trans (((kr_c p41_0 (by decide)).trans e39)))]
              refine g_448 cx hw h39 k_f_X10_358 dX10_followSightings_112 (fun v49 e49 h49 => ?_)
              refine lv_iload hx hb dX10_followSightings_115 (lv_at hl 0 rfl) ?_
              refine o_iald cx hw h49 (by decide) rfl (iv_in i47 (by decide)) dX10_followSightings_117 (fun v50 e50 b50 => ?_)
              refine lv_iconst (v := (-1)) hx hb dX10_followSightings_118 (by decide) ?_
              refine lv_icmp_ne (tgt := 125) hx hb dX10_followSightings_119 (by decide) (fun c51 => ?_) (fun c51 => ?_)
              · --
                refine lv_aload_n hx hb dX10_followSightings_125 rfl (lv_at hl 1 rfl) ?_
                refine g_584 cx hw ha0 k_f_X10_68 dX10_followSightings_126 (fun v52 e52 h52 => ?_)
                rw [show v52 = v39 from Option.some.inj (e52.symm.trans (((kr_c p41_0 (by decide)).trans e39)))]
                refine g_448 cx hw h39 k_f_X10_358 dX10_followSightings_129 (fun v53 e53 h53 => ?_)
                rw [show v53 = v49 from Option.some.inj (e53.symm.trans (e49))]
                refine lv_iload hx hb dX10_followSightings_132 (lv_at hl 0 rfl) ?_
                refine o_iald cx hw h49 (by decide) rfl (iv_in i47 (by decide)) dX10_followSightings_134 (fun v54 e54 b54 => ?_)
                refine lv_istore (lv' := [(9, .int v54), (8, .int v38), (0, .ref a0), (1, .long v5), (3, .int j53_3), (4, .int j53_4), (5, .long j53_5), (7, .int j53_7)]) hx hb dX10_followSightings_135 hl (by decide) rfl (fun ls hl => ?_)
                refine lv_aload_n hx hb dX10_followSightings_137 rfl (lv_at hl 2 rfl) ?_
                refine g_584 cx hw ha0 k_f_X10_68 dX10_followSightings_138 (fun v55 e55 h55 => ?_)
                rw [show v55 = v39 from Option.some.inj (e55.symm.trans (((kr_c p41_0 (by decide)).trans e39)))]
                refine lv_lload_n hx hb dX10_followSightings_141 rfl (lv_at hl 3 rfl) ?_
                refine lv_iload hx hb dX10_followSightings_142 (lv_at hl 1 rfl) ?_
                refine lv_iload hx hb dX10_followSightings_144 (lv_at hl 0 rfl) ?_
                refine o_cv hw (oRunV cx hA hw q_X8_countWays k_m_X10_424 rfl h39 (by decide) (As := [.long v5, .int v38, .int v54]) (c_X8_countWays v39 h39 v5 v38 v54) (by decide) rfl hl.1 rfl (Nat.le_of_ble_eq_true rfl) dX10_followSightings_146 (by decide)) (fun σ56 H locs hp hw => ?_)
                have p57_0 := hp
                have fr := oFr_tr fr p57_0 (by decide)
                refine lv_iload hx hb dX10_followSightings_149 (lv_at hl 5 rfl) ?_
                refine lv_iload hx hb dX10_followSightings_151 (lv_at hl 0 rfl) ?_
                refine lv_iadd hx hb dX10_followSightings_153 ?_
                refine lv_topi (fun v58 e58 => ?_)
                refine lv_istore (lv' := [(4, .int v58), (9, .int v54), (8, .int v38), (0, .ref a0), (1, .long v5), (3, .int j53_3), (5, .long j53_5), (7, .int j53_7)]) hx hb dX10_followSightings_154 hl (by decide) rfl (fun ls hl => ?_)
                refine lv_ldc2 (v := 1000000) hx hb hown (hts _ k_k_X10_447) dX10_followSightings_156 ?_
                refine lv_lload hx hb dX10_followSightings_159 (lv_at hl 6 rfl) ?_
                refine lv_aload_n hx hb dX10_followSightings_161 rfl (lv_at hl 3 rfl) ?_
                refine g_584 cx hw ha0 k_f_X10_68 dX10_followSightings_162 (fun v59 e59 h59 => ?_)
                rw [show v59 = v39 from Option.some.inj (e59.symm.trans (((kr_c p57_0 (by decide)).trans ((kr_c p41_0 (by decide)).trans e39))))]
                refine g_449 cx hw h39 k_f_X10_431 dX10_followSightings_165 (fun v60 e60 h60 => ?_)
                refine lv_iload_n hx hb dX10_followSightings_168 rfl (lv_at hl 5 rfl) ?_
                refine o_lald cx hw h60 (by decide) rfl (iv_in ij53_3 (by decide)) dX10_followSightings_169 (fun v61 e61 => ?_)
                refine lv_lmul hx hb dX10_followSightings_170 ?_
                refine lv_topl (fun v62 e62 => ?_)
                refine va_mmin_long hx hb (hml.trans hl.1.symm) hown (hts _ k_m_X10_449) (hts _ k_s_J9_min_f86c9) (hts _ k_i_J9) (hts _ k_code_J9_min_f86c9) (by decide) (Nat.le_of_ble_eq_true rfl) (by decide) (by decide) dX10_followSightings_171 ?_
                refine lv_topl (fun v63 e63 => ?_)
                refine lv_lstore (lv' := [(5, .long v63), (4, .int v58), (9, .int v54), (8, .int v38), (0, .ref a0), (1, .long v5), (3, .int j53_3), (7, .int j53_7)]) hx hb dX10_followSightings_174 hl (by decide) rfl (fun ls hl => ?_)
                refine lv_iload hx hb dX10_followSightings_176 (lv_at hl 3 rfl) ?_
                refine lv_istore_n (lv' := [(3, .int v38), (5, .long v63), (4, .int v58), (9, .int v54), (8, .int v38), (0, .ref a0), (1, .long v5), (7, .int j53_7)]) hx hb dX10_followSightings_178 rfl hl (by decide) rfl (fun ls hl => ?_)
                obtain ⟨v64, e64⟩ : ∃ y : Int32, y = j53_7 + 1 := ⟨_, rfl⟩
                have i64 : Iv v64 2 12 := iv_add e64 i25 (⟨by decide, by decide⟩ : Iv 1 1 1) (by decide)
                have x64 : v64.toInt = j53_7.toInt + 1 := ex_add e64 i25 (⟨by decide, by decide⟩ : Iv 1 1 1) (by decide)
                refine lv_iinc (v := v64) (lv' := [(7, .int v64), (3, .int v38), (5, .long v63), (4, .int v58), (9, .int v54), (8, .int v38), (0, .ref a0), (1, .long v5)]) hx hb dX10_followSightings_179 hl (k := 7) rfl (by rw [e64]; rfl) (by decide) rfl (fun ls hl => ?_)
                refine lv_goto (tgt := 53) hx hb dX10_followSightings_182 (by decide) ?_
                exact ih_53 v38 i47 v58 v63 v64 (iv_w i64 (by decide)) σ56 _ _ hw fr (ms_up x64 (by decide) (iv_w (a' := 1) (b' := 12) i64 (by decide)).2 hn_53) _ (lv_sub hl [6, 7, 1, 3, 2, 0] rfl)
              · --
                have i65 : Iv v50 (-1) (-1) := iv_eq1 c51 (iv_top v50) (⟨by decide, by decide⟩ : Iv (-1) (-1) (-1)) (by decide)
                refine lv_bipush (v := (-100)) hx hb dX10_followSightings_122 (by decide) ?_
                rw [← hQ]
                exact o_ri cx rx hw dX10_followSightings_124 fr
    exact J_53 _ v11 i16 0 1 1 (iv_w (⟨by decide, by decide⟩ : Iv 1 1 1) (by decide)) σ10 _ _ hw fr (Nat.lt_succ_self _) _ (lv_sub hl [5, 4, 3, 2, 1, 0] rfl)
  · --
    have i66 : Iv v13 0 0 := iv_eq1 c14 p13_1 (⟨by decide, by decide⟩ : Iv 0 0 0) (by decide)
    refine lv_bipush (v := (-100)) hx hb dX10_followSightings_41 (by decide) ?_
    rw [← hQ]
    exact o_ri cx rx hw dX10_followSightings_43 fr
abbrev fs_X8_shareOut : List Nat := []
abbrev ts_X8_shareOut : List Nat := [39]
set_option maxHeartbeats 4000000 in
set_option maxRecDepth 100000 in
theorem c_X8_shareOut (a0 : Nat) (ha0 : oA L τ a0 7) (a1 : Int64) (a2 : Int32) (ia2 : Iv a2 0 63) : oMet l A L τ cy D K yX8_shareOut cX8_shareOut 9 none 1 22 [.ref a0, .long a1, .int a2] σ (va_Qv (fun σ1 => oFr τ fs_X8_shareOut ts_X8_shareOut σ σ1) (oPo A L τ cy D) A) := by
  refine oMk (by decide) (Nat.le_of_ble_eq_true rfl) rfl ?_
  intro p e s m args below meth c ls cx rx hA hw hl
  generalize hQ : MQ below _ args s 0 0 A = Q
  have hx := cx.1.1
  have hb := cx.1.2.1
  have hml := cx.1.2.2.1
  have hown := cx.1.2.2.2.1
  have hts := cx.1.2.2.2.2
  have hl : lv_has ls 9 [(0, .ref a0), (1, .long a1), (3, .int a2)] := hl
  have fr : oFr τ fs_X8_shareOut ts_X8_shareOut σ σ := oFr_rf
  refine lv_iconst (v := 1) hx hb dX8_shareOut_0 (by decide) ?_
  refine lv_iload_n hx hb dX8_shareOut_1 rfl (lv_at hl 2 rfl) ?_
  refine o_cl hw (oRunS cx hA hw q_X0_bit k_m_X8_34 (As := [.int a2]) (c_X0_bit a2) (by decide) rfl hl.1 rfl (Nat.le_of_ble_eq_true rfl) dX8_shareOut_2 (by decide)) (fun v2 σ1 H locs hp hw => ?_)
  obtain ⟨p2_0, p2_1⟩ := hp
  rw [p2_0] at hw
  refine o_cl hw (oRunS cx hA hw q_X0_beside k_m_X8_38 (As := [.long v2]) (c_X0_beside v2) (by decide) rfl hl.1 rfl (Nat.le_of_ble_eq_true rfl) dX8_shareOut_5 (by decide)) (fun v4 σ3 H locs hp hw => ?_)
  have p4_0 := hp
  rw [p4_0] at hw
  refine lv_lload_n hx hb dX8_shareOut_8 rfl (lv_at hl 1 rfl) ?_
  refine lv_land hx hb dX8_shareOut_9 ?_
  refine lv_topl (fun v5 e5 => ?_)
  refine o_ci hw (oRunS cx hA hw q_J13_bitCount_95d88 k_m_X8_72 (As := [.long v5]) (c_J13_bitCount_95d88 v5) (by decide) rfl hl.1 rfl (Nat.le_of_ble_eq_true rfl) dX8_shareOut_10 (by decide)) (fun v7 σ6 H locs hp hw => ?_)
  obtain ⟨p7_0, p7_1⟩ := hp
  rw [p7_0] at hw
  refine lv_iadd hx hb dX8_shareOut_13 ?_
  refine lv_topi (fun v8 e8 => ?_)
  have i8 : Iv v8 1 128 := iv_add e8 (⟨by decide, by decide⟩ : Iv 1 1 1) p7_1 (by decide)
  have x8 : v8.toInt = v7.toInt + 1 := (ex_add e8 (⟨by decide, by decide⟩ : Iv 1 1 1) p7_1 (by decide)).trans (Int.add_comm _ _)
  refine lv_istore (lv' := [(4, .int v8), (0, .ref a0), (1, .long a1), (3, .int a2)]) hx hb dX8_shareOut_14 hl (by decide) rfl (fun ls hl => ?_)
  refine lv_aload_n hx hb dX8_shareOut_16 rfl (lv_at hl 1 rfl) ?_
  refine g_449 cx hw ha0 k_f_X8_15 dX8_shareOut_17 (fun v9 e9 h9 => ?_)
  refine lv_iload_n hx hb dX8_shareOut_20 rfl (lv_at hl 3 rfl) ?_
  refine o_lald cx hw h9 (by decide) rfl (iv_in ia2 (by decide)) dX8_shareOut_21 (fun v10 e10 => ?_)
  refine lv_iload hx hb dX8_shareOut_22 (lv_at hl 0 rfl) ?_
  refine lv_i2l hx hb dX8_shareOut_24 rfl ?_
  refine lv_topl (fun v11 e11 => ?_)
  refine lv_ldiv hx hb dX8_shareOut_25 (by rw [e11]; exact iv_nzl i8 (by decide)) ?_
  refine lv_topl (fun v12 e12 => ?_)
  refine lv_lstore (lv' := [(5, .long v12), (4, .int v8), (0, .ref a0), (1, .long a1), (3, .int a2)]) hx hb dX8_shareOut_26 hl (by decide) rfl (fun ls hl => ?_)
  refine lv_aload_n hx hb dX8_shareOut_28 rfl (lv_at hl 2 rfl) ?_
  refine g_450 cx hw ha0 k_f_X8_19 dX8_shareOut_29 (fun v13 e13 h13 => ?_)
  refine lv_iload_n hx hb dX8_shareOut_32 rfl (lv_at hl 4 rfl) ?_
  refine lv_dup2_11 hx hb dX8_shareOut_33 rfl rfl ?_
  refine o_lald cx hw h13 (by decide) rfl (iv_in ia2 (by decide)) dX8_shareOut_34 (fun v14 e14 => ?_)
  refine lv_lload hx hb dX8_shareOut_35 (lv_at hl 0 rfl) ?_
  refine lv_ladd hx hb dX8_shareOut_37 ?_
  refine lv_topl (fun v15 e15 => ?_)
  refine o_last cx hw h13 (by decide) rfl (iv_in ia2 (by decide)) dX8_shareOut_38 (fun σ16 H locs eσ16 hw => ?_)
  have fr := oFr_q fr eσ16 h13 (by decide)
  refine lv_iconst (v := 0) hx hb dX8_shareOut_39 (by decide) ?_
  refine lv_istore (lv' := [(7, .int 0), (5, .long v12), (4, .int v8), (0, .ref a0), (1, .long a1), (3, .int a2)]) hx hb dX8_shareOut_40 hl (by decide) rfl (fun ls hl => ?_)
  have frE_42 := fr
  have J_42 : ∀ n42 : Nat, ∀ (j42_7 : Int32) (ij42_7 : Iv j42_7 0 4), ∀ (σ_42 : oSt) (H : Heap) (locs : List Loc), oI A L τ cy D s.heap σ_42 H locs → oFr τ fs_X8_shareOut ts_X8_shareOut σ σ_42 → (4 - j42_7.toInt).toNat < n42 → ∀ (ls : Array Slot), lv_has ls 9 [(0, .ref a0), (1, .long a1), (3, .int a2), (4, .int v8), (5, .long v12), (7, .int j42_7)] → W p l e ({ frames := 1, cells := 0, slots := 0, locals := 22 } : Room) s m args below meth c H locs 0 0 Q (F0 m 42 ls []) := by
    intro n42
    induction n42 with
    | zero => intro j42_7 ij42_7 σ_42 H locs hw fr   hn_42   ls hl; exact absurd hn_42 (Nat.not_lt_zero _)
    | succ n42 ih_42 =>
      intro j42_7 ij42_7 σ_42 H locs hw fr   hn_42   ls hl
      have fr_42 := fr
      refine lv_iload hx hb dX8_shareOut_42 (lv_at hl 5 rfl) ?_
      refine lv_iconst (v := 3) hx hb dX8_shareOut_44 (by decide) ?_
      refine lv_icmp_gt (tgt := 83) hx hb dX8_shareOut_45 (by decide) (fun c17 => ?_) (fun c17 => ?_)
      · --
        have i18 : Iv j42_7 4 4 := iv_lt2 c17 (⟨by decide, by decide⟩ : Iv 3 3 3) ij42_7 (by decide)
        rw [← hQ]
        exact o_rv cx rx hw dX8_shareOut_83 fr
      · --
        have i19 : Iv j42_7 0 3 := iv_le1 (iv_nlt c17) ij42_7 (⟨by decide, by decide⟩ : Iv 3 3 3) (by decide)
        refine lv_iload_n hx hb dX8_shareOut_48 rfl (lv_at hl 2 rfl) ?_
        refine lv_iload hx hb dX8_shareOut_49 (lv_at hl 5 rfl) ?_
        refine o_ci hw (oRunS cx hA hw q_X0_next k_m_X8_56 (As := [.int a2, .int j42_7]) (c_X0_next a2 (iv_w ia2 (by decide)) j42_7) (by decide) rfl hl.1 rfl (Nat.le_of_ble_eq_true rfl) dX8_shareOut_51 (by decide)) (fun v21 σ20 H locs hp hw => ?_)
        obtain ⟨p21_0, p21_1⟩ := hp
        rw [p21_0] at hw
        refine lv_istore (lv' := [(8, .int v21), (0, .ref a0), (1, .long a1), (3, .int a2), (4, .int v8), (5, .long v12), (7, .int j42_7)]) hx hb dX8_shareOut_54 hl (by decide) rfl (fun ls hl => ?_)
        refine lv_lload_n hx hb dX8_shareOut_56 rfl (lv_at hl 2 rfl) ?_
        refine lv_iload hx hb dX8_shareOut_57 (lv_at hl 0 rfl) ?_
        refine o_ci hw (oRunS cx hA hw q_X0_has k_m_X8_28 (As := [.long a1, .int v21]) (c_X0_has a1 v21) (by decide) rfl hl.1 rfl (Nat.le_of_ble_eq_true rfl) dX8_shareOut_59 (by decide)) (fun v23 σ22 H locs hp hw => ?_)
        obtain ⟨p23_0, p23_1, p23_2, p23_3⟩ := hp
        rw [p23_0] at hw
        have frE_77 := fr
        have J_77 : ∀ (σ_77 : oSt) (H : Heap) (locs : List Loc), oI A L τ cy D s.heap σ_77 H locs → oFr τ fs_X8_shareOut ts_X8_shareOut σ σ_77 → ∀ (ls : Array Slot), lv_has ls 9 [(0, .ref a0), (1, .long a1), (3, .int a2), (4, .int v8), (5, .long v12), (7, .int j42_7), (8, .int v21)] → W p l e ({ frames := 1, cells := 0, slots := 0, locals := 22 } : Room) s m args below meth c H locs 0 0 Q (F0 m 77 ls []) := by
          intro  σ_77 H locs hw fr      ls hl
          have fr_77 := fr
          obtain ⟨v24, e24⟩ : ∃ y : Int32, y = j42_7 + 1 := ⟨_, rfl⟩
          have i24 : Iv v24 1 4 := iv_add e24 i19 (⟨by decide, by decide⟩ : Iv 1 1 1) (by decide)
          have x24 : v24.toInt = j42_7.toInt + 1 := ex_add e24 i19 (⟨by decide, by decide⟩ : Iv 1 1 1) (by decide)
          refine lv_iinc (v := v24) (lv' := [(7, .int v24), (0, .ref a0), (1, .long a1), (3, .int a2), (4, .int v8), (5, .long v12), (8, .int v21)]) hx hb dX8_shareOut_77 hl (k := 5) rfl (by rw [e24]; rfl) (by decide) rfl (fun ls hl => ?_)
          refine lv_goto (tgt := 42) hx hb dX8_shareOut_80 (by decide) ?_
          exact ih_42 v24 (iv_w i24 (by decide)) σ_77 _ _ hw fr (ms_up x24 (by decide) (iv_w (a' := 0) (b' := 4) i24 (by decide)).2 hn_42) _ (lv_sub hl [1, 2, 3, 4, 5, 0] rfl)
        refine lv_if_eq (tgt := 77) hx hb dX8_shareOut_62 (by decide) (fun c25 => ?_) (fun c25 => ?_)
        · --
          have i26 : Iv v23 0 0 := iv_eq1 c25 p23_1 (⟨by decide, by decide⟩ : Iv 0 0 0) (by decide)
          exact J_77 σ_42 _ _ hw fr _ (lv_sub hl [1, 2, 3, 4, 5, 6, 0] rfl)
        · --
          have i27 : Iv v23 1 1 := iv_ne1 c25 p23_1 (⟨by decide, by decide⟩ : Iv 0 0 0) (by decide)
          have i28 : Iv v21 0 63 := p23_2 c25
          refine lv_aload_n hx hb dX8_shareOut_65 rfl (lv_at hl 1 rfl) ?_
          refine g_450 cx hw ha0 k_f_X8_19 dX8_shareOut_66 (fun v29 e29 h29 => ?_)
          rw [show v29 = v13 from Option.some.inj (e29.symm.trans (((kr_c fr_42 (by decide)).trans ((kr_c frE_42 (by decide)).symm.trans (((kr_q eσ16).trans e13))))))]
          refine lv_iload hx hb dX8_shareOut_69 (lv_at hl 0 rfl) ?_
          refine lv_dup2_11 hx hb dX8_shareOut_71 rfl rfl ?_
          refine o_lald cx hw h13 (by decide) rfl (iv_in i28 (by decide)) dX8_shareOut_72 (fun v30 e30 => ?_)
          refine lv_lload hx hb dX8_shareOut_73 (lv_at hl 5 rfl) ?_
          refine lv_ladd hx hb dX8_shareOut_75 ?_
          refine lv_topl (fun v31 e31 => ?_)
          refine o_last cx hw h13 (by decide) rfl (iv_in i28 (by decide)) dX8_shareOut_76 (fun σ32 H locs eσ32 hw => ?_)
          have fr := oFr_q fr eσ32 h13 (by decide)
          exact J_77 σ32 _ _ hw fr _ (lv_sub hl [1, 2, 3, 4, 5, 6, 0] rfl)
  exact J_42 _ 0 (iv_w (⟨by decide, by decide⟩ : Iv 0 0 0) (by decide)) σ16 _ _ hw fr (Nat.lt_succ_self _) _ (lv_sub hl [3, 4, 5, 2, 1, 0] rfl)
abbrev fs_X8_stray : List Nat := []
abbrev ts_X8_stray : List Nat := [39]
set_option maxHeartbeats 4000000 in
set_option maxRecDepth 100000 in
theorem c_X8_stray (a0 : Nat) (ha0 : oA L τ a0 7) (a1 : Int64) (a2 : Int32) (a3 : Int32) : oMet l A L τ cy D K yX8_stray cX8_stray 7 none 2 60 [.ref a0, .long a1, .int a2, .int a3] σ (va_Qv (fun σ1 => oFr τ fs_X8_stray ts_X8_stray σ σ1) (oPo A L τ cy D) A) := by
  refine oMk (by decide) (Nat.le_of_ble_eq_true rfl) rfl ?_
  intro p e s m args below meth c ls cx rx hA hw hl
  generalize hQ : MQ below _ args s 0 0 A = Q
  have hx := cx.1.1
  have hb := cx.1.2.1
  have hml := cx.1.2.2.1
  have hown := cx.1.2.2.2.1
  have hts := cx.1.2.2.2.2
  have hl : lv_has ls 7 [(0, .ref a0), (1, .long a1), (3, .int a2), (4, .int a3)] := hl
  have fr : oFr τ fs_X8_stray ts_X8_stray σ σ := oFr_rf
  refine lv_aload_n hx hb dX8_stray_0 rfl (lv_at hl 0 rfl) ?_
  refine g_449 cx hw ha0 k_f_X8_15 dX8_stray_1 (fun v1 e1 h1 => ?_)
  refine lv_lconst (v := 0) hx hb dX8_stray_4 (by decide) ?_
  refine o_cv hw (oRunS cx hA hw q_J7_fill_d0a16 k_m_X8_44 (As := [.ref v1, .long 0]) (c_J7_fill_d0a16 v1 h1 0) (by decide) rfl hl.1 rfl (Nat.le_of_ble_eq_true rfl) dX8_stray_5 (by decide)) (fun σ2 H locs hp hw => ?_)
  have p3_0 := hp
  have fr := oFr_tr fr p3_0 (by decide)
  refine lv_lload_n hx hb dX8_stray_8 rfl (lv_at hl 1 rfl) ?_
  refine lv_iload_n hx hb dX8_stray_9 rfl (lv_at hl 2 rfl) ?_
  refine o_ci hw (oRunS cx hA hw q_X0_has k_m_X8_28 (As := [.long a1, .int a2]) (c_X0_has a1 a2) (by decide) rfl hl.1 rfl (Nat.le_of_ble_eq_true rfl) dX8_stray_10 (by decide)) (fun v5 σ4 H locs hp hw => ?_)
  obtain ⟨p5_0, p5_1, p5_2, p5_3⟩ := hp
  rw [p5_0] at hw
  have frE_25 := fr
  have J_25 : ∀ (σ_25 : oSt) (H : Heap) (locs : List Loc), oI A L τ cy D s.heap σ_25 H locs → oFr τ fs_X8_stray ts_X8_stray σ σ_25 → ∀ (ls : Array Slot), lv_has ls 7 [(0, .ref a0), (1, .long a1), (3, .int a2), (4, .int a3)] → W p l e ({ frames := 2, cells := 0, slots := 0, locals := 60 } : Room) s m args below meth c H locs 0 0 Q (F0 m 25 ls []) := by
    intro  σ_25 H locs hw fr      ls hl
    have fr_25 := fr
    refine lv_iconst (v := 0) hx hb dX8_stray_25 (by decide) ?_
    refine lv_istore (lv' := [(5, .int 0), (0, .ref a0), (1, .long a1), (3, .int a2), (4, .int a3)]) hx hb dX8_stray_26 hl (by decide) rfl (fun ls hl => ?_)
    have frE_28 := fr
    have J_28 : ∀ n28 : Nat, ∀ (j28_5 : Int32) (ij28_5 : Iv j28_5 0 2147483647), ∀ (σ_28 : oSt) (H : Heap) (locs : List Loc), oI A L τ cy D s.heap σ_28 H locs → oFr τ fs_X8_stray ts_X8_stray σ σ_28 → (2147483647 - j28_5.toInt).toNat < n28 → ∀ (ls : Array Slot), lv_has ls 7 [(0, .ref a0), (1, .long a1), (3, .int a2), (4, .int a3), (5, .int j28_5)] → W p l e ({ frames := 2, cells := 0, slots := 0, locals := 60 } : Room) s m args below meth c H locs 0 0 Q (F0 m 28 ls []) := by
      intro n28
      induction n28 with
      | zero => intro j28_5 ij28_5 σ_28 H locs hw fr   hn_28   ls hl; exact absurd hn_28 (Nat.not_lt_zero _)
      | succ n28 ih_28 =>
        intro j28_5 ij28_5 σ_28 H locs hw fr   hn_28   ls hl
        have fr_28 := fr
        refine lv_iload hx hb dX8_stray_28 (lv_at hl 4 rfl) ?_
        refine lv_iload hx hb dX8_stray_30 (lv_at hl 3 rfl) ?_
        refine lv_icmp_ge (tgt := 99) hx hb dX8_stray_32 (by decide) (fun c6 => ?_) (fun c6 => ?_)
        · --
          rw [← hQ]
          exact o_rv cx rx hw dX8_stray_99 fr
        · --
          have i7 : Iv j28_5 0 2147483646 := iv_lt1 (iv_nle c6) ij28_5 (iv_top a3) (by decide)
          have i8 : Iv a3 1 2147483647 := iv_lt2 (iv_nle c6) ij28_5 (iv_top a3) (by decide)
          refine lv_aload_n hx hb dX8_stray_35 rfl (lv_at hl 0 rfl) ?_
          refine g_450 cx hw ha0 k_f_X8_19 dX8_stray_36 (fun v9 e9 h9 => ?_)
          refine lv_lconst (v := 0) hx hb dX8_stray_39 (by decide) ?_
          refine o_cv hw (oRunS cx hA hw q_J7_fill_d0a16 k_m_X8_44 (As := [.ref v9, .long 0]) (c_J7_fill_d0a16 v9 h9 0) (by decide) rfl hl.1 rfl (Nat.le_of_ble_eq_true rfl) dX8_stray_40 (by decide)) (fun σ10 H locs hp hw => ?_)
          have p11_0 := hp
          have fr := oFr_tr fr p11_0 (by decide)
          refine lv_iconst (v := 0) hx hb dX8_stray_43 (by decide) ?_
          refine lv_istore (lv' := [(6, .int 0), (0, .ref a0), (1, .long a1), (3, .int a2), (4, .int a3), (5, .int j28_5)]) hx hb dX8_stray_44 hl (by decide) rfl (fun ls hl => ?_)
          have frE_46 := fr
          have J_46 : ∀ n46 : Nat, ∀ (j46_6 : Int32) (ij46_6 : Iv j46_6 0 64), ∀ (σ_46 : oSt) (H : Heap) (locs : List Loc), oI A L τ cy D s.heap σ_46 H locs → oFr τ fs_X8_stray ts_X8_stray σ σ_46 → (64 - j46_6.toInt).toNat < n46 → ∀ (ls : Array Slot), lv_has ls 7 [(0, .ref a0), (1, .long a1), (3, .int a2), (4, .int a3), (5, .int j28_5), (6, .int j46_6)] → W p l e ({ frames := 2, cells := 0, slots := 0, locals := 60 } : Room) s m args below meth c H locs 0 0 Q (F0 m 46 ls []) := by
            intro n46
            induction n46 with
            | zero => intro j46_6 ij46_6 σ_46 H locs hw fr   hn_46   ls hl; exact absurd hn_46 (Nat.not_lt_zero _)
            | succ n46 ih_46 =>
              intro j46_6 ij46_6 σ_46 H locs hw fr   hn_46   ls hl
              have fr_46 := fr
              refine lv_iload hx hb dX8_stray_46 (lv_at hl 5 rfl) ?_
              refine lv_bipush (v := 64) hx hb dX8_stray_48 (by decide) ?_
              refine lv_icmp_ge (tgt := 78) hx hb dX8_stray_50 (by decide) (fun c12 => ?_) (fun c12 => ?_)
              · --
                have i13 : Iv j46_6 64 64 := iv_le2 c12 (⟨by decide, by decide⟩ : Iv 64 64 64) ij46_6 (by decide)
                refine lv_aload_n hx hb dX8_stray_78 rfl (lv_at hl 0 rfl) ?_
                refine g_450 cx hw ha0 k_f_X8_19 dX8_stray_79 (fun v14 e14 h14 => ?_)
                rw [show v14 = v9 from Option.some.inj (e14.symm.trans (((kr_c fr_46 (by decide)).trans ((kr_c frE_46 (by decide)).symm.trans (((kr_c p11_0 (by decide)).trans e9))))))]
                refine lv_iconst (v := 0) hx hb dX8_stray_82 (by decide) ?_
                refine lv_aload_n hx hb dX8_stray_83 rfl (lv_at hl 0 rfl) ?_
                refine g_449 cx hw ha0 k_f_X8_15 dX8_stray_84 (fun v15 e15 h15 => ?_)
                rw [show v15 = v1 from Option.some.inj (e15.symm.trans (((kr_c fr_46 (by decide)).trans ((kr_c frE_46 (by decide)).symm.trans (((kr_c p11_0 (by decide)).trans ((kr_c fr_28 (by decide)).trans ((kr_c frE_28 (by decide)).symm.trans (((kr_c fr_25 (by decide)).trans ((kr_c frE_25 (by decide)).symm.trans (((kr_c p3_0 (by decide)).trans e1)))))))))))))]
                refine lv_iconst (v := 0) hx hb dX8_stray_87 (by decide) ?_
                refine lv_bipush (v := 64) hx hb dX8_stray_88 (by decide) ?_
                refine o_copyl cx hw h9 h1 (by decide) rfl (by decide) k_m_X8_50 hl.1 (by decide) (Nat.le_of_ble_eq_true rfl) dX8_stray_90 (fun σ16 H locs eσ16 hw => ?_)
                have fr := oFr_q fr eσ16 h1 (by decide)
                obtain ⟨v17, e17⟩ : ∃ y : Int32, y = j28_5 + 1 := ⟨_, rfl⟩
                have i17 : Iv v17 1 2147483647 := iv_add e17 i7 (⟨by decide, by decide⟩ : Iv 1 1 1) (by decide)
                have x17 : v17.toInt = j28_5.toInt + 1 := ex_add e17 i7 (⟨by decide, by decide⟩ : Iv 1 1 1) (by decide)
                refine lv_iinc (v := v17) (lv' := [(5, .int v17), (0, .ref a0), (1, .long a1), (3, .int a2), (4, .int a3), (6, .int j46_6)]) hx hb dX8_stray_93 hl (k := 4) rfl (by rw [e17]; rfl) (by decide) rfl (fun ls hl => ?_)
                refine lv_goto (tgt := 28) hx hb dX8_stray_96 (by decide) ?_
                exact ih_28 v17 (iv_w i17 (by decide)) σ16 _ _ hw fr (ms_up x17 (by decide) (iv_w (a' := 0) (b' := 2147483647) i17 (by decide)).2 hn_28) _ (lv_sub hl [1, 2, 3, 4, 0] rfl)
              · --
                have i18 : Iv j46_6 0 63 := iv_lt1 (iv_nle c12) ij46_6 (⟨by decide, by decide⟩ : Iv 64 64 64) (by decide)
                refine lv_aload_n hx hb dX8_stray_53 rfl (lv_at hl 0 rfl) ?_
                refine g_449 cx hw ha0 k_f_X8_15 dX8_stray_54 (fun v19 e19 h19 => ?_)
                rw [show v19 = v1 from Option.some.inj (e19.symm.trans (((kr_c fr_46 (by decide)).trans ((kr_c frE_46 (by decide)).symm.trans (((kr_c p11_0 (by decide)).trans ((kr_c fr_28 (by decide)).trans ((kr_c frE_28 (by decide)).symm.trans (((kr_c fr_25 (by decide)).trans ((kr_c frE_25 (by decide)).symm.trans (((kr_c p3_0 (by decide)).trans e1)))))))))))))]
                refine lv_iload hx hb dX8_stray_57 (lv_at hl 5 rfl) ?_
                refine o_lald cx hw h1 (by decide) rfl (iv_in i18 (by decide)) dX8_stray_59 (fun v20 e20 => ?_)
                refine lv_lconst (v := 0) hx hb dX8_stray_60 (by decide) ?_
                refine W.lcmp hx hb dX8_stray_61 ?_
                refine lv_topi (fun v21 e21 => ?_)
                have i21 : Iv v21 (-1) 1 := iv_lcmp e21
                have frE_72 := fr
                have J_72 : ∀ (σ_72 : oSt) (H : Heap) (locs : List Loc), oI A L τ cy D s.heap σ_72 H locs → oFr τ fs_X8_stray ts_X8_stray σ σ_72 → ∀ (ls : Array Slot), lv_has ls 7 [(0, .ref a0), (1, .long a1), (3, .int a2), (4, .int a3), (5, .int j28_5), (6, .int j46_6)] → W p l e ({ frames := 2, cells := 0, slots := 0, locals := 60 } : Room) s m args below meth c H locs 0 0 Q (F0 m 72 ls []) := by
                  intro  σ_72 H locs hw fr      ls hl
                  have fr_72 := fr
                  obtain ⟨v22, e22⟩ : ∃ y : Int32, y = j46_6 + 1 := ⟨_, rfl⟩
                  have i22 : Iv v22 1 64 := iv_add e22 i18 (⟨by decide, by decide⟩ : Iv 1 1 1) (by decide)
                  have x22 : v22.toInt = j46_6.toInt + 1 := ex_add e22 i18 (⟨by decide, by decide⟩ : Iv 1 1 1) (by decide)
                  refine lv_iinc (v := v22) (lv' := [(6, .int v22), (0, .ref a0), (1, .long a1), (3, .int a2), (4, .int a3), (5, .int j28_5)]) hx hb dX8_stray_72 hl (k := 5) rfl (by rw [e22]; rfl) (by decide) rfl (fun ls hl => ?_)
                  refine lv_goto (tgt := 46) hx hb dX8_stray_75 (by decide) ?_
                  exact ih_46 v22 (iv_w i22 (by decide)) σ_72 _ _ hw fr (ms_up x22 (by decide) (iv_w (a' := 0) (b' := 64) i22 (by decide)).2 hn_46) _ (lv_sub hl [1, 2, 3, 4, 5, 0] rfl)
                refine lv_if_le (tgt := 72) hx hb dX8_stray_62 (by decide) (fun c23 => ?_) (fun c23 => ?_)
                · --
                  have i24 : Iv v21 (-1) 0 := iv_le1 c23 i21 (⟨by decide, by decide⟩ : Iv 0 0 0) (by decide)
                  exact J_72 σ_46 _ _ hw fr _ (lv_sub hl [0, 1, 2, 3, 4, 5] rfl)
                · --
                  have i25 : Iv v21 1 1 := iv_lt2 (iv_nle c23) (⟨by decide, by decide⟩ : Iv 0 0 0) i21 (by decide)
                  refine lv_aload_n hx hb dX8_stray_65 rfl (lv_at hl 0 rfl) ?_
                  refine lv_lload_n hx hb dX8_stray_66 rfl (lv_at hl 1 rfl) ?_
                  refine lv_iload hx hb dX8_stray_67 (lv_at hl 5 rfl) ?_
                  refine o_cv hw (oRunV cx hA hw q_X8_shareOut k_m_X8_68 rfl ha0 (by decide) (As := [.long a1, .int j46_6]) (c_X8_shareOut a0 ha0 a1 j46_6 (iv_w i18 (by decide))) (by decide) rfl hl.1 rfl (Nat.le_of_ble_eq_true rfl) dX8_stray_69 (by decide)) (fun σ26 H locs hp hw => ?_)
                  have p27_0 := hp
                  have fr := oFr_tr fr p27_0 (by decide)
                  exact J_72 σ26 _ _ hw fr _ (lv_sub hl [0, 1, 2, 3, 4, 5] rfl)
          exact J_46 _ 0 (iv_w (⟨by decide, by decide⟩ : Iv 0 0 0) (by decide)) σ10 _ _ hw fr (Nat.lt_succ_self _) _ (lv_sub hl [1, 2, 3, 4, 5, 0] rfl)
    exact J_28 _ 0 (iv_w (⟨by decide, by decide⟩ : Iv 0 0 0) (by decide)) σ_25 _ _ hw fr (Nat.lt_succ_self _) _ (lv_sub hl [1, 2, 3, 4, 0] rfl)
  refine lv_if_eq (tgt := 25) hx hb dX8_stray_13 (by decide) (fun c28 => ?_) (fun c28 => ?_)
  · --
    have i29 : Iv v5 0 0 := iv_eq1 c28 p5_1 (⟨by decide, by decide⟩ : Iv 0 0 0) (by decide)
    exact J_25 σ2 _ _ hw fr _ (lv_sub hl [0, 1, 2, 3] rfl)
  · --
    have i30 : Iv v5 1 1 := iv_ne1 c28 p5_1 (⟨by decide, by decide⟩ : Iv 0 0 0) (by decide)
    have i31 : Iv a2 0 63 := p5_2 c28
    refine lv_aload_n hx hb dX8_stray_16 rfl (lv_at hl 0 rfl) ?_
    refine g_449 cx hw ha0 k_f_X8_15 dX8_stray_17 (fun v32 e32 h32 => ?_)
    rw [show v32 = v1 from Option.some.inj (e32.symm.trans (((kr_c p3_0 (by decide)).trans e1)))]
    refine lv_iload_n hx hb dX8_stray_20 rfl (lv_at hl 2 rfl) ?_
    refine lv_ldc2 (v := 1000000) hx hb hown (hts _ k_k_X8_60) dX8_stray_21 ?_
    refine o_last cx hw h1 (by decide) rfl (iv_in i31 (by decide)) dX8_stray_24 (fun σ33 H locs eσ33 hw => ?_)
    have fr := oFr_q fr eσ33 h1 (by decide)
    exact J_25 σ33 _ _ hw fr _ (lv_sub hl [0, 1, 2, 3] rfl)
set_option maxHeartbeats 4000000 in
set_option maxRecDepth 100000 in
theorem c_X8_likeliest (a0 : Nat) (ha0 : oA L τ a0 7) : oMet l A L τ cy D K yX8_likeliest cX8_likeliest 5 (some .int) 0 0 [.ref a0] σ (va_Qi (fun r σ1 => σ1 = σ ∧ Iv r (-1) 63) (oPo A L τ cy D) A) := by
  refine oMk (by decide) (Nat.le_of_ble_eq_true rfl) rfl ?_
  intro p e s m args below meth c ls cx rx hA hw hl
  generalize hQ : MQ below _ args s 0 0 A = Q
  have hx := cx.1.1
  have hb := cx.1.2.1
  have hml := cx.1.2.2.1
  have hown := cx.1.2.2.2.1
  have hts := cx.1.2.2.2.2
  have hl : lv_has ls 5 [(0, .ref a0)] := hl
  refine lv_iconst (v := (-1)) hx hb dX8_likeliest_0 (by decide) ?_
  refine lv_istore_n (lv' := [(1, .int (-1)), (0, .ref a0)]) hx hb dX8_likeliest_1 rfl hl (by decide) rfl (fun ls hl => ?_)
  refine lv_lconst (v := 0) hx hb dX8_likeliest_2 (by decide) ?_
  refine lv_lstore_n (lv' := [(2, .long 0), (1, .int (-1)), (0, .ref a0)]) hx hb dX8_likeliest_3 rfl hl (by decide) rfl (fun ls hl => ?_)
  refine lv_iconst (v := 0) hx hb dX8_likeliest_4 (by decide) ?_
  refine lv_istore (lv' := [(4, .int 0), (2, .long 0), (1, .int (-1)), (0, .ref a0)]) hx hb dX8_likeliest_5 hl (by decide) rfl (fun ls hl => ?_)
  have J_7 : ∀ n7 : Nat, ∀ (j7_1 : Int32) (ij7_1 : Iv j7_1 (-1) 63) (j7_2 : Int64) (j7_4 : Int32) (ij7_4 : Iv j7_4 0 64), ∀ (H : Heap) (locs : List Loc), oI A L τ cy D s.heap σ H locs → (64 - j7_4.toInt).toNat < n7 → ∀ (ls : Array Slot), lv_has ls 5 [(0, .ref a0), (1, .int j7_1), (2, .long j7_2), (4, .int j7_4)] → W p l e ({ frames := 0, cells := 0, slots := 0, locals := 0 } : Room) s m args below meth c H locs 0 0 Q (F0 m 7 ls []) := by
    intro n7
    induction n7 with
    | zero => intro j7_1 ij7_1 j7_2 j7_4 ij7_4 H locs hw  hn_7   ls hl; exact absurd hn_7 (Nat.not_lt_zero _)
    | succ n7 ih_7 =>
      intro j7_1 ij7_1 j7_2 j7_4 ij7_4 H locs hw  hn_7   ls hl
      refine lv_iload hx hb dX8_likeliest_7 (lv_at hl 3 rfl) ?_
      refine lv_bipush (v := 64) hx hb dX8_likeliest_9 (by decide) ?_
      refine lv_icmp_ge (tgt := 43) hx hb dX8_likeliest_11 (by decide) (fun c1 => ?_) (fun c1 => ?_)
      · --
        have i2 : Iv j7_4 64 64 := iv_le2 c1 (⟨by decide, by decide⟩ : Iv 64 64 64) ij7_4 (by decide)
        refine lv_iload_n hx hb dX8_likeliest_43 rfl (lv_at hl 1 rfl) ?_
        rw [← hQ]
        exact o_ri cx rx hw dX8_likeliest_44 ⟨rfl, (iv_w ij7_1 (by decide))⟩
      · --
        have i3 : Iv j7_4 0 63 := iv_lt1 (iv_nle c1) ij7_4 (⟨by decide, by decide⟩ : Iv 64 64 64) (by decide)
        refine lv_aload_n hx hb dX8_likeliest_14 rfl (lv_at hl 0 rfl) ?_
        refine g_449 cx hw ha0 k_f_X8_15 dX8_likeliest_15 (fun v4 e4 h4 => ?_)
        refine lv_iload hx hb dX8_likeliest_18 (lv_at hl 3 rfl) ?_
        refine o_lald cx hw h4 (by decide) rfl (iv_in i3 (by decide)) dX8_likeliest_20 (fun v5 e5 => ?_)
        refine lv_lload_n hx hb dX8_likeliest_21 rfl (lv_at hl 2 rfl) ?_
        refine W.lcmp hx hb dX8_likeliest_22 ?_
        refine lv_topi (fun v6 e6 => ?_)
        have i6 : Iv v6 (-1) 1 := iv_lcmp e6
        have J_37 : ∀ (j37_1 : Int32) (ij37_1 : Iv j37_1 (-1) 63) (j37_2 : Int64), ∀ (H : Heap) (locs : List Loc), oI A L τ cy D s.heap σ H locs → ∀ (ls : Array Slot), lv_has ls 5 [(0, .ref a0), (1, .int j37_1), (2, .long j37_2), (4, .int j7_4)] → W p l e ({ frames := 0, cells := 0, slots := 0, locals := 0 } : Room) s m args below meth c H locs 0 0 Q (F0 m 37 ls []) := by
          intro j37_1 ij37_1 j37_2 H locs hw     ls hl
          obtain ⟨v7, e7⟩ : ∃ y : Int32, y = j7_4 + 1 := ⟨_, rfl⟩
          have i7 : Iv v7 1 64 := iv_add e7 i3 (⟨by decide, by decide⟩ : Iv 1 1 1) (by decide)
          have x7 : v7.toInt = j7_4.toInt + 1 := ex_add e7 i3 (⟨by decide, by decide⟩ : Iv 1 1 1) (by decide)
          refine lv_iinc (v := v7) (lv' := [(4, .int v7), (0, .ref a0), (1, .int j37_1), (2, .long j37_2)]) hx hb dX8_likeliest_37 hl (k := 3) rfl (by rw [e7]; rfl) (by decide) rfl (fun ls hl => ?_)
          refine lv_goto (tgt := 7) hx hb dX8_likeliest_40 (by decide) ?_
          exact ih_7 j37_1 ij37_1 j37_2 v7 (iv_w i7 (by decide)) _ _ hw (ms_up x7 (by decide) (iv_w (a' := 0) (b' := 64) i7 (by decide)).2 hn_7) _ (lv_sub hl [1, 2, 3, 0] rfl)
        refine lv_if_le (tgt := 37) hx hb dX8_likeliest_23 (by decide) (fun c8 => ?_) (fun c8 => ?_)
        · --
          have i9 : Iv v6 (-1) 0 := iv_le1 c8 i6 (⟨by decide, by decide⟩ : Iv 0 0 0) (by decide)
          exact J_37 j7_1 ij7_1 j7_2 _ _ hw _ (lv_sub hl [0, 1, 2, 3] rfl)
        · --
          have i10 : Iv v6 1 1 := iv_lt2 (iv_nle c8) (⟨by decide, by decide⟩ : Iv 0 0 0) i6 (by decide)
          refine lv_aload_n hx hb dX8_likeliest_26 rfl (lv_at hl 0 rfl) ?_
          refine g_449 cx hw ha0 k_f_X8_15 dX8_likeliest_27 (fun v11 e11 h11 => ?_)
          rw [show v11 = v4 from Option.some.inj (e11.symm.trans (e4))]
          refine lv_iload hx hb dX8_likeliest_30 (lv_at hl 3 rfl) ?_
          refine o_lald cx hw h4 (by decide) rfl (iv_in i3 (by decide)) dX8_likeliest_32 (fun v12 e12 => ?_)
          refine lv_lstore_n (lv' := [(2, .long v12), (0, .ref a0), (1, .int j7_1), (4, .int j7_4)]) hx hb dX8_likeliest_33 rfl hl (by decide) rfl (fun ls hl => ?_)
          refine lv_iload hx hb dX8_likeliest_34 (lv_at hl 3 rfl) ?_
          refine lv_istore_n (lv' := [(1, .int j7_4), (2, .long v12), (0, .ref a0), (4, .int j7_4)]) hx hb dX8_likeliest_36 rfl hl (by decide) rfl (fun ls hl => ?_)
          exact J_37 j7_4 (iv_w i3 (by decide)) v12 _ _ hw _ (lv_sub hl [2, 0, 1, 3] rfl)
  exact J_7 _ (-1) (iv_w (⟨by decide, by decide⟩ : Iv (-1) (-1) (-1)) (by decide)) 0 0 (iv_w (⟨by decide, by decide⟩ : Iv 0 0 0) (by decide)) _ _ hw (Nat.lt_succ_self _) _ (lv_sub hl [3, 2, 1, 0] rfl)
set_option maxHeartbeats 4000000 in
set_option maxRecDepth 100000 in
theorem c_X2_cellToldAs (a0 : Nat) (ha0 : oA L τ a0 1) (a1 : Int32) : oMet l A L τ cy D K yX2_cellToldAs cX2_cellToldAs 2 (some .int) 0 0 [.ref a0, .int a1] σ (va_Qi (fun r σ1 => σ1 = σ) (oPo A L τ cy D) A) := by
  refine oMk (by decide) (Nat.le_of_ble_eq_true rfl) rfl ?_
  intro p e s m args below meth c ls cx rx hA hw hl
  generalize hQ : MQ below _ args s 0 0 A = Q
  have hx := cx.1.1
  have hb := cx.1.2.1
  have hml := cx.1.2.2.1
  have hown := cx.1.2.2.2.1
  have hts := cx.1.2.2.2.2
  have hl : lv_has ls 2 [(0, .ref a0), (1, .int a1)] := hl
  refine lv_aload_n hx hb dX2_cellToldAs_0 rfl (lv_at hl 0 rfl) ?_
  refine g_64 cx hw ha0 k_f_X2_58 dX2_cellToldAs_1 (fun v1 e1 i1 => ?_)
  refine lv_iconst (v := 1) hx hb dX2_cellToldAs_4 (by decide) ?_
  refine lv_icmp_ge (tgt := 12) hx hb dX2_cellToldAs_5 (by decide) (fun c2 => ?_) (fun c2 => ?_)
  · --
    have i3 : Iv v1 1 8 := iv_le2 c2 (⟨by decide, by decide⟩ : Iv 1 1 1) i1 (by decide)
    refine lv_bipush (v := 8) hx hb dX2_cellToldAs_12 (by decide) ?_
    refine lv_iload_n hx hb dX2_cellToldAs_14 rfl (lv_at hl 1 rfl) ?_
    refine lv_aload_n hx hb dX2_cellToldAs_15 rfl (lv_at hl 0 rfl) ?_
    refine g_64 cx hw ha0 k_f_X2_58 dX2_cellToldAs_16 (fun v4 e4 i4 => ?_)
    rw [show v4 = v1 from e4.trans e1.symm]
    refine lv_idiv hx hb dX2_cellToldAs_19 (iv_nz i3 (by decide)) ?_
    refine lv_topi (fun v5 e5 => ?_)
    refine lv_imul hx hb dX2_cellToldAs_20 ?_
    refine lv_topi (fun v6 e6 => ?_)
    refine lv_iload_n hx hb dX2_cellToldAs_21 rfl (lv_at hl 1 rfl) ?_
    refine lv_aload_n hx hb dX2_cellToldAs_22 rfl (lv_at hl 0 rfl) ?_
    refine g_64 cx hw ha0 k_f_X2_58 dX2_cellToldAs_23 (fun v7 e7 i7 => ?_)
    rw [show v7 = v1 from e7.trans e1.symm]
    refine lv_irem hx hb dX2_cellToldAs_26 (iv_nz i3 (by decide)) ?_
    refine lv_topi (fun v8 e8 => ?_)
    have i8 : Iv v8 (-7) 7 := iv_remA e8 i3 (by decide)
    refine lv_iadd hx hb dX2_cellToldAs_27 ?_
    refine lv_topi (fun v9 e9 => ?_)
    rw [← hQ]
    exact o_ri cx rx hw dX2_cellToldAs_28 rfl
  · --
    have i10 : Iv v1 0 0 := iv_lt1 (iv_nle c2) i1 (⟨by decide, by decide⟩ : Iv 1 1 1) (by decide)
    refine lv_iconst (v := (-1)) hx hb dX2_cellToldAs_8 (by decide) ?_
    refine lv_goto (tgt := 28) hx hb dX2_cellToldAs_9 (by decide) ?_
    rw [← hQ]
    exact o_ri cx rx hw dX2_cellToldAs_28 rfl
abbrev fs_X10_passWithFlies : List Nat := [329, 331, 517]
abbrev ts_X10_passWithFlies : List Nat := [32, 33, 37, 38]
set_option maxHeartbeats 4000000 in
set_option maxRecDepth 100000 in
theorem c_X10_passWithFlies (a0 : Nat) (ha0 : oA L τ a0 9) (a1 : Nat) (ha1 : oA L τ a1 5) (a2 : Int32) : oMet l A L τ cy D K yX10_passWithFlies cX10_passWithFlies 5 (some .int) 4 106 [.ref a0, .ref a1, .int a2] σ (va_Qi (fun r σ1 => oFr τ fs_X10_passWithFlies ts_X10_passWithFlies σ σ1) (oPo A L τ cy D) A) := by
  refine oMk (by decide) (Nat.le_of_ble_eq_true rfl) rfl ?_
  intro p e s m args below meth c ls cx rx hA hw hl
  generalize hQ : MQ below _ args s 0 0 A = Q
  have hx := cx.1.1
  have hb := cx.1.2.1
  have hml := cx.1.2.2.1
  have hown := cx.1.2.2.2.1
  have hts := cx.1.2.2.2.2
  have hl : lv_has ls 5 [(0, .ref a0), (1, .ref a1), (2, .int a2)] := hl
  have fr : oFr τ fs_X10_passWithFlies ts_X10_passWithFlies σ σ := oFr_rf
  refine lv_aload_n hx hb dX10_passWithFlies_0 rfl (lv_at hl 0 rfl) ?_
  refine g_578 cx hw ha0 k_f_X10_26 dX10_passWithFlies_1 (fun v1 e1 h1 => ?_)
  refine lv_iload_n hx hb dX10_passWithFlies_4 rfl (lv_at hl 2 rfl) ?_
  refine o_ci hw (oRunV cx hA hw q_X2_isPlain k_m_X10_241 rfl h1 (by decide) (As := [.int a2]) (c_X2_isPlain v1 h1 a2) (by decide) rfl hl.1 rfl (Nat.le_of_ble_eq_true rfl) dX10_passWithFlies_5 (by decide)) (fun v3 σ2 H locs hp hw => ?_)
  obtain ⟨p3_0, p3_1, p3_2, p3_3⟩ := hp
  rw [p3_0] at hw
  refine lv_if_ne (tgt := 20) hx hb dX10_passWithFlies_8 (by decide) (fun c4 => ?_) (fun c4 => ?_)
  · --
    have i5 : Iv v3 1 1 := iv_ne1 c4 p3_1 (⟨by decide, by decide⟩ : Iv 0 0 0) (by decide)
    have i6 : Iv a2 0 63 := p3_2 c4
    refine lv_aload_n hx hb dX10_passWithFlies_20 rfl (lv_at hl 1 rfl) ?_
    refine g_322 cx hw ha1 k_f_X10_151 dX10_passWithFlies_21 (fun v7 e7 h7 => ?_)
    refine lv_iload_n hx hb dX10_passWithFlies_24 rfl (lv_at hl 2 rfl) ?_
    refine o_iald cx hw h7 (by decide) rfl (iv_in i6 (by decide)) dX10_passWithFlies_25 (fun v8 e8 b8 => ?_)
    refine lv_istore_n (lv' := [(3, .int v8), (0, .ref a0), (1, .ref a1), (2, .int a2)]) hx hb dX10_passWithFlies_26 rfl hl (by decide) rfl (fun ls hl => ?_)
    refine lv_aload_n hx hb dX10_passWithFlies_27 rfl (lv_at hl 2 rfl) ?_
    refine g_322 cx hw ha1 k_f_X10_151 dX10_passWithFlies_28 (fun v9 e9 h9 => ?_)
    rw [show v9 = v7 from Option.some.inj (e9.symm.trans (e7))]
    refine lv_iload_n hx hb dX10_passWithFlies_31 rfl (lv_at hl 3 rfl) ?_
    refine lv_bipush (v := 9) hx hb dX10_passWithFlies_32 (by decide) ?_
    refine o_iast cx hw h7 (by decide) rfl (iv_in i6 (by decide)) trivial dX10_passWithFlies_34 (fun σ10 H locs eσ10 hw => ?_)
    have fr := oFr_p fr eσ10 h7 (by decide)
    refine lv_aload_n hx hb dX10_passWithFlies_35 rfl (lv_at hl 1 rfl) ?_
    refine g_580 cx hw ha0 k_f_X10_42 dX10_passWithFlies_36 (fun v11 e11 h11 => ?_)
    refine lv_aload_n hx hb dX10_passWithFlies_39 rfl (lv_at hl 2 rfl) ?_
    refine o_ci hw (oRunV cx hA hw q_X9_pass k_m_X10_269 rfl h11 (by decide) (As := [.ref a1]) (c_X9_pass v11 h11 a1 ha1) (by decide) rfl hl.1 rfl (Nat.le_of_ble_eq_true rfl) dX10_passWithFlies_40 (by decide)) (fun v13 σ12 H locs hp hw => ?_)
    have p13_0 := hp
    have fr := oFr_tr fr p13_0 (by decide)
    refine lv_istore (lv' := [(4, .int v13), (3, .int v8), (0, .ref a0), (1, .ref a1), (2, .int a2)]) hx hb dX10_passWithFlies_43 hl (by decide) rfl (fun ls hl => ?_)
    refine lv_aload_n hx hb dX10_passWithFlies_45 rfl (lv_at hl 3 rfl) ?_
    refine g_322 cx hw ha1 k_f_X10_151 dX10_passWithFlies_46 (fun v14 e14 h14 => ?_)
    rw [show v14 = v7 from Option.some.inj (e14.symm.trans (((kr_c p13_0 (by decide)).trans ((kr_p eσ10).trans e7))))]
    refine lv_iload_n hx hb dX10_passWithFlies_49 rfl (lv_at hl 4 rfl) ?_
    refine lv_iload_n hx hb dX10_passWithFlies_50 rfl (lv_at hl 1 rfl) ?_
    refine o_iast cx hw h7 (by decide) rfl (iv_in i6 (by decide)) trivial dX10_passWithFlies_51 (fun σ15 H locs eσ15 hw => ?_)
    have fr := oFr_p fr eσ15 h7 (by decide)
    refine lv_iload hx hb dX10_passWithFlies_52 (lv_at hl 0 rfl) ?_
    rw [← hQ]
    exact o_ri cx rx hw dX10_passWithFlies_54 fr
  · --
    have i16 : Iv v3 0 0 := iv_eq1 c4 p3_1 (⟨by decide, by decide⟩ : Iv 0 0 0) (by decide)
    refine lv_aload_n hx hb dX10_passWithFlies_11 rfl (lv_at hl 0 rfl) ?_
    refine g_580 cx hw ha0 k_f_X10_42 dX10_passWithFlies_12 (fun v17 e17 h17 => ?_)
    refine lv_aload_n hx hb dX10_passWithFlies_15 rfl (lv_at hl 1 rfl) ?_
    refine o_ci hw (oRunV cx hA hw q_X9_pass k_m_X10_269 rfl h17 (by decide) (As := [.ref a1]) (c_X9_pass v17 h17 a1 ha1) (by decide) rfl hl.1 rfl (Nat.le_of_ble_eq_true rfl) dX10_passWithFlies_16 (by decide)) (fun v19 σ18 H locs hp hw => ?_)
    have p19_0 := hp
    have fr := oFr_tr fr p19_0 (by decide)
    rw [← hQ]
    exact o_ri cx rx hw dX10_passWithFlies_19 fr
set_option maxHeartbeats 4000000 in
set_option maxRecDepth 100000 in
theorem c_X6_grassInAll (a0 : Nat) (ha0 : oA L τ a0 5) : oMet l A L τ cy D K yX6_grassInAll cX6_grassInAll 3 (some .int) 0 0 [.ref a0] σ (va_Qi (fun r σ1 => σ1 = σ) (oPo A L τ cy D) A) := by
  refine oMk (by decide) (Nat.le_of_ble_eq_true rfl) rfl ?_
  intro p e s m args below meth c ls cx rx hA hw hl
  generalize hQ : MQ below _ args s 0 0 A = Q
  have hx := cx.1.1
  have hb := cx.1.2.1
  have hml := cx.1.2.2.1
  have hown := cx.1.2.2.2.1
  have hts := cx.1.2.2.2.2
  have hl : lv_has ls 3 [(0, .ref a0)] := hl
  refine lv_iconst (v := 0) hx hb dX6_grassInAll_0 (by decide) ?_
  refine lv_istore_n (lv' := [(1, .int 0), (0, .ref a0)]) hx hb dX6_grassInAll_1 rfl hl (by decide) rfl (fun ls hl => ?_)
  refine lv_iconst (v := 0) hx hb dX6_grassInAll_2 (by decide) ?_
  refine lv_istore_n (lv' := [(2, .int 0), (1, .int 0), (0, .ref a0)]) hx hb dX6_grassInAll_3 rfl hl (by decide) rfl (fun ls hl => ?_)
  have J_4 : ∀ n4 : Nat, ∀ (j4_1 : Int32) (j4_2 : Int32) (ij4_2 : Iv j4_2 0 64), ∀ (H : Heap) (locs : List Loc), oI A L τ cy D s.heap σ H locs → (64 - j4_2.toInt).toNat < n4 → ∀ (ls : Array Slot), lv_has ls 3 [(0, .ref a0), (1, .int j4_1), (2, .int j4_2)] → W p l e ({ frames := 0, cells := 0, slots := 0, locals := 0 } : Room) s m args below meth c H locs 0 0 Q (F0 m 4 ls []) := by
    intro n4
    induction n4 with
    | zero => intro j4_1 j4_2 ij4_2 H locs hw  hn_4   ls hl; exact absurd hn_4 (Nat.not_lt_zero _)
    | succ n4 ih_4 =>
      intro j4_1 j4_2 ij4_2 H locs hw  hn_4   ls hl
      refine lv_iload_n hx hb dX6_grassInAll_4 rfl (lv_at hl 2 rfl) ?_
      refine lv_bipush (v := 64) hx hb dX6_grassInAll_5 (by decide) ?_
      refine lv_icmp_ge (tgt := 25) hx hb dX6_grassInAll_7 (by decide) (fun c1 => ?_) (fun c1 => ?_)
      · --
        have i2 : Iv j4_2 64 64 := iv_le2 c1 (⟨by decide, by decide⟩ : Iv 64 64 64) ij4_2 (by decide)
        refine lv_iload_n hx hb dX6_grassInAll_25 rfl (lv_at hl 1 rfl) ?_
        rw [← hQ]
        exact o_ri cx rx hw dX6_grassInAll_26 rfl
      · --
        have i3 : Iv j4_2 0 63 := iv_lt1 (iv_nle c1) ij4_2 (⟨by decide, by decide⟩ : Iv 64 64 64) (by decide)
        refine lv_iload_n hx hb dX6_grassInAll_10 rfl (lv_at hl 1 rfl) ?_
        refine lv_aload_n hx hb dX6_grassInAll_11 rfl (lv_at hl 0 rfl) ?_
        refine g_320 cx hw ha0 k_f_X6_9 dX6_grassInAll_12 (fun v4 e4 h4 => ?_)
        refine lv_iload_n hx hb dX6_grassInAll_15 rfl (lv_at hl 2 rfl) ?_
        refine o_iald cx hw h4 (by decide) rfl (iv_in i3 (by decide)) dX6_grassInAll_16 (fun v5 e5 b5 => ?_)
        refine lv_iadd hx hb dX6_grassInAll_17 ?_
        refine lv_topi (fun v6 e6 => ?_)
        refine lv_istore_n (lv' := [(1, .int v6), (0, .ref a0), (2, .int j4_2)]) hx hb dX6_grassInAll_18 rfl hl (by decide) rfl (fun ls hl => ?_)
        obtain ⟨v7, e7⟩ : ∃ y : Int32, y = j4_2 + 1 := ⟨_, rfl⟩
        have i7 : Iv v7 1 64 := iv_add e7 i3 (⟨by decide, by decide⟩ : Iv 1 1 1) (by decide)
        have x7 : v7.toInt = j4_2.toInt + 1 := ex_add e7 i3 (⟨by decide, by decide⟩ : Iv 1 1 1) (by decide)
        refine lv_iinc (v := v7) (lv' := [(2, .int v7), (1, .int v6), (0, .ref a0)]) hx hb dX6_grassInAll_19 hl (k := 2) rfl (by rw [e7]; rfl) (by decide) rfl (fun ls hl => ?_)
        refine lv_goto (tgt := 4) hx hb dX6_grassInAll_22 (by decide) ?_
        exact ih_4 v6 v7 (iv_w i7 (by decide)) _ _ hw (ms_up x7 (by decide) (iv_w (a' := 0) (b' := 64) i7 (by decide)).2 hn_4) _ (lv_sub hl [2, 1, 0] rfl)
  exact J_4 _ 0 0 (iv_w (⟨by decide, by decide⟩ : Iv 0 0 0) (by decide)) _ _ hw (Nat.lt_succ_self _) _ (lv_sub hl [2, 1, 0] rfl)
set_option maxHeartbeats 4000000 in
set_option maxRecDepth 100000 in
theorem c_X11_in (a0 : Int32) (a1 : Int32) (a2 : Int32) : oMet l A L τ cy D K yX11_in cX11_in 3 (some .boolean) 0 0 [.int a0, .int a1, .int a2] σ (va_Qi (fun r σ1 => σ1 = σ ∧ Iv r 0 1 ∧ (¬ r = 0 → a1 ≤ a0 ∧ a0 ≤ a2) ∧ (INN r.toInt a0.toInt a1.toInt a2.toInt) ∧ ((r.toInt = 1 ∧ a1.toInt ≤ a0.toInt ∧ a0.toInt ≤ a2.toInt) ∨ (r.toInt = 0 ∧ (a0.toInt < a1.toInt ∨ a2.toInt < a0.toInt))) ∧ (r = if a1 ≤ a0 ∧ a0 ≤ a2 then 1 else 0)) (oPo A L τ cy D) A) := by
  refine oMk (by decide) (Nat.le_of_ble_eq_true rfl) rfl ?_
  intro p e s m args below meth c ls cx rx hA hw hl
  generalize hQ : MQ below _ args s 0 0 A = Q
  have hx := cx.1.1
  have hb := cx.1.2.1
  have hml := cx.1.2.2.1
  have hown := cx.1.2.2.2.1
  have hts := cx.1.2.2.2.2
  have hl : lv_has ls 3 [(0, .int a0), (1, .int a1), (2, .int a2)] := hl
  refine lv_iload_n hx hb dX11_in_0 rfl (lv_at hl 0 rfl) ?_
  refine lv_iload_n hx hb dX11_in_1 rfl (lv_at hl 1 rfl) ?_
  refine lv_icmp_lt (tgt := 14) hx hb dX11_in_2 (by decide) (fun c1 => ?_) (fun c1 => ?_)
  · --
    have i2 : Iv a0 (-2147483648) 2147483646 := iv_lt1 c1 (iv_top a0) (iv_top a1) (by decide)
    have i3 : Iv a1 (-2147483647) 2147483647 := iv_lt2 c1 (iv_top a0) (iv_top a1) (by decide)
    refine lv_iconst (v := 0) hx hb dX11_in_14 (by decide) ?_
    rw [← hQ]
    exact o_rz cx rx hw (iv_nz01 (iv_w (⟨by decide, by decide⟩ : Iv 0 0 0) (by decide))) dX11_in_15 ⟨rfl, (iv_w (⟨by decide, by decide⟩ : Iv 0 0 0) (by decide)), (fun h => absurd rfl h), (by unfold INN; exact (by have := (i2).1; have := (i2).2; have := (i3).1; have := (i3).2; have : (a0 : Int32).toInt < (a1 : Int32).toInt := iv_lt.mp c1; have : (0 : Int32).toInt = 0 := (by decide); omega)), (by exact (by have := (i2).1; have := (i2).2; have := (i3).1; have := (i3).2; have : (a0 : Int32).toInt < (a1 : Int32).toInt := iv_lt.mp c1; have : (0 : Int32).toInt = 0 := (by decide); omega)), (by exact in_f1 c1)⟩
  · --
    refine lv_iload_n hx hb dX11_in_5 rfl (lv_at hl 0 rfl) ?_
    refine lv_iload_n hx hb dX11_in_6 rfl (lv_at hl 2 rfl) ?_
    refine lv_icmp_gt (tgt := 14) hx hb dX11_in_7 (by decide) (fun c4 => ?_) (fun c4 => ?_)
    · --
      have i5 : Iv a2 (-2147483648) 2147483646 := iv_lt1 c4 (iv_top a2) (iv_top a0) (by decide)
      have i6 : Iv a0 (-2147483647) 2147483647 := iv_lt2 c4 (iv_top a2) (iv_top a0) (by decide)
      refine lv_iconst (v := 0) hx hb dX11_in_14 (by decide) ?_
      rw [← hQ]
      exact o_rz cx rx hw (iv_nz01 (iv_w (⟨by decide, by decide⟩ : Iv 0 0 0) (by decide))) dX11_in_15 ⟨rfl, (iv_w (⟨by decide, by decide⟩ : Iv 0 0 0) (by decide)), (fun h => absurd rfl h), (by unfold INN; exact (by have := (i6).1; have := (i6).2; have := (i5).1; have := (i5).2; have : (a1 : Int32).toInt ≤ (a0 : Int32).toInt := iv_le.mp (iv_nlt c1); have : (a2 : Int32).toInt < (a0 : Int32).toInt := iv_lt.mp c4; have : (0 : Int32).toInt = 0 := (by decide); omega)), (by exact (by have := (i6).1; have := (i6).2; have := (i5).1; have := (i5).2; have : (a1 : Int32).toInt ≤ (a0 : Int32).toInt := iv_le.mp (iv_nlt c1); have : (a2 : Int32).toInt < (a0 : Int32).toInt := iv_lt.mp c4; have : (0 : Int32).toInt = 0 := (by decide); omega)), (by exact in_f2 c4)⟩
    · --
      refine lv_iconst (v := 1) hx hb dX11_in_10 (by decide) ?_
      refine lv_goto (tgt := 15) hx hb dX11_in_11 (by decide) ?_
      rw [← hQ]
      exact o_rz cx rx hw (iv_nz01 (iv_w (⟨by decide, by decide⟩ : Iv 1 1 1) (by decide))) dX11_in_15 ⟨rfl, (iv_w (⟨by decide, by decide⟩ : Iv 1 1 1) (by decide)), (fun _ => ⟨(iv_nlt c1), (iv_nlt c4)⟩), (by unfold INN; exact (by have : (a1 : Int32).toInt ≤ (a0 : Int32).toInt := iv_le.mp (iv_nlt c1); have : (a0 : Int32).toInt ≤ (a2 : Int32).toInt := iv_le.mp (iv_nlt c4); have : (1 : Int32).toInt = 1 := (by decide); omega)), (by exact (by have : (a1 : Int32).toInt ≤ (a0 : Int32).toInt := iv_le.mp (iv_nlt c1); have : (a0 : Int32).toInt ≤ (a2 : Int32).toInt := iv_le.mp (iv_nlt c4); have : (1 : Int32).toInt = 1 := (by decide); omega)), (by exact in_t (iv_nlt c1) (iv_nlt c4))⟩
set_option maxHeartbeats 4000000 in
set_option maxRecDepth 100000 in
theorem c_X11_has (a0 : Int64) (a1 : Int32) : oMet l A L τ cy D K yX11_has cX11_has 3 (some .boolean) 0 0 [.long a0, .int a1] σ (va_Qi (fun r σ1 => σ1 = σ ∧ Iv r 0 1 ∧ (Iv a1 0 63 → (¬ r = 0 ↔ lb a0 a1.toNatClampNeg = true))) (oPo A L τ cy D) A) := by
  refine oMk (by decide) (Nat.le_of_ble_eq_true rfl) rfl ?_
  intro p e s m args below meth c ls cx rx hA hw hl
  generalize hQ : MQ below _ args s 0 0 A = Q
  have hx := cx.1.1
  have hb := cx.1.2.1
  have hml := cx.1.2.2.1
  have hown := cx.1.2.2.2.1
  have hts := cx.1.2.2.2.2
  have hl : lv_has ls 3 [(0, .long a0), (2, .int a1)] := hl
  refine lv_lload_n hx hb dX11_has_0 rfl (lv_at hl 0 rfl) ?_
  refine lv_iload_n hx hb dX11_has_1 rfl (lv_at hl 1 rfl) ?_
  refine lv_lushr hx hb dX11_has_2 rfl ?_
  refine lv_topl (fun v1 e1 => ?_)
  refine lv_lconst (v := 1) hx hb dX11_has_3 (by decide) ?_
  refine lv_land hx hb dX11_has_4 ?_
  refine lv_topl (fun v2 e2 => ?_)
  refine lv_lconst (v := 1) hx hb dX11_has_5 (by decide) ?_
  refine W.lcmp hx hb dX11_has_6 ?_
  refine lv_topi (fun v3 e3 => ?_)
  have i3 : Iv v3 (-1) 1 := iv_lcmp e3
  refine lv_if_ne (tgt := 14) hx hb dX11_has_7 (by decide) (fun c4 => ?_) (fun c4 => ?_)
  · --
    refine lv_iconst (v := 0) hx hb dX11_has_14 (by decide) ?_
    rw [← hQ]
    exact o_rz cx rx hw (iv_nz01 (iv_w (⟨by decide, by decide⟩ : Iv 0 0 0) (by decide))) dX11_has_15 ⟨rfl, (iv_w (⟨by decide, by decide⟩ : Iv 0 0 0) (by decide)), (by intro h9; have h8 := has_b h9 e1 e2; exact ⟨fun h => absurd rfl h, fun h => absurd (h8.mpr h) (lg_ne e3 c4)⟩)⟩
  · --
    have i5 : Iv v3 0 0 := iv_eq1 c4 i3 (⟨by decide, by decide⟩ : Iv 0 0 0) (by decide)
    refine lv_iconst (v := 1) hx hb dX11_has_10 (by decide) ?_
    refine lv_goto (tgt := 15) hx hb dX11_has_11 (by decide) ?_
    rw [← hQ]
    exact o_rz cx rx hw (iv_nz01 (iv_w (⟨by decide, by decide⟩ : Iv 1 1 1) (by decide))) dX11_has_15 ⟨rfl, (iv_w (⟨by decide, by decide⟩ : Iv 1 1 1) (by decide)), (by intro h9; have h8 := has_b h9 e1 e2; exact ⟨fun h => h8.mp (lg_eq e3 c4), fun h => (by decide)⟩)⟩
abbrev fs_X11_lost : List Nat := [658]
abbrev ts_X11_lost : List Nat := []
set_option maxHeartbeats 4000000 in
set_option maxRecDepth 100000 in
theorem c_X11_lost (a0 : Nat) (ha0 : oA L τ a0 10) : oMet l A L τ cy D K yX11_lost cX11_lost 1 (some .int) 0 0 [.ref a0] σ (va_Qi (fun r σ1 => oFr τ fs_X11_lost ts_X11_lost σ σ1 ∧ Iv r 0 0) (oPo A L τ cy D) A) := by
  refine oMk (by decide) (Nat.le_of_ble_eq_true rfl) rfl ?_
  intro p e s m args below meth c ls cx rx hA hw hl
  generalize hQ : MQ below _ args s 0 0 A = Q
  have hx := cx.1.1
  have hb := cx.1.2.1
  have hml := cx.1.2.2.1
  have hown := cx.1.2.2.2.1
  have hts := cx.1.2.2.2.2
  have hl : lv_has ls 1 [(0, .ref a0)] := hl
  have fr : oFr τ fs_X11_lost ts_X11_lost σ σ := oFr_rf
  refine lv_aload_n hx hb dX11_lost_0 rfl (lv_at hl 0 rfl) ?_
  refine lv_iconst (v := 1) hx hb dX11_lost_1 (by decide) ?_
  refine p_658 cx hw ha0 k_f_X11_89 dX11_lost_2 (fun σ1 H locs eσ1 hw => ?_)
  have fr := oFr_i fr eσ1 (by decide)
  refine lv_iconst (v := 0) hx hb dX11_lost_5 (by decide) ?_
  rw [← hQ]
  exact o_ri cx rx hw dX11_lost_6 ⟨fr, (iv_w (⟨by decide, by decide⟩ : Iv 0 0 0) (by decide))⟩
abbrev fs_X11_tell : List Nat := [657]
abbrev ts_X11_tell : List Nat := [52]
set_option maxHeartbeats 4000000 in
set_option maxRecDepth 100000 in
theorem c_X11_tell (a0 : Nat) (ha0 : oA L τ a0 10) (a1 : Int64) (hf657 : Iv (σ.1 657 a0) 0 19) : oMet l A L τ cy D K yX11_tell cX11_tell 3 none 0 0 [.ref a0, .long a1] σ (va_Qv (fun σ1 => oFr τ fs_X11_tell ts_X11_tell σ σ1 ∧ (σ1.1 657 a0).toInt = (σ.1 657 a0).toInt + 1) (oPo A L τ cy D) A) := by
  refine oMk (by decide) (Nat.le_of_ble_eq_true rfl) rfl ?_
  intro p e s m args below meth c ls cx rx hA hw hl
  generalize hQ : MQ below _ args s 0 0 A = Q
  have hx := cx.1.1
  have hb := cx.1.2.1
  have hml := cx.1.2.2.1
  have hown := cx.1.2.2.2.1
  have hts := cx.1.2.2.2.2
  have hl : lv_has ls 3 [(0, .ref a0), (1, .long a1)] := hl
  have fr : oFr τ fs_X11_tell ts_X11_tell σ σ := oFr_rf
  refine lv_aload_n hx hb dX11_tell_0 rfl (lv_at hl 0 rfl) ?_
  refine g_656 cx hw ha0 k_f_X11_36 dX11_tell_1 (fun v1 e1 h1 => ?_)
  refine lv_aload_n hx hb dX11_tell_4 rfl (lv_at hl 0 rfl) ?_
  refine g_657 cx hw ha0 k_f_X11_92 dX11_tell_5 (fun v2 e2 i2 => ?_)
  rw [show v2 = (σ.1 657 a0) from e2.trans rfl]
  refine lv_lload_n hx hb dX11_tell_8 rfl (lv_at hl 1 rfl) ?_
  refine o_last cx hw h1 (by decide) rfl (iv_in hf657 (by decide)) dX11_tell_9 (fun σ3 H locs eσ3 hw => ?_)
  have fr := oFr_q fr eσ3 h1 (by decide)
  refine lv_aload_n hx hb dX11_tell_10 rfl (lv_at hl 0 rfl) ?_
  refine lv_dup hx hb dX11_tell_11 rfl ?_
  refine g_657 cx hw ha0 k_f_X11_92 dX11_tell_12 (fun v4 e4 i4 => ?_)
  rw [show v4 = (σ.1 657 a0) from e4.trans ((kp_q eσ3).trans rfl)]
  refine lv_iconst (v := 1) hx hb dX11_tell_15 (by decide) ?_
  refine lv_iadd hx hb dX11_tell_16 ?_
  refine lv_topi (fun v5 e5 => ?_)
  have i5 : Iv v5 1 20 := iv_add e5 hf657 (⟨by decide, by decide⟩ : Iv 1 1 1) (by decide)
  have x5 : v5.toInt = (σ.1 657 a0).toInt + 1 := ex_add e5 hf657 (⟨by decide, by decide⟩ : Iv 1 1 1) (by decide)
  refine p_657 cx hw ha0 (iv_w i5 (by decide)) k_f_X11_92 dX11_tell_17 (fun σ6 H locs eσ6 hw => ?_)
  have fr := oFr_i fr eσ6 (by decide)
  rw [← hQ]
  exact o_rv cx rx hw dX11_tell_20 ⟨fr, (fin_eq ((kp_s eσ6)) x5)⟩
set_option maxHeartbeats 4000000 in
set_option maxRecDepth 100000 in
theorem c_X11_isCell (a0 : Nat) (ha0 : oA L τ a0 10) (a1 : Int32) : oMet l A L τ cy D K yX11_isCell cX11_isCell 2 (some .boolean) 1 22 [.ref a0, .int a1] σ (va_Qi (fun r σ1 => σ1 = σ ∧ Iv r 0 1 ∧ (¬ r = 0 → Iv a1 0 63) ∧ (Iv a1 0 63 → ((r.toInt = 1 ∧ (a1.toInt % 8 < (σ.1 641 a0).toInt ∧ a1.toInt / 8 < (σ.1 642 a0).toInt)) ∨ (r.toInt = 0 ∧ ¬ (a1.toInt % 8 < (σ.1 641 a0).toInt ∧ a1.toInt / 8 < (σ.1 642 a0).toInt))))) (oPo A L τ cy D) A) := by
  refine oMk (by decide) (Nat.le_of_ble_eq_true rfl) rfl ?_
  intro p e s m args below meth c ls cx rx hA hw hl
  generalize hQ : MQ below _ args s 0 0 A = Q
  have hx := cx.1.1
  have hb := cx.1.2.1
  have hml := cx.1.2.2.1
  have hown := cx.1.2.2.2.1
  have hts := cx.1.2.2.2.2
  have hl : lv_has ls 2 [(0, .ref a0), (1, .int a1)] := hl
  refine lv_iload_n hx hb dX11_isCell_0 rfl (lv_at hl 1 rfl) ?_
  refine lv_iconst (v := 0) hx hb dX11_isCell_1 (by decide) ?_
  refine lv_bipush (v := 63) hx hb dX11_isCell_2 (by decide) ?_
  refine o_ci hw (oRunS cx hA hw q_X11_in k_m_X11_95 (As := [.int a1, .int 0, .int 63]) (c_X11_in a1 0 63) (by decide) rfl hl.1 rfl (Nat.le_of_ble_eq_true rfl) dX11_isCell_4 (by decide)) (fun v2 σ1 H locs hp hw => ?_)
  obtain ⟨p2_0, p2_1, p2_2, p2_3, p2_4, p2_5⟩ := hp
  rw [p2_0] at hw
  refine lv_if_eq (tgt := 36) hx hb dX11_isCell_7 (by decide) (fun c3 => ?_) (fun c3 => ?_)
  · --
    have i4 : Iv v2 0 0 := iv_eq1 c3 p2_1 (⟨by decide, by decide⟩ : Iv 0 0 0) (by decide)
    refine lv_iconst (v := 0) hx hb dX11_isCell_36 (by decide) ?_
    rw [← hQ]
    exact o_rz cx rx hw (iv_nz01 (iv_w (⟨by decide, by decide⟩ : Iv 0 0 0) (by decide))) dX11_isCell_37 ⟨rfl, (iv_w (⟨by decide, by decide⟩ : Iv 0 0 0) (by decide)), (fun h => absurd rfl h), (by intro hc9; have := hc9.1; have := hc9.2; exact (by have := (i4).1; have := (i4).2; have : (v2 : Int32).toInt = (0 : Int32).toInt := congrArg Int32.toInt c3; have : (0 : Int32).toInt = 0 := (by decide); have : (63 : Int32).toInt = 63 := (by decide); omega))⟩
  · --
    have i5 : Iv v2 1 1 := iv_ne1 c3 p2_1 (⟨by decide, by decide⟩ : Iv 0 0 0) (by decide)
    have i6 : Iv a1 0 63 := (fun h => iv_rel (p2_2 h) (⟨by decide, by decide⟩ : Iv 0 0 0) (⟨by decide, by decide⟩ : Iv 63 63 63)) c3
    refine lv_iload_n hx hb dX11_isCell_10 rfl (lv_at hl 1 rfl) ?_
    refine lv_bipush (v := 8) hx hb dX11_isCell_11 (by decide) ?_
    refine lv_irem hx hb dX11_isCell_13 (iv_nz (⟨by decide, by decide⟩ : Iv 8 8 8) (by decide)) ?_
    refine lv_topi (fun v7 e7 => ?_)
    have i7 : Iv v7 0 7 := iv_rem e7 i6 (⟨by decide, by decide⟩ : Iv 8 8 8) (by decide)
    refine lv_aload_n hx hb dX11_isCell_14 rfl (lv_at hl 0 rfl) ?_
    refine g_641 cx hw ha0 k_f_X11_99 dX11_isCell_15 (fun v8 e8 i8 => ?_)
    have z8 : v8.toInt = (σ.1 641 a0).toInt := congrArg Int32.toInt e8
    refine lv_icmp_ge (tgt := 36) hx hb dX11_isCell_18 (by decide) (fun c9 => ?_) (fun c9 => ?_)
    · --
      have i10 : Iv v8 0 7 := iv_le1 c9 i8 i7 (by decide)
      refine lv_iconst (v := 0) hx hb dX11_isCell_36 (by decide) ?_
      rw [← hQ]
      exact o_rz cx rx hw (iv_nz01 (iv_w (⟨by decide, by decide⟩ : Iv 0 0 0) (by decide))) dX11_isCell_37 ⟨rfl, (iv_w (⟨by decide, by decide⟩ : Iv 0 0 0) (by decide)), (fun h => absurd rfl h), (by intro hc9; have := hc9.1; have := hc9.2; have := ex_rem e7; rw [show (8 : Int32).toInt = 8 from (by decide), Int.tmod_eq_emod_of_nonneg (by omega)] at this; exact (by have := (i6).1; have := (i6).2; have := (i10).1; have := (i10).2; have := (i5).1; have := (i5).2; have := (i7).1; have := (i7).2; have : (σ.1 641 a0).toInt = (v8 : Int32).toInt := congrArg Int32.toInt (show σ.1 641 a0 = v8 from e8.symm); have : (v8 : Int32).toInt ≤ (v7 : Int32).toInt := iv_le.mp c9; have : (0 : Int32).toInt = 0 := (by decide); have : (63 : Int32).toInt = 63 := (by decide); omega))⟩
    · --
      have i11 : Iv v8 1 8 := iv_lt2 (iv_nle c9) i7 i8 (by decide)
      refine lv_iload_n hx hb dX11_isCell_21 rfl (lv_at hl 1 rfl) ?_
      refine lv_bipush (v := 8) hx hb dX11_isCell_22 (by decide) ?_
      refine lv_idiv hx hb dX11_isCell_24 (iv_nz (⟨by decide, by decide⟩ : Iv 8 8 8) (by decide)) ?_
      refine lv_topi (fun v12 e12 => ?_)
      have i12 : Iv v12 0 7 := iv_divc e12 i6 (⟨by decide, by decide⟩ : Iv 8 8 8) (by decide)
      refine lv_aload_n hx hb dX11_isCell_25 rfl (lv_at hl 0 rfl) ?_
      refine g_642 cx hw ha0 k_f_X11_102 dX11_isCell_26 (fun v13 e13 i13 => ?_)
      have z13 : v13.toInt = (σ.1 642 a0).toInt := congrArg Int32.toInt e13
      refine lv_icmp_ge (tgt := 36) hx hb dX11_isCell_29 (by decide) (fun c14 => ?_) (fun c14 => ?_)
      · --
        have i15 : Iv v13 0 7 := iv_le1 c14 i13 i12 (by decide)
        refine lv_iconst (v := 0) hx hb dX11_isCell_36 (by decide) ?_
        rw [← hQ]
        exact o_rz cx rx hw (iv_nz01 (iv_w (⟨by decide, by decide⟩ : Iv 0 0 0) (by decide))) dX11_isCell_37 ⟨rfl, (iv_w (⟨by decide, by decide⟩ : Iv 0 0 0) (by decide)), (fun h => absurd rfl h), (by intro hc9; have := hc9.1; have := hc9.2; have := ex_rem e7; rw [show (8 : Int32).toInt = 8 from (by decide), Int.tmod_eq_emod_of_nonneg (by omega)] at this; have := ex_div e12 i6 (⟨by decide, by decide⟩ : Iv 8 8 8) (by decide); rw [show (8 : Int32).toInt = 8 from (by decide)] at this; exact (by have := (i6).1; have := (i6).2; have := (i11).1; have := (i11).2; have := (i15).1; have := (i15).2; have := (i5).1; have := (i5).2; have := (i7).1; have := (i7).2; have := (i12).1; have := (i12).2; have : (σ.1 641 a0).toInt = (v8 : Int32).toInt := congrArg Int32.toInt (show σ.1 641 a0 = v8 from e8.symm); have : (σ.1 642 a0).toInt = (v13 : Int32).toInt := congrArg Int32.toInt (show σ.1 642 a0 = v13 from e13.symm); have : (v7 : Int32).toInt < (v8 : Int32).toInt := iv_lt.mp (iv_nle c9); have : (v13 : Int32).toInt ≤ (v12 : Int32).toInt := iv_le.mp c14; have : (0 : Int32).toInt = 0 := (by decide); have : (63 : Int32).toInt = 63 := (by decide); omega))⟩
      · --
        have i16 : Iv v13 1 8 := iv_lt2 (iv_nle c14) i12 i13 (by decide)
        refine lv_iconst (v := 1) hx hb dX11_isCell_32 (by decide) ?_
        refine lv_goto (tgt := 37) hx hb dX11_isCell_33 (by decide) ?_
        rw [← hQ]
        exact o_rz cx rx hw (iv_nz01 (iv_w (⟨by decide, by decide⟩ : Iv 1 1 1) (by decide))) dX11_isCell_37 ⟨rfl, (iv_w (⟨by decide, by decide⟩ : Iv 1 1 1) (by decide)), (fun _ => iv_w i6 (by decide)), (by intro hc9; have := hc9.1; have := hc9.2; have := ex_rem e7; rw [show (8 : Int32).toInt = 8 from (by decide), Int.tmod_eq_emod_of_nonneg (by omega)] at this; have := ex_div e12 i6 (⟨by decide, by decide⟩ : Iv 8 8 8) (by decide); rw [show (8 : Int32).toInt = 8 from (by decide)] at this; exact (by have := (i6).1; have := (i6).2; have := (i11).1; have := (i11).2; have := (i16).1; have := (i16).2; have := (i5).1; have := (i5).2; have := (i7).1; have := (i7).2; have := (i12).1; have := (i12).2; have : (σ.1 641 a0).toInt = (v8 : Int32).toInt := congrArg Int32.toInt (show σ.1 641 a0 = v8 from e8.symm); have : (σ.1 642 a0).toInt = (v13 : Int32).toInt := congrArg Int32.toInt (show σ.1 642 a0 = v13 from e13.symm); have : (v7 : Int32).toInt < (v8 : Int32).toInt := iv_lt.mp (iv_nle c9); have : (v12 : Int32).toInt < (v13 : Int32).toInt := iv_lt.mp (iv_nle c14); have : (0 : Int32).toInt = 0 := (by decide); have : (1 : Int32).toInt = 1 := (by decide); have : (63 : Int32).toInt = 63 := (by decide); omega))⟩
set_option maxHeartbeats 4000000 in
set_option maxRecDepth 100000 in
theorem c_X11_isHerd (a0 : Nat) (ha0 : oA L τ a0 10) (a1 : Int32) : oMet l A L τ cy D K yX11_isHerd cX11_isHerd 2 (some .boolean) 1 22 [.ref a0, .int a1] σ (va_Qi (fun r σ1 => σ1 = σ ∧ Iv r 0 1 ∧ (¬ r = 0 → Iv a1 0 5)) (oPo A L τ cy D) A) := by
  refine oMk (by decide) (Nat.le_of_ble_eq_true rfl) rfl ?_
  intro p e s m args below meth c ls cx rx hA hw hl
  generalize hQ : MQ below _ args s 0 0 A = Q
  have hx := cx.1.1
  have hb := cx.1.2.1
  have hml := cx.1.2.2.1
  have hown := cx.1.2.2.2.1
  have hts := cx.1.2.2.2.2
  have hl : lv_has ls 2 [(0, .ref a0), (1, .int a1)] := hl
  refine lv_iload_n hx hb dX11_isHerd_0 rfl (lv_at hl 1 rfl) ?_
  refine lv_iconst (v := 0) hx hb dX11_isHerd_1 (by decide) ?_
  refine lv_aload_n hx hb dX11_isHerd_2 rfl (lv_at hl 0 rfl) ?_
  refine g_647 cx hw ha0 k_f_X11_105 dX11_isHerd_3 (fun v1 e1 i1 => ?_)
  refine lv_iconst (v := 1) hx hb dX11_isHerd_6 (by decide) ?_
  refine lv_isub hx hb dX11_isHerd_7 ?_
  refine lv_topi (fun v2 e2 => ?_)
  have i2 : Iv v2 (-1) 5 := iv_sub e2 i1 (⟨by decide, by decide⟩ : Iv 1 1 1) (by decide)
  have x2 : v2.toInt = v1.toInt + (-1) := ex_sub e2 i1 (⟨by decide, by decide⟩ : Iv 1 1 1) (by decide)
  refine o_ci hw (oRunS cx hA hw q_X11_in k_m_X11_95 (As := [.int a1, .int 0, .int v2]) (c_X11_in a1 0 v2) (by decide) rfl hl.1 rfl (Nat.le_of_ble_eq_true rfl) dX11_isHerd_8 (by decide)) (fun v4 σ3 H locs hp hw => ?_)
  obtain ⟨p4_0, p4_1, p4_2, p4_3, p4_4, p4_5⟩ := hp
  rw [p4_0] at hw
  rw [← hQ]
  exact o_rz cx rx hw (iv_nz01 (iv_w p4_1 (by decide))) dX11_isHerd_11 ⟨rfl, (iv_w p4_1 (by decide)), (fun h => iv_w ((fun h => iv_rel (p4_2 h) (⟨by decide, by decide⟩ : Iv 0 0 0) i2) h) (by decide))⟩
abbrev fs_X11_beginT : List Nat := [659, 660, 661, 662, 663]
abbrev ts_X11_beginT : List Nat := []
set_option maxHeartbeats 4000000 in
set_option maxRecDepth 100000 in
theorem c_X11_beginT (a0 : Nat) (ha0 : oA L τ a0 10) (a1 : Nat) (ha1 : oA L τ a1 51) (a2 : Int32) (ia2 : Iv a2 0 80) (a3 : Int32) (ia3 : Iv a3 0 80) : oMet l A L τ cy D K yX11_begin cX11_begin 4 none 0 0 [.ref a0, .ref a1, .int a2, .int a3] σ (va_Qv (fun σ1 => oFr τ fs_X11_beginT ts_X11_beginT σ σ1 ∧ σ1.2.2.2.2 659 a0 = some a1 ∧ Iv (σ1.1 660 a0) 0 80 ∧ Iv (σ1.1 661 a0) 0 80 ∧ Iv (σ1.1 662 a0) 0 0 ∧ Iv (σ1.1 663 a0) (-1) (-1) ∧ ((σ1.1 660 a0).toInt = a2.toInt ∧ (σ1.1 661 a0).toInt = a3.toInt)) (oPo A L τ cy D) A) := by
  refine oMk (by decide) (Nat.le_of_ble_eq_true rfl) rfl ?_
  intro p e s m args below meth c ls cx rx hA hw hl
  generalize hQ : MQ below _ args s 0 0 A = Q
  have hx := cx.1.1
  have hb := cx.1.2.1
  have hml := cx.1.2.2.1
  have hown := cx.1.2.2.2.1
  have hts := cx.1.2.2.2.2
  have hl : lv_has ls 4 [(0, .ref a0), (1, .ref a1), (2, .int a2), (3, .int a3)] := hl
  have fr : oFr τ fs_X11_beginT ts_X11_beginT σ σ := oFr_rf
  refine lv_aload_n hx hb dX11_begin_0 rfl (lv_at hl 0 rfl) ?_
  refine lv_aload_n hx hb dX11_begin_1 rfl (lv_at hl 1 rfl) ?_
  refine p_659 cx hw ha0 ha1 k_f_X11_111 dX11_begin_2 (fun σ1 H locs eσ1 hw => ?_)
  have fr := oFr_r fr eσ1 (by decide)
  refine lv_aload_n hx hb dX11_begin_5 rfl (lv_at hl 0 rfl) ?_
  refine lv_iload_n hx hb dX11_begin_6 rfl (lv_at hl 2 rfl) ?_
  refine p_660 cx hw ha0 (iv_w ia2 (by decide)) k_f_X11_114 dX11_begin_7 (fun σ2 H locs eσ2 hw => ?_)
  have fr := oFr_i fr eσ2 (by decide)
  refine lv_aload_n hx hb dX11_begin_10 rfl (lv_at hl 0 rfl) ?_
  refine lv_iload_n hx hb dX11_begin_11 rfl (lv_at hl 3 rfl) ?_
  refine p_661 cx hw ha0 (iv_w ia3 (by decide)) k_f_X11_117 dX11_begin_12 (fun σ3 H locs eσ3 hw => ?_)
  have fr := oFr_i fr eσ3 (by decide)
  refine lv_aload_n hx hb dX11_begin_15 rfl (lv_at hl 0 rfl) ?_
  refine lv_iconst (v := 0) hx hb dX11_begin_16 (by decide) ?_
  refine p_662 cx hw ha0 (iv_w (⟨by decide, by decide⟩ : Iv 0 0 0) (by decide)) k_f_X11_120 dX11_begin_17 (fun σ4 H locs eσ4 hw => ?_)
  have fr := oFr_i fr eσ4 (by decide)
  refine lv_aload_n hx hb dX11_begin_20 rfl (lv_at hl 0 rfl) ?_
  refine lv_iconst (v := (-1)) hx hb dX11_begin_21 (by decide) ?_
  refine p_663 cx hw ha0 (iv_w (⟨by decide, by decide⟩ : Iv (-1) (-1) (-1)) (by decide)) k_f_X11_123 dX11_begin_22 (fun σ5 H locs eσ5 hw => ?_)
  have fr := oFr_i fr eσ5 (by decide)
  rw [← hQ]
  exact o_rv cx rx hw dX11_begin_25 ⟨fr, (((kr_i eσ5).trans ((kr_i eσ4).trans ((kr_i eσ3).trans ((kr_i eσ2).trans (kr_s eσ1)))))), (kn_iv (((kp_i eσ5 (by decide)).trans ((kp_i eσ4 (by decide)).trans ((kp_i eσ3 (by decide)).trans (kp_s eσ2))))) (iv_w ia2 (by decide))), (kn_iv (((kp_i eσ5 (by decide)).trans ((kp_i eσ4 (by decide)).trans (kp_s eσ3)))) (iv_w ia3 (by decide))), (kn_iv (((kp_i eσ5 (by decide)).trans (kp_s eσ4))) (iv_w (⟨by decide, by decide⟩ : Iv 0 0 0) (by decide))), (kn_iv ((kp_s eσ5)) (iv_w (⟨by decide, by decide⟩ : Iv (-1) (-1) (-1)) (by decide))), (by exact (by have := (ia2).1; have := (ia2).2; have := (ia3).1; have := (ia3).2; have : (σ5.1 660 a0).toInt = (a2 : Int32).toInt := congrArg Int32.toInt (show σ5.1 660 a0 = a2 from ((kp_i eσ5 (by decide)).trans ((kp_i eσ4 (by decide)).trans ((kp_i eσ3 (by decide)).trans (kp_s eσ2))))); have : (σ5.1 661 a0).toInt = (a3 : Int32).toInt := congrArg Int32.toInt (show σ5.1 661 a0 = a3 from ((kp_i eσ5 (by decide)).trans ((kp_i eσ4 (by decide)).trans (kp_s eσ3)))); have : (σ5.1 662 a0).toInt = (0 : Int32).toInt := congrArg Int32.toInt (show σ5.1 662 a0 = 0 from ((kp_i eσ5 (by decide)).trans (kp_s eσ4))); have : (σ5.1 663 a0).toInt = ((-1) : Int32).toInt := congrArg Int32.toInt (show σ5.1 663 a0 = (-1) from (kp_s eσ5)); have : ((-1) : Int32).toInt = (-1) := (by decide); have : (0 : Int32).toInt = 0 := (by decide); omega))⟩
abbrev fs_X11_beginR : List Nat := [659, 660, 661, 662, 663]
abbrev ts_X11_beginR : List Nat := []
set_option maxHeartbeats 4000000 in
set_option maxRecDepth 100000 in
theorem c_X11_beginR (a0 : Nat) (ha0 : oA L τ a0 10) (a1 : Nat) (ha1 : oA L τ a1 54) (a2 : Int32) (ia2 : Iv a2 0 40) (a3 : Int32) (ia3 : Iv a3 0 80) : oMet l A L τ cy D K yX11_begin cX11_begin 4 none 0 0 [.ref a0, .ref a1, .int a2, .int a3] σ (va_Qv (fun σ1 => oFr τ fs_X11_beginR ts_X11_beginR σ σ1 ∧ σ1.2.2.2.2 659 a0 = some a1 ∧ Iv (σ1.1 660 a0) 0 40 ∧ Iv (σ1.1 661 a0) 0 80 ∧ Iv (σ1.1 662 a0) 0 0 ∧ Iv (σ1.1 663 a0) (-1) (-1) ∧ ((σ1.1 660 a0).toInt = a2.toInt ∧ (σ1.1 661 a0).toInt = a3.toInt)) (oPo A L τ cy D) A) := by
  refine oMk (by decide) (Nat.le_of_ble_eq_true rfl) rfl ?_
  intro p e s m args below meth c ls cx rx hA hw hl
  generalize hQ : MQ below _ args s 0 0 A = Q
  have hx := cx.1.1
  have hb := cx.1.2.1
  have hml := cx.1.2.2.1
  have hown := cx.1.2.2.2.1
  have hts := cx.1.2.2.2.2
  have hl : lv_has ls 4 [(0, .ref a0), (1, .ref a1), (2, .int a2), (3, .int a3)] := hl
  have fr : oFr τ fs_X11_beginR ts_X11_beginR σ σ := oFr_rf
  refine lv_aload_n hx hb dX11_begin_0 rfl (lv_at hl 0 rfl) ?_
  refine lv_aload_n hx hb dX11_begin_1 rfl (lv_at hl 1 rfl) ?_
  refine p_659 cx hw ha0 ha1 k_f_X11_111 dX11_begin_2 (fun σ1 H locs eσ1 hw => ?_)
  have fr := oFr_r fr eσ1 (by decide)
  refine lv_aload_n hx hb dX11_begin_5 rfl (lv_at hl 0 rfl) ?_
  refine lv_iload_n hx hb dX11_begin_6 rfl (lv_at hl 2 rfl) ?_
  refine p_660 cx hw ha0 (iv_w ia2 (by decide)) k_f_X11_114 dX11_begin_7 (fun σ2 H locs eσ2 hw => ?_)
  have fr := oFr_i fr eσ2 (by decide)
  refine lv_aload_n hx hb dX11_begin_10 rfl (lv_at hl 0 rfl) ?_
  refine lv_iload_n hx hb dX11_begin_11 rfl (lv_at hl 3 rfl) ?_
  refine p_661 cx hw ha0 (iv_w ia3 (by decide)) k_f_X11_117 dX11_begin_12 (fun σ3 H locs eσ3 hw => ?_)
  have fr := oFr_i fr eσ3 (by decide)
  refine lv_aload_n hx hb dX11_begin_15 rfl (lv_at hl 0 rfl) ?_
  refine lv_iconst (v := 0) hx hb dX11_begin_16 (by decide) ?_
  refine p_662 cx hw ha0 (iv_w (⟨by decide, by decide⟩ : Iv 0 0 0) (by decide)) k_f_X11_120 dX11_begin_17 (fun σ4 H locs eσ4 hw => ?_)
  have fr := oFr_i fr eσ4 (by decide)
  refine lv_aload_n hx hb dX11_begin_20 rfl (lv_at hl 0 rfl) ?_
  refine lv_iconst (v := (-1)) hx hb dX11_begin_21 (by decide) ?_
  refine p_663 cx hw ha0 (iv_w (⟨by decide, by decide⟩ : Iv (-1) (-1) (-1)) (by decide)) k_f_X11_123 dX11_begin_22 (fun σ5 H locs eσ5 hw => ?_)
  have fr := oFr_i fr eσ5 (by decide)
  rw [← hQ]
  exact o_rv cx rx hw dX11_begin_25 ⟨fr, (((kr_i eσ5).trans ((kr_i eσ4).trans ((kr_i eσ3).trans ((kr_i eσ2).trans (kr_s eσ1)))))), (kn_iv (((kp_i eσ5 (by decide)).trans ((kp_i eσ4 (by decide)).trans ((kp_i eσ3 (by decide)).trans (kp_s eσ2))))) (iv_w ia2 (by decide))), (kn_iv (((kp_i eσ5 (by decide)).trans ((kp_i eσ4 (by decide)).trans (kp_s eσ3)))) (iv_w ia3 (by decide))), (kn_iv (((kp_i eσ5 (by decide)).trans (kp_s eσ4))) (iv_w (⟨by decide, by decide⟩ : Iv 0 0 0) (by decide))), (kn_iv ((kp_s eσ5)) (iv_w (⟨by decide, by decide⟩ : Iv (-1) (-1) (-1)) (by decide))), (by exact (by have := (ia2).1; have := (ia2).2; have := (ia3).1; have := (ia3).2; have : (σ5.1 660 a0).toInt = (a2 : Int32).toInt := congrArg Int32.toInt (show σ5.1 660 a0 = a2 from ((kp_i eσ5 (by decide)).trans ((kp_i eσ4 (by decide)).trans ((kp_i eσ3 (by decide)).trans (kp_s eσ2))))); have : (σ5.1 661 a0).toInt = (a3 : Int32).toInt := congrArg Int32.toInt (show σ5.1 661 a0 = a3 from ((kp_i eσ5 (by decide)).trans ((kp_i eσ4 (by decide)).trans (kp_s eσ3)))); have : (σ5.1 662 a0).toInt = (0 : Int32).toInt := congrArg Int32.toInt (show σ5.1 662 a0 = 0 from ((kp_i eσ5 (by decide)).trans (kp_s eσ4))); have : (σ5.1 663 a0).toInt = ((-1) : Int32).toInt := congrArg Int32.toInt (show σ5.1 663 a0 = (-1) from (kp_s eσ5)); have : ((-1) : Int32).toInt = (-1) := (by decide); have : (0 : Int32).toInt = 0 := (by decide); omega))⟩
set_option maxHeartbeats 4000000 in
set_option maxRecDepth 100000 in
theorem c_X11_hereT (a0 : Nat) (ha0 : oA L τ a0 10) (b0 : Nat) (hF0 : σ.2.2.2.2 659 a0 = some b0) (hb0 : oA L τ b0 51) (hf660 : Iv (σ.1 660 a0) 0 80) : oMet l A L τ cy D K yX11_here cX11_here 1 (some .int) 0 0 [.ref a0] σ (va_Qi (fun r σ1 => σ1 = σ ∧ Iv r (-1) 255 ∧ (0 ≤ r → Iv (σ.1 662 a0) 0 79) ∧ (r = -1 ∨ r = σ.2.2.1 b0 (σ.1 662 a0).toNatClampNeg &&& 255) ∧ (0 ≤ r.toInt → (σ.1 662 a0).toInt < (σ.1 660 a0).toInt) ∧ (0 ≤ r.toInt → (σ.1 662 a0).toInt < (σ.1 661 a0).toInt) ∧ (r = hr_F (σ.2.2.1 b0) (σ.1 662 a0) (σ.1 660 a0) (σ.1 661 a0))) (oPo A L τ cy D) A) := by
  refine oMk (by decide) (Nat.le_of_ble_eq_true rfl) rfl ?_
  intro p e s m args below meth c ls cx rx hA hw hl
  generalize hQ : MQ below _ args s 0 0 A = Q
  have hx := cx.1.1
  have hb := cx.1.2.1
  have hml := cx.1.2.2.1
  have hown := cx.1.2.2.2.1
  have hts := cx.1.2.2.2.2
  have hl : lv_has ls 1 [(0, .ref a0)] := hl
  refine lv_aload_n hx hb dX11_here_0 rfl (lv_at hl 0 rfl) ?_
  refine g_662 cx hw ha0 k_f_X11_120 dX11_here_1 (fun v1 e1 i1 => ?_)
  have z1 : v1.toInt = (σ.1 662 a0).toInt := congrArg Int32.toInt e1
  refine lv_aload_n hx hb dX11_here_4 rfl (lv_at hl 0 rfl) ?_
  refine g_660 cx hw ha0 k_f_X11_114 dX11_here_5 (fun v2 e2 i2 => ?_)
  rw [show v2 = (σ.1 660 a0) from e2.trans rfl]
  refine lv_icmp_ge (tgt := 38) hx hb dX11_here_8 (by decide) (fun c3 => ?_) (fun c3 => ?_)
  · --
    refine lv_iconst (v := (-1)) hx hb dX11_here_38 (by decide) ?_
    rw [← hQ]
    exact o_ri cx rx hw dX11_here_39 ⟨rfl, (iv_w (⟨by decide, by decide⟩ : Iv (-1) (-1) (-1)) (by decide)), (fun h => iv_no (iv_le1 (b' := -1) h (⟨by decide, by decide⟩ : Iv 0 0 0) (⟨by decide, by decide⟩ : Iv (-1) (-1) (-1)) (by decide)) (by decide)), (by first | exact Or.inl rfl | (refine Or.inr ?_; subst_vars; rfl)), (by exact (by have := (hf660).1; have := (hf660).2; have := (i1).1; have := (i1).2; have : (σ.1 662 a0).toInt = (v1 : Int32).toInt := congrArg Int32.toInt (show σ.1 662 a0 = v1 from e1.symm); have : ((σ.1 660 a0) : Int32).toInt ≤ (v1 : Int32).toInt := iv_le.mp c3; have : ((-1) : Int32).toInt = (-1) := (by decide); omega)), (by exact (by have := (hf660).1; have := (hf660).2; have := (i1).1; have := (i1).2; have : (σ.1 662 a0).toInt = (v1 : Int32).toInt := congrArg Int32.toInt (show σ.1 662 a0 = v1 from e1.symm); have : ((σ.1 660 a0) : Int32).toInt ≤ (v1 : Int32).toInt := iv_le.mp c3; have : ((-1) : Int32).toInt = (-1) := (by decide); omega)), (by rw [hr_F, if_neg (fun q => (by have := q.1; have := q.2; have := (hf660).1; have := (hf660).2; have := (i1).1; have := (i1).2; have : (σ.1 662 a0).toInt = (v1 : Int32).toInt := congrArg Int32.toInt (show σ.1 662 a0 = v1 from e1.symm); have : ((σ.1 660 a0) : Int32).toInt ≤ (v1 : Int32).toInt := iv_le.mp c3; have : ((-1) : Int32).toInt = (-1) := (by decide); omega))])⟩
  · --
    have i4 : Iv v1 0 79 := iv_lt1 (iv_nle c3) i1 hf660 (by decide)
    have i5 : Iv (σ.1 660 a0) 1 80 := iv_lt2 (iv_nle c3) i1 hf660 (by decide)
    refine lv_aload_n hx hb dX11_here_11 rfl (lv_at hl 0 rfl) ?_
    refine g_662 cx hw ha0 k_f_X11_120 dX11_here_12 (fun v6 e6 i6 => ?_)
    rw [show v6 = v1 from e6.trans e1.symm]
    refine lv_aload_n hx hb dX11_here_15 rfl (lv_at hl 0 rfl) ?_
    refine g_661 cx hw ha0 k_f_X11_117 dX11_here_16 (fun v7 e7 i7 => ?_)
    have z7 : v7.toInt = (σ.1 661 a0).toInt := congrArg Int32.toInt e7
    refine lv_icmp_ge (tgt := 38) hx hb dX11_here_19 (by decide) (fun c8 => ?_) (fun c8 => ?_)
    · --
      have i9 : Iv v7 0 79 := iv_le1 c8 i7 i4 (by decide)
      refine lv_iconst (v := (-1)) hx hb dX11_here_38 (by decide) ?_
      rw [← hQ]
      exact o_ri cx rx hw dX11_here_39 ⟨rfl, (iv_w (⟨by decide, by decide⟩ : Iv (-1) (-1) (-1)) (by decide)), (fun h => iv_no (iv_le1 (b' := -1) h (⟨by decide, by decide⟩ : Iv 0 0 0) (⟨by decide, by decide⟩ : Iv (-1) (-1) (-1)) (by decide)) (by decide)), (by first | exact Or.inl rfl | (refine Or.inr ?_; subst_vars; rfl)), (by exact (by have := (i5).1; have := (i5).2; have := (i4).1; have := (i4).2; have := (i9).1; have := (i9).2; have : (σ.1 662 a0).toInt = (v1 : Int32).toInt := congrArg Int32.toInt (show σ.1 662 a0 = v1 from e1.symm); have : (σ.1 661 a0).toInt = (v7 : Int32).toInt := congrArg Int32.toInt (show σ.1 661 a0 = v7 from e7.symm); have : (v1 : Int32).toInt < ((σ.1 660 a0) : Int32).toInt := iv_lt.mp (iv_nle c3); have : (v7 : Int32).toInt ≤ (v1 : Int32).toInt := iv_le.mp c8; have : ((-1) : Int32).toInt = (-1) := (by decide); omega)), (by exact (by have := (i5).1; have := (i5).2; have := (i4).1; have := (i4).2; have := (i9).1; have := (i9).2; have : (σ.1 662 a0).toInt = (v1 : Int32).toInt := congrArg Int32.toInt (show σ.1 662 a0 = v1 from e1.symm); have : (σ.1 661 a0).toInt = (v7 : Int32).toInt := congrArg Int32.toInt (show σ.1 661 a0 = v7 from e7.symm); have : (v1 : Int32).toInt < ((σ.1 660 a0) : Int32).toInt := iv_lt.mp (iv_nle c3); have : (v7 : Int32).toInt ≤ (v1 : Int32).toInt := iv_le.mp c8; have : ((-1) : Int32).toInt = (-1) := (by decide); omega)), (by rw [hr_F, if_neg (fun q => (by have := q.1; have := q.2; have := (i5).1; have := (i5).2; have := (i4).1; have := (i4).2; have := (i9).1; have := (i9).2; have : (σ.1 662 a0).toInt = (v1 : Int32).toInt := congrArg Int32.toInt (show σ.1 662 a0 = v1 from e1.symm); have : (σ.1 661 a0).toInt = (v7 : Int32).toInt := congrArg Int32.toInt (show σ.1 661 a0 = v7 from e7.symm); have : (v1 : Int32).toInt < ((σ.1 660 a0) : Int32).toInt := iv_lt.mp (iv_nle c3); have : (v7 : Int32).toInt ≤ (v1 : Int32).toInt := iv_le.mp c8; have : ((-1) : Int32).toInt = (-1) := (by decide); omega))])⟩
    · --
      have i10 : Iv v7 1 80 := iv_lt2 (iv_nle c8) i4 i7 (by decide)
      refine lv_aload_n hx hb dX11_here_22 rfl (lv_at hl 0 rfl) ?_
      refine g_659 cx hw ha0 (hF0) k_f_X11_111 dX11_here_23 ?_
      refine lv_aload_n hx hb dX11_here_26 rfl (lv_at hl 0 rfl) ?_
      refine g_662 cx hw ha0 k_f_X11_120 dX11_here_27 (fun v12 e12 i12 => ?_)
      rw [show v12 = v1 from e12.trans e1.symm]
      refine o_bald cx hw hb0 (by decide) rfl (iv_in i4 (by decide)) dX11_here_30 (fun v13 e13 b13 => ?_)
      have i13 : Iv v13 (-128) 127 := b13
      refine lv_sipush (v := 255) hx hb dX11_here_31 (by decide) ?_
      refine lv_iand hx hb dX11_here_34 ?_
      refine lv_topi (fun v14 e14 => ?_)
      have i14 : Iv v14 0 255 := iv_and e14 (⟨by decide, by decide⟩ : Iv 255 255 255) (by decide)
      refine lv_goto (tgt := 39) hx hb dX11_here_35 (by decide) ?_
      rw [← hQ]
      exact o_ri cx rx hw dX11_here_39 ⟨rfl, (iv_w i14 (by decide)), (fun _ => kn_iv (e1.symm) (iv_w i4 (by decide))), (by first | exact Or.inl rfl | (refine Or.inr ?_; subst_vars; rfl)), (by exact (by have := (i14).1; have := (i14).2; have := (i5).1; have := (i5).2; have := (i4).1; have := (i4).2; have := (i10).1; have := (i10).2; have := (i13).1; have := (i13).2; have : (σ.1 662 a0).toInt = (v1 : Int32).toInt := congrArg Int32.toInt (show σ.1 662 a0 = v1 from e1.symm); have : (σ.1 661 a0).toInt = (v7 : Int32).toInt := congrArg Int32.toInt (show σ.1 661 a0 = v7 from e7.symm); have : (v1 : Int32).toInt < ((σ.1 660 a0) : Int32).toInt := iv_lt.mp (iv_nle c3); have : (v1 : Int32).toInt < (v7 : Int32).toInt := iv_lt.mp (iv_nle c8); omega)), (by exact (by have := (i14).1; have := (i14).2; have := (i5).1; have := (i5).2; have := (i4).1; have := (i4).2; have := (i10).1; have := (i10).2; have := (i13).1; have := (i13).2; have : (σ.1 662 a0).toInt = (v1 : Int32).toInt := congrArg Int32.toInt (show σ.1 662 a0 = v1 from e1.symm); have : (σ.1 661 a0).toInt = (v7 : Int32).toInt := congrArg Int32.toInt (show σ.1 661 a0 = v7 from e7.symm); have : (v1 : Int32).toInt < ((σ.1 660 a0) : Int32).toInt := iv_lt.mp (iv_nle c3); have : (v1 : Int32).toInt < (v7 : Int32).toInt := iv_lt.mp (iv_nle c8); omega)), (by rw [hr_F, if_pos ⟨(by have := (i14).1; have := (i14).2; have := (i5).1; have := (i5).2; have := (i4).1; have := (i4).2; have := (i10).1; have := (i10).2; have := (i13).1; have := (i13).2; have : (σ.1 662 a0).toInt = (v1 : Int32).toInt := congrArg Int32.toInt (show σ.1 662 a0 = v1 from e1.symm); have : (σ.1 661 a0).toInt = (v7 : Int32).toInt := congrArg Int32.toInt (show σ.1 661 a0 = v7 from e7.symm); have : (v1 : Int32).toInt < ((σ.1 660 a0) : Int32).toInt := iv_lt.mp (iv_nle c3); have : (v1 : Int32).toInt < (v7 : Int32).toInt := iv_lt.mp (iv_nle c8); omega), (by have := (i14).1; have := (i14).2; have := (i5).1; have := (i5).2; have := (i4).1; have := (i4).2; have := (i10).1; have := (i10).2; have := (i13).1; have := (i13).2; have : (σ.1 662 a0).toInt = (v1 : Int32).toInt := congrArg Int32.toInt (show σ.1 662 a0 = v1 from e1.symm); have : (σ.1 661 a0).toInt = (v7 : Int32).toInt := congrArg Int32.toInt (show σ.1 661 a0 = v7 from e7.symm); have : (v1 : Int32).toInt < ((σ.1 660 a0) : Int32).toInt := iv_lt.mp (iv_nle c3); have : (v1 : Int32).toInt < (v7 : Int32).toInt := iv_lt.mp (iv_nle c8); omega)⟩]; subst_vars; rfl)⟩
set_option maxHeartbeats 4000000 in
set_option maxRecDepth 100000 in
theorem c_X11_hereR (a0 : Nat) (ha0 : oA L τ a0 10) (b0 : Nat) (hF0 : σ.2.2.2.2 659 a0 = some b0) (hb0 : oA L τ b0 54) (hf660 : Iv (σ.1 660 a0) 0 40) : oMet l A L τ cy D K yX11_here cX11_here 1 (some .int) 0 0 [.ref a0] σ (va_Qi (fun r σ1 => σ1 = σ ∧ Iv r (-1) 255 ∧ (0 ≤ r → Iv (σ.1 662 a0) 0 39) ∧ (r = -1 ∨ r = σ.2.2.1 b0 (σ.1 662 a0).toNatClampNeg &&& 255) ∧ (0 ≤ r.toInt → (σ.1 662 a0).toInt < (σ.1 660 a0).toInt) ∧ (0 ≤ r.toInt → (σ.1 662 a0).toInt < (σ.1 661 a0).toInt) ∧ (r = hr_F (σ.2.2.1 b0) (σ.1 662 a0) (σ.1 660 a0) (σ.1 661 a0))) (oPo A L τ cy D) A) := by
  refine oMk (by decide) (Nat.le_of_ble_eq_true rfl) rfl ?_
  intro p e s m args below meth c ls cx rx hA hw hl
  generalize hQ : MQ below _ args s 0 0 A = Q
  have hx := cx.1.1
  have hb := cx.1.2.1
  have hml := cx.1.2.2.1
  have hown := cx.1.2.2.2.1
  have hts := cx.1.2.2.2.2
  have hl : lv_has ls 1 [(0, .ref a0)] := hl
  refine lv_aload_n hx hb dX11_here_0 rfl (lv_at hl 0 rfl) ?_
  refine g_662 cx hw ha0 k_f_X11_120 dX11_here_1 (fun v1 e1 i1 => ?_)
  have z1 : v1.toInt = (σ.1 662 a0).toInt := congrArg Int32.toInt e1
  refine lv_aload_n hx hb dX11_here_4 rfl (lv_at hl 0 rfl) ?_
  refine g_660 cx hw ha0 k_f_X11_114 dX11_here_5 (fun v2 e2 i2 => ?_)
  rw [show v2 = (σ.1 660 a0) from e2.trans rfl]
  refine lv_icmp_ge (tgt := 38) hx hb dX11_here_8 (by decide) (fun c3 => ?_) (fun c3 => ?_)
  · --
    refine lv_iconst (v := (-1)) hx hb dX11_here_38 (by decide) ?_
    rw [← hQ]
    exact o_ri cx rx hw dX11_here_39 ⟨rfl, (iv_w (⟨by decide, by decide⟩ : Iv (-1) (-1) (-1)) (by decide)), (fun h => iv_no (iv_le1 (b' := -1) h (⟨by decide, by decide⟩ : Iv 0 0 0) (⟨by decide, by decide⟩ : Iv (-1) (-1) (-1)) (by decide)) (by decide)), (by first | exact Or.inl rfl | (refine Or.inr ?_; subst_vars; rfl)), (by exact (by have := (hf660).1; have := (hf660).2; have := (i1).1; have := (i1).2; have : (σ.1 662 a0).toInt = (v1 : Int32).toInt := congrArg Int32.toInt (show σ.1 662 a0 = v1 from e1.symm); have : ((σ.1 660 a0) : Int32).toInt ≤ (v1 : Int32).toInt := iv_le.mp c3; have : ((-1) : Int32).toInt = (-1) := (by decide); omega)), (by exact (by have := (hf660).1; have := (hf660).2; have := (i1).1; have := (i1).2; have : (σ.1 662 a0).toInt = (v1 : Int32).toInt := congrArg Int32.toInt (show σ.1 662 a0 = v1 from e1.symm); have : ((σ.1 660 a0) : Int32).toInt ≤ (v1 : Int32).toInt := iv_le.mp c3; have : ((-1) : Int32).toInt = (-1) := (by decide); omega)), (by rw [hr_F, if_neg (fun q => (by have := q.1; have := q.2; have := (hf660).1; have := (hf660).2; have := (i1).1; have := (i1).2; have : (σ.1 662 a0).toInt = (v1 : Int32).toInt := congrArg Int32.toInt (show σ.1 662 a0 = v1 from e1.symm); have : ((σ.1 660 a0) : Int32).toInt ≤ (v1 : Int32).toInt := iv_le.mp c3; have : ((-1) : Int32).toInt = (-1) := (by decide); omega))])⟩
  · --
    have i4 : Iv v1 0 39 := iv_lt1 (iv_nle c3) i1 hf660 (by decide)
    have i5 : Iv (σ.1 660 a0) 1 40 := iv_lt2 (iv_nle c3) i1 hf660 (by decide)
    refine lv_aload_n hx hb dX11_here_11 rfl (lv_at hl 0 rfl) ?_
    refine g_662 cx hw ha0 k_f_X11_120 dX11_here_12 (fun v6 e6 i6 => ?_)
    rw [show v6 = v1 from e6.trans e1.symm]
    refine lv_aload_n hx hb dX11_here_15 rfl (lv_at hl 0 rfl) ?_
    refine g_661 cx hw ha0 k_f_X11_117 dX11_here_16 (fun v7 e7 i7 => ?_)
    have z7 : v7.toInt = (σ.1 661 a0).toInt := congrArg Int32.toInt e7
    refine lv_icmp_ge (tgt := 38) hx hb dX11_here_19 (by decide) (fun c8 => ?_) (fun c8 => ?_)
    · --
      have i9 : Iv v7 0 39 := iv_le1 c8 i7 i4 (by decide)
      refine lv_iconst (v := (-1)) hx hb dX11_here_38 (by decide) ?_
      rw [← hQ]
      exact o_ri cx rx hw dX11_here_39 ⟨rfl, (iv_w (⟨by decide, by decide⟩ : Iv (-1) (-1) (-1)) (by decide)), (fun h => iv_no (iv_le1 (b' := -1) h (⟨by decide, by decide⟩ : Iv 0 0 0) (⟨by decide, by decide⟩ : Iv (-1) (-1) (-1)) (by decide)) (by decide)), (by first | exact Or.inl rfl | (refine Or.inr ?_; subst_vars; rfl)), (by exact (by have := (i5).1; have := (i5).2; have := (i4).1; have := (i4).2; have := (i9).1; have := (i9).2; have : (σ.1 662 a0).toInt = (v1 : Int32).toInt := congrArg Int32.toInt (show σ.1 662 a0 = v1 from e1.symm); have : (σ.1 661 a0).toInt = (v7 : Int32).toInt := congrArg Int32.toInt (show σ.1 661 a0 = v7 from e7.symm); have : (v1 : Int32).toInt < ((σ.1 660 a0) : Int32).toInt := iv_lt.mp (iv_nle c3); have : (v7 : Int32).toInt ≤ (v1 : Int32).toInt := iv_le.mp c8; have : ((-1) : Int32).toInt = (-1) := (by decide); omega)), (by exact (by have := (i5).1; have := (i5).2; have := (i4).1; have := (i4).2; have := (i9).1; have := (i9).2; have : (σ.1 662 a0).toInt = (v1 : Int32).toInt := congrArg Int32.toInt (show σ.1 662 a0 = v1 from e1.symm); have : (σ.1 661 a0).toInt = (v7 : Int32).toInt := congrArg Int32.toInt (show σ.1 661 a0 = v7 from e7.symm); have : (v1 : Int32).toInt < ((σ.1 660 a0) : Int32).toInt := iv_lt.mp (iv_nle c3); have : (v7 : Int32).toInt ≤ (v1 : Int32).toInt := iv_le.mp c8; have : ((-1) : Int32).toInt = (-1) := (by decide); omega)), (by rw [hr_F, if_neg (fun q => (by have := q.1; have := q.2; have := (i5).1; have := (i5).2; have := (i4).1; have := (i4).2; have := (i9).1; have := (i9).2; have : (σ.1 662 a0).toInt = (v1 : Int32).toInt := congrArg Int32.toInt (show σ.1 662 a0 = v1 from e1.symm); have : (σ.1 661 a0).toInt = (v7 : Int32).toInt := congrArg Int32.toInt (show σ.1 661 a0 = v7 from e7.symm); have : (v1 : Int32).toInt < ((σ.1 660 a0) : Int32).toInt := iv_lt.mp (iv_nle c3); have : (v7 : Int32).toInt ≤ (v1 : Int32).toInt := iv_le.mp c8; have : ((-1) : Int32).toInt = (-1) := (by decide); omega))])⟩
    · --
      have i10 : Iv v7 1 80 := iv_lt2 (iv_nle c8) i4 i7 (by decide)
      refine lv_aload_n hx hb dX11_here_22 rfl (lv_at hl 0 rfl) ?_
      refine g_659 cx hw ha0 (hF0) k_f_X11_111 dX11_here_23 ?_
      refine lv_aload_n hx hb dX11_here_26 rfl (lv_at hl 0 rfl) ?_
      refine g_662 cx hw ha0 k_f_X11_120 dX11_here_27 (fun v12 e12 i12 => ?_)
      rw [show v12 = v1 from e12.trans e1.symm]
      refine o_bald cx hw hb0 (by decide) rfl (iv_in i4 (by decide)) dX11_here_30 (fun v13 e13 b13 => ?_)
      have i13 : Iv v13 (-128) 127 := b13
      refine lv_sipush (v := 255) hx hb dX11_here_31 (by decide) ?_
      refine lv_iand hx hb dX11_here_34 ?_
      refine lv_topi (fun v14 e14 => ?_)
      have i14 : Iv v14 0 255 := iv_and e14 (⟨by decide, by decide⟩ : Iv 255 255 255) (by decide)
      refine lv_goto (tgt := 39) hx hb dX11_here_35 (by decide) ?_
      rw [← hQ]
      exact o_ri cx rx hw dX11_here_39 ⟨rfl, (iv_w i14 (by decide)), (fun _ => kn_iv (e1.symm) (iv_w i4 (by decide))), (by first | exact Or.inl rfl | (refine Or.inr ?_; subst_vars; rfl)), (by exact (by have := (i14).1; have := (i14).2; have := (i5).1; have := (i5).2; have := (i4).1; have := (i4).2; have := (i10).1; have := (i10).2; have := (i13).1; have := (i13).2; have : (σ.1 662 a0).toInt = (v1 : Int32).toInt := congrArg Int32.toInt (show σ.1 662 a0 = v1 from e1.symm); have : (σ.1 661 a0).toInt = (v7 : Int32).toInt := congrArg Int32.toInt (show σ.1 661 a0 = v7 from e7.symm); have : (v1 : Int32).toInt < ((σ.1 660 a0) : Int32).toInt := iv_lt.mp (iv_nle c3); have : (v1 : Int32).toInt < (v7 : Int32).toInt := iv_lt.mp (iv_nle c8); omega)), (by exact (by have := (i14).1; have := (i14).2; have := (i5).1; have := (i5).2; have := (i4).1; have := (i4).2; have := (i10).1; have := (i10).2; have := (i13).1; have := (i13).2; have : (σ.1 662 a0).toInt = (v1 : Int32).toInt := congrArg Int32.toInt (show σ.1 662 a0 = v1 from e1.symm); have : (σ.1 661 a0).toInt = (v7 : Int32).toInt := congrArg Int32.toInt (show σ.1 661 a0 = v7 from e7.symm); have : (v1 : Int32).toInt < ((σ.1 660 a0) : Int32).toInt := iv_lt.mp (iv_nle c3); have : (v1 : Int32).toInt < (v7 : Int32).toInt := iv_lt.mp (iv_nle c8); omega)), (by rw [hr_F, if_pos ⟨(by have := (i14).1; have := (i14).2; have := (i5).1; have := (i5).2; have := (i4).1; have := (i4).2; have := (i10).1; have := (i10).2; have := (i13).1; have := (i13).2; have : (σ.1 662 a0).toInt = (v1 : Int32).toInt := congrArg Int32.toInt (show σ.1 662 a0 = v1 from e1.symm); have : (σ.1 661 a0).toInt = (v7 : Int32).toInt := congrArg Int32.toInt (show σ.1 661 a0 = v7 from e7.symm); have : (v1 : Int32).toInt < ((σ.1 660 a0) : Int32).toInt := iv_lt.mp (iv_nle c3); have : (v1 : Int32).toInt < (v7 : Int32).toInt := iv_lt.mp (iv_nle c8); omega), (by have := (i14).1; have := (i14).2; have := (i5).1; have := (i5).2; have := (i4).1; have := (i4).2; have := (i10).1; have := (i10).2; have := (i13).1; have := (i13).2; have : (σ.1 662 a0).toInt = (v1 : Int32).toInt := congrArg Int32.toInt (show σ.1 662 a0 = v1 from e1.symm); have : (σ.1 661 a0).toInt = (v7 : Int32).toInt := congrArg Int32.toInt (show σ.1 661 a0 = v7 from e7.symm); have : (v1 : Int32).toInt < ((σ.1 660 a0) : Int32).toInt := iv_lt.mp (iv_nle c3); have : (v1 : Int32).toInt < (v7 : Int32).toInt := iv_lt.mp (iv_nle c8); omega)⟩]; subst_vars; rfl)⟩
end OM
