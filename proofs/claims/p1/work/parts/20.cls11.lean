section OM
variable {l : Launch} {A : Nat → Prop} {L : List Nat} {τ : Nat → Nat} {cy : Nat → ClassId} {D : va_G} {K : (Nat → Nat) × (Nat → Nat)} {σ : oSt}
abbrev fs_X11_undo : List Nat := [658, 672]
abbrev ts_X11_undo : List Nat := [48]
set_option maxHeartbeats 4000000 in
set_option maxRecDepth 100000 in
theorem c_X11_undo (a0 : Nat) (ha0 : oA L τ a0 10) : oMet l A L τ cy D K yX11_undo cX11_undo 2 (some .int) 0 0 [.ref a0] σ (va_Qi (fun r σ1 => oFr τ fs_X11_undo ts_X11_undo σ σ1 ∧ Iv r (-1) 9) (oPo A L τ cy D) A) := by
  refine oMk (by decide) (Nat.le_of_ble_eq_true rfl) rfl ?_
  intro p e s m args below meth c ls cx rx hA hw hl
  generalize hQ : MQ below _ args s 0 0 A = Q
  have hx := cx.1.1
  have hb := cx.1.2.1
  have hml := cx.1.2.2.1
  have hown := cx.1.2.2.2.1
  have hts := cx.1.2.2.2.2
  have hl : lv_has ls 2 [(0, .ref a0)] := hl
  have fr : oFr τ fs_X11_undo ts_X11_undo σ σ := oFr_rf
  refine lv_aload_n hx hb dX11_undo_0 rfl (lv_at hl 0 rfl) ?_
  refine lv_iconst (v := 0) hx hb dX11_undo_1 (by decide) ?_
  refine p_658 cx hw ha0 k_f_X11_89 dX11_undo_2 (fun σ1 H locs eσ1 hw => ?_)
  have fr := oFr_i fr eσ1 (by decide)
  refine lv_aload_n hx hb dX11_undo_5 rfl (lv_at hl 0 rfl) ?_
  refine g_672 cx hw ha0 k_f_X11_168 dX11_undo_6 (fun v2 e2 i2 => ?_)
  refine lv_if_ne (tgt := 14) hx hb dX11_undo_9 (by decide) (fun c3 => ?_) (fun c3 => ?_)
  · --
    have i4 : Iv v2 1 10 := iv_ne1 c3 i2 (⟨by decide, by decide⟩ : Iv 0 0 0) (by decide)
    refine lv_aload_n hx hb dX11_undo_14 rfl (lv_at hl 0 rfl) ?_
    refine lv_dup hx hb dX11_undo_15 rfl ?_
    refine g_672 cx hw ha0 k_f_X11_168 dX11_undo_16 (fun v5 e5 i5 => ?_)
    rw [show v5 = v2 from e5.trans e2.symm]
    refine lv_iconst (v := 1) hx hb dX11_undo_19 (by decide) ?_
    refine lv_isub hx hb dX11_undo_20 ?_
    refine lv_topi (fun v6 e6 => ?_)
    have i6 : Iv v6 0 9 := iv_sub e6 i4 (⟨by decide, by decide⟩ : Iv 1 1 1) (by decide)
    have x6 : v6.toInt = v2.toInt + (-1) := ex_sub e6 i4 (⟨by decide, by decide⟩ : Iv 1 1 1) (by decide)
    refine p_672 cx hw ha0 (iv_w i6 (by decide)) k_f_X11_168 dX11_undo_21 (fun σ7 H locs eσ7 hw => ?_)
    have fr := oFr_i fr eσ7 (by decide)
    refine lv_iconst (v := 0) hx hb dX11_undo_24 (by decide) ?_
    refine lv_istore_n (lv' := [(1, .int 0), (0, .ref a0)]) hx hb dX11_undo_25 rfl hl (by decide) rfl (fun ls hl => ?_)
    have J_26 : ∀ n : Nat, ∀ (j26_1 : Int32) (ij26_1 : Iv j26_1 0 334), (334 - j26_1.toInt).toNat < n → ∀ (σ_26 : oSt) (H : Heap) (locs : List Loc), oI A L τ cy D s.heap σ_26 H locs → oFr τ fs_X11_undo ts_X11_undo σ σ_26 → Iv (σ_26.1 672 a0) 0 9 → ∀ (ls : Array Slot), lv_has ls 2 [(0, .ref a0), (1, .int j26_1)] → W p l e ({ frames := 0, cells := 0, slots := 0, locals := 0 } : Room) s m args below meth c H locs 0 0 Q (F0 m 26 ls []) := by
      intro n
      induction n with
      | zero => intro j26_1 ij26_1 hn_26  σ_26 H locs hw fr f26_672_a0  ls hl; exact absurd hn_26 (Nat.not_lt_zero _)
      | succ n ih_26 =>
        intro j26_1 ij26_1 hn_26  σ_26 H locs hw fr f26_672_a0  ls hl
        refine lv_iload_n hx hb dX11_undo_26 rfl (lv_at hl 1 rfl) ?_
        refine lv_sipush (v := 334) hx hb dX11_undo_27 (by decide) ?_
        refine lv_icmp_ge (tgt := 60) hx hb dX11_undo_30 (by decide) (fun c8 => ?_) (fun c8 => ?_)
        · --
          have i9 : Iv j26_1 334 334 := iv_le2 c8 (⟨by decide, by decide⟩ : Iv 334 334 334) ij26_1 (by decide)
          refine lv_aload_n hx hb dX11_undo_60 rfl (lv_at hl 0 rfl) ?_
          refine g_672 cx hw ha0 k_f_X11_168 dX11_undo_61 (fun v10 e10 i10 => ?_)
          rw [show v10 = (σ_26.1 672 a0) from e10.trans rfl]
          rw [← hQ]
          exact o_ri cx rx hw dX11_undo_64 ⟨fr, (iv_w f26_672_a0 (by decide))⟩
        · --
          have i11 : Iv j26_1 0 333 := iv_lt1 (iv_nle c8) ij26_1 (⟨by decide, by decide⟩ : Iv 334 334 334) (by decide)
          refine lv_aload_n hx hb dX11_undo_33 rfl (lv_at hl 0 rfl) ?_
          refine g_640 cx hw ha0 k_f_X11_9 dX11_undo_34 (fun v12 e12 h12 => ?_)
          refine lv_iload_n hx hb dX11_undo_37 rfl (lv_at hl 1 rfl) ?_
          refine lv_aload_n hx hb dX11_undo_38 rfl (lv_at hl 0 rfl) ?_
          refine g_671 cx hw ha0 k_f_X11_55 dX11_undo_39 (fun v13 e13 h13 => ?_)
          refine lv_sipush (v := 334) hx hb dX11_undo_42 (by decide) ?_
          refine lv_aload_n hx hb dX11_undo_45 rfl (lv_at hl 0 rfl) ?_
          refine g_672 cx hw ha0 k_f_X11_168 dX11_undo_46 (fun v14 e14 i14 => ?_)
          rw [show v14 = (σ_26.1 672 a0) from e14.trans rfl]
          refine lv_imul hx hb dX11_undo_49 ?_
          refine lv_topi (fun v15 e15 => ?_)
          have i15 : Iv v15 0 3006 := iv_mul e15 (⟨by decide, by decide⟩ : Iv 334 334 334) f26_672_a0 (by decide)
          refine lv_iload_n hx hb dX11_undo_50 rfl (lv_at hl 1 rfl) ?_
          refine lv_iadd hx hb dX11_undo_51 ?_
          refine lv_topi (fun v16 e16 => ?_)
          have i16 : Iv v16 0 3339 := iv_add e16 i15 i11 (by decide)
          refine o_iald cx hw h13 (by decide) rfl (iv_in i16 (by decide)) dX11_undo_52 (fun v17 e17 b17 => ?_)
          refine o_iast cx hw h12 (by decide) rfl (iv_in i11 (by decide)) (rb_cp i11 i16 (by decide) b17 (by have q := ex_add e16 i15 i11 (by decide); have q2 := ex_mul e15 (⟨by decide, by decide⟩ : Iv 334 334 334) f26_672_a0 (by decide); have q3 : (334 : Int32).toInt = 334 := (by decide); rw [q3] at q2; have q4 := (i11).1; have q5 := (i11).2; omega)) dX11_undo_53 (fun σ18 H locs eσ18 hw => ?_)
          have fr := oFr_p fr eσ18 h12 (by decide)
          obtain ⟨v19, e19⟩ : ∃ y : Int32, y = j26_1 + 1 := ⟨_, rfl⟩
          have i19 : Iv v19 1 334 := iv_add e19 i11 (⟨by decide, by decide⟩ : Iv 1 1 1) (by decide)
          have x19 : v19.toInt = j26_1.toInt + 1 := ex_add e19 i11 (⟨by decide, by decide⟩ : Iv 1 1 1) (by decide)
          refine lv_iinc (v := v19) (lv' := [(1, .int v19), (0, .ref a0)]) hx hb dX11_undo_54 hl (k := 1) rfl (by rw [e19]; rfl) (by decide) rfl (fun ls hl => ?_)
          refine lv_goto (tgt := 26) hx hb dX11_undo_57 (by decide) ?_
          exact ih_26 v19 (iv_w i19 (by decide)) (ms_up x19 (by decide) (iv_w (a' := 0) (b' := 334) i19 (by decide)).2 hn_26) σ18 _ _ hw fr (kn_iv (((kp_p eσ18).trans rfl)) (iv_w f26_672_a0 (by decide))) _ (lv_sub hl [1, 0] rfl)
    exact J_26 _ 0 (iv_w (⟨by decide, by decide⟩ : Iv 0 0 0) (by decide)) (Nat.lt_succ_self _) σ7 _ _ hw fr (kn_iv ((kp_s eσ7)) (iv_w i6 (by decide))) _ (lv_sub hl [1, 0] rfl)
  · --
    have i20 : Iv v2 0 0 := iv_eq1 c3 i2 (⟨by decide, by decide⟩ : Iv 0 0 0) (by decide)
    refine lv_iconst (v := (-1)) hx hb dX11_undo_12 (by decide) ?_
    rw [← hQ]
    exact o_ri cx rx hw dX11_undo_13 ⟨fr, (iv_w (⟨by decide, by decide⟩ : Iv (-1) (-1) (-1)) (by decide))⟩
set_option maxHeartbeats 4000000 in
set_option maxRecDepth 100000 in
theorem c_X11_roadOf (a0 : Nat) (ha0 : oA L τ a0 10) (a1 : Nat) (ha1 : oA L τ a1 48) : oMet l A L τ cy D K yX11_roadOf cX11_roadOf 5 (some .long) 2 43 [.ref a0, .ref a1] σ (va_Ql (fun r σ1 => σ1 = σ) (oPo A L τ cy D) A) := by
  refine oMk (by decide) (Nat.le_of_ble_eq_true rfl) rfl ?_
  intro p e s m args below meth c ls cx rx hA hw hl
  generalize hQ : MQ below _ args s 0 0 A = Q
  have hx := cx.1.1
  have hb := cx.1.2.1
  have hml := cx.1.2.2.1
  have hown := cx.1.2.2.2.1
  have hts := cx.1.2.2.2.2
  have hl : lv_has ls 5 [(0, .ref a0), (1, .ref a1)] := hl
  refine lv_lconst (v := 0) hx hb dX11_roadOf_0 (by decide) ?_
  refine lv_lstore_n (lv' := [(2, .long 0), (0, .ref a0), (1, .ref a1)]) hx hb dX11_roadOf_1 rfl hl (by decide) rfl (fun ls hl => ?_)
  refine lv_iconst (v := 0) hx hb dX11_roadOf_2 (by decide) ?_
  refine lv_istore (lv' := [(4, .int 0), (2, .long 0), (0, .ref a0), (1, .ref a1)]) hx hb dX11_roadOf_3 hl (by decide) rfl (fun ls hl => ?_)
  have J_5 : ∀ n : Nat, ∀ (j5_2 : Int64) (j5_4 : Int32) (ij5_4 : Iv j5_4 0 64), (64 - j5_4.toInt).toNat < n → ∀ (H : Heap) (locs : List Loc), oI A L τ cy D s.heap σ H locs → ∀ (ls : Array Slot), lv_has ls 5 [(0, .ref a0), (1, .ref a1), (2, .long j5_2), (4, .int j5_4)] → W p l e ({ frames := 2, cells := 0, slots := 0, locals := 43 } : Room) s m args below meth c H locs 0 0 Q (F0 m 5 ls []) := by
    intro n
    induction n with
    | zero => intro j5_2 j5_4 ij5_4 hn_5  H locs hw  ls hl; exact absurd hn_5 (Nat.not_lt_zero _)
    | succ n ih_5 =>
      intro j5_2 j5_4 ij5_4 hn_5  H locs hw  ls hl
      refine lv_iload hx hb dX11_roadOf_5 (lv_at hl 3 rfl) ?_
      refine lv_bipush (v := 64) hx hb dX11_roadOf_7 (by decide) ?_
      refine lv_icmp_ge (tgt := 48) hx hb dX11_roadOf_9 (by decide) (fun c1 => ?_) (fun c1 => ?_)
      · --
        have i2 : Iv j5_4 64 64 := iv_le2 c1 (⟨by decide, by decide⟩ : Iv 64 64 64) ij5_4 (by decide)
        refine lv_lload_n hx hb dX11_roadOf_48 rfl (lv_at hl 2 rfl) ?_
        rw [← hQ]
        exact o_rl cx rx hw dX11_roadOf_49 rfl
      · --
        have i3 : Iv j5_4 0 63 := iv_lt1 (iv_nle c1) ij5_4 (⟨by decide, by decide⟩ : Iv 64 64 64) (by decide)
        refine lv_lload_n hx hb dX11_roadOf_12 rfl (lv_at hl 2 rfl) ?_
        refine lv_aload_n hx hb dX11_roadOf_13 rfl (lv_at hl 0 rfl) ?_
        refine lv_iload hx hb dX11_roadOf_14 (lv_at hl 3 rfl) ?_
        refine o_ci hw (oRunV cx hA hw q_X11_isCell k_m_X11_157 rfl ha0 (by decide) (As := [.int j5_4]) (c_X11_isCell a0 ha0 j5_4) (by decide) rfl hl.1 rfl (Nat.le_of_ble_eq_true rfl) dX11_roadOf_16 (by decide)) (fun v5 σ4 H locs hp hw => ?_)
        obtain ⟨p5_0, p5_1, p5_2⟩ := hp
        rw [p5_0] at hw
        have J_40 : ∀ (k40_1 : Int64), ∀ (H : Heap) (locs : List Loc), oI A L τ cy D s.heap σ H locs → ∀ (ls : Array Slot), lv_has ls 5 [(0, .ref a0), (1, .ref a1), (2, .long j5_2), (4, .int j5_4)] → W p l e ({ frames := 2, cells := 0, slots := 0, locals := 43 } : Room) s m args below meth c H locs 0 0 Q (F0 m 40 ls [.long k40_1, .long j5_2]) := by
          intro k40_1   H locs hw  ls hl
          refine lv_lor hx hb dX11_roadOf_40 ?_
          refine lv_topl (fun v6 e6 => ?_)
          refine lv_lstore_n (lv' := [(2, .long v6), (0, .ref a0), (1, .ref a1), (4, .int j5_4)]) hx hb dX11_roadOf_41 rfl hl (by decide) rfl (fun ls hl => ?_)
          obtain ⟨v7, e7⟩ : ∃ y : Int32, y = j5_4 + 1 := ⟨_, rfl⟩
          have i7 : Iv v7 1 64 := iv_add e7 i3 (⟨by decide, by decide⟩ : Iv 1 1 1) (by decide)
          have x7 : v7.toInt = j5_4.toInt + 1 := ex_add e7 i3 (⟨by decide, by decide⟩ : Iv 1 1 1) (by decide)
          refine lv_iinc (v := v7) (lv' := [(4, .int v7), (2, .long v6), (0, .ref a0), (1, .ref a1)]) hx hb dX11_roadOf_42 hl (k := 3) rfl (by rw [e7]; rfl) (by decide) rfl (fun ls hl => ?_)
          refine lv_goto (tgt := 5) hx hb dX11_roadOf_45 (by decide) ?_
          exact ih_5 v6 v7 (iv_w i7 (by decide)) (ms_up x7 (by decide) (iv_w (a' := 0) (b' := 64) i7 (by decide)).2 hn_5) _ _ hw _ (lv_sub hl [2, 3, 1, 0] rfl)
        have J_39 : ∀ (H : Heap) (locs : List Loc), oI A L τ cy D s.heap σ H locs → ∀ (ls : Array Slot), lv_has ls 5 [(0, .ref a0), (1, .ref a1), (2, .long j5_2), (4, .int j5_4)] → W p l e ({ frames := 2, cells := 0, slots := 0, locals := 43 } : Room) s m args below meth c H locs 0 0 Q (F0 m 39 ls [.long j5_2]) := by
          intro    H locs hw  ls hl
          refine lv_lconst (v := 0) hx hb dX11_roadOf_39 (by decide) ?_
          exact J_40 0 _ _ hw _ (lv_sub hl [0, 1, 2, 3] rfl)
        refine lv_if_eq (tgt := 39) hx hb dX11_roadOf_19 (by decide) (fun c8 => ?_) (fun c8 => ?_)
        · --
          have i9 : Iv v5 0 0 := iv_eq1 c8 p5_1 (⟨by decide, by decide⟩ : Iv 0 0 0) (by decide)
          exact J_39 _ _ hw _ (lv_sub hl [0, 1, 2, 3] rfl)
        · --
          have i10 : Iv v5 1 1 := iv_ne1 c8 p5_1 (⟨by decide, by decide⟩ : Iv 0 0 0) (by decide)
          have i11 : Iv j5_4 0 63 := p5_2 c8
          refine lv_aload_n hx hb dX11_roadOf_22 rfl (lv_at hl 0 rfl) ?_
          refine lv_aload_n hx hb dX11_roadOf_23 rfl (lv_at hl 1 rfl) ?_
          refine lv_iload hx hb dX11_roadOf_24 (lv_at hl 3 rfl) ?_
          refine o_ci hw (oRunV cx hA hw q_X11_isRoad k_m_X11_211 rfl ha0 (by decide) (As := [.ref a1, .int j5_4]) (c_X11_isRoad a0 ha0 a1 ha1 j5_4 (iv_w i11 (by decide))) (by decide) rfl hl.1 rfl (Nat.le_of_ble_eq_true rfl) dX11_roadOf_26 (by decide)) (fun v13 σ12 H locs hp hw => ?_)
          obtain ⟨p13_0, p13_1⟩ := hp
          rw [p13_0] at hw
          refine lv_if_eq (tgt := 39) hx hb dX11_roadOf_29 (by decide) (fun c14 => ?_) (fun c14 => ?_)
          · --
            have i15 : Iv v13 0 0 := iv_eq1 c14 p13_1 (⟨by decide, by decide⟩ : Iv 0 0 0) (by decide)
            exact J_39 _ _ hw _ (lv_sub hl [0, 1, 2, 3] rfl)
          · --
            have i16 : Iv v13 1 1 := iv_ne1 c14 p13_1 (⟨by decide, by decide⟩ : Iv 0 0 0) (by decide)
            refine lv_lconst (v := 1) hx hb dX11_roadOf_32 (by decide) ?_
            refine lv_iload hx hb dX11_roadOf_33 (lv_at hl 3 rfl) ?_
            refine lv_lshl hx hb dX11_roadOf_35 rfl ?_
            refine lv_topl (fun v17 e17 => ?_)
            refine lv_goto (tgt := 40) hx hb dX11_roadOf_36 (by decide) ?_
            exact J_40 v17 _ _ hw _ (lv_sub hl [0, 1, 2, 3] rfl)
  exact J_5 _ 0 0 (iv_w (⟨by decide, by decide⟩ : Iv 0 0 0) (by decide)) (Nat.lt_succ_self _) _ _ hw _ (lv_sub hl [2, 3, 1, 0] rfl)
set_option maxHeartbeats 4000000 in
set_option maxRecDepth 100000 in
theorem c_X11_besides (a0 : Int64) : oMet l A L τ cy D K yX11_besides cX11_besides 2 (some .long) 0 0 [.long a0] σ (va_Ql (fun r σ1 => σ1 = σ) (oPo A L τ cy D) A) := by
  refine oMk (by decide) (Nat.le_of_ble_eq_true rfl) rfl ?_
  intro p e s m args below meth c ls cx rx hA hw hl
  generalize hQ : MQ below _ args s 0 0 A = Q
  have hx := cx.1.1
  have hb := cx.1.2.1
  have hml := cx.1.2.2.1
  have hown := cx.1.2.2.2.1
  have hts := cx.1.2.2.2.2
  have hl : lv_has ls 2 [(0, .long a0)] := hl
  refine lv_lload_n hx hb dX11_besides_0 rfl (lv_at hl 0 rfl) ?_
  refine lv_bipush (v := 8) hx hb dX11_besides_1 (by decide) ?_
  refine lv_lshl hx hb dX11_besides_3 rfl ?_
  refine lv_topl (fun v1 e1 => ?_)
  refine lv_lload_n hx hb dX11_besides_4 rfl (lv_at hl 0 rfl) ?_
  refine lv_bipush (v := 8) hx hb dX11_besides_5 (by decide) ?_
  refine lv_lushr hx hb dX11_besides_7 rfl ?_
  refine lv_topl (fun v2 e2 => ?_)
  refine lv_lor hx hb dX11_besides_8 ?_
  refine lv_topl (fun v3 e3 => ?_)
  refine lv_lload_n hx hb dX11_besides_9 rfl (lv_at hl 0 rfl) ?_
  refine lv_ldc2 (v := 9187201950435737471) hx hb hown (hts _ k_k_X11_305) dX11_besides_10 ?_
  refine lv_land hx hb dX11_besides_13 ?_
  refine lv_topl (fun v4 e4 => ?_)
  refine lv_iconst (v := 1) hx hb dX11_besides_14 (by decide) ?_
  refine lv_lshl hx hb dX11_besides_15 rfl ?_
  refine lv_topl (fun v5 e5 => ?_)
  refine lv_lor hx hb dX11_besides_16 ?_
  refine lv_topl (fun v6 e6 => ?_)
  refine lv_lload_n hx hb dX11_besides_17 rfl (lv_at hl 0 rfl) ?_
  refine lv_ldc2 (v := (-72340172838076674)) hx hb hown (hts _ k_k_X11_307) dX11_besides_18 ?_
  refine lv_land hx hb dX11_besides_21 ?_
  refine lv_topl (fun v7 e7 => ?_)
  refine lv_iconst (v := 1) hx hb dX11_besides_22 (by decide) ?_
  refine lv_lushr hx hb dX11_besides_23 rfl ?_
  refine lv_topl (fun v8 e8 => ?_)
  refine lv_lor hx hb dX11_besides_24 ?_
  refine lv_topl (fun v9 e9 => ?_)
  rw [← hQ]
  exact o_rl cx rx hw dX11_besides_25 rfl
abbrev fs_X11_squares : List Nat := [657, 658]
abbrev ts_X11_squares : List Nat := [52]
set_option maxHeartbeats 4000000 in
set_option maxRecDepth 100000 in
theorem c_X11_squares (a0 : Nat) (ha0 : oA L τ a0 10) : oMet l A L τ cy D K yX11_squares cX11_squares 6 (some .int) 3 67 [.ref a0] σ (va_Qi (fun r σ1 => oFr τ fs_X11_squares ts_X11_squares σ σ1 ∧ Iv r 0 127) (oPo A L τ cy D) A) := by
  refine oMk (by decide) (Nat.le_of_ble_eq_true rfl) rfl ?_
  intro p e s m args below meth c ls cx rx hA hw hl
  generalize hQ : MQ below _ args s 0 0 A = Q
  have hx := cx.1.1
  have hb := cx.1.2.1
  have hml := cx.1.2.2.1
  have hown := cx.1.2.2.2.1
  have hts := cx.1.2.2.2.2
  have hl : lv_has ls 6 [(0, .ref a0)] := hl
  have fr : oFr τ fs_X11_squares ts_X11_squares σ σ := oFr_rf
  refine lv_aload_n hx hb dX11_squares_0 rfl (lv_at hl 0 rfl) ?_
  refine lv_iconst (v := 0) hx hb dX11_squares_1 (by decide) ?_
  refine p_658 cx hw ha0 k_f_X11_89 dX11_squares_2 (fun σ1 H locs eσ1 hw => ?_)
  have fr := oFr_i fr eσ1 (by decide)
  refine lv_aload_n hx hb dX11_squares_5 rfl (lv_at hl 0 rfl) ?_
  refine lv_aload_n hx hb dX11_squares_6 rfl (lv_at hl 0 rfl) ?_
  refine g_640 cx hw ha0 k_f_X11_9 dX11_squares_7 (fun v2 e2 h2 => ?_)
  refine o_cl hw (oRunV cx hA hw q_X11_roadOf k_m_X11_313 rfl ha0 (by decide) (As := [.ref v2]) (c_X11_roadOf a0 ha0 v2 h2) (by decide) rfl hl.1 rfl (Nat.le_of_ble_eq_true rfl) dX11_squares_10 (by decide)) (fun v4 σ3 H locs hp hw => ?_)
  have p4_0 := hp
  rw [p4_0] at hw
  refine lv_lstore_n (lv' := [(1, .long v4), (0, .ref a0)]) hx hb dX11_squares_13 rfl hl (by decide) rfl (fun ls hl => ?_)
  refine lv_lconst (v := 0) hx hb dX11_squares_14 (by decide) ?_
  refine lv_lstore_n (lv' := [(3, .long 0), (1, .long v4), (0, .ref a0)]) hx hb dX11_squares_15 rfl hl (by decide) rfl (fun ls hl => ?_)
  refine lv_iconst (v := 0) hx hb dX11_squares_16 (by decide) ?_
  refine lv_istore (lv' := [(5, .int 0), (3, .long 0), (1, .long v4), (0, .ref a0)]) hx hb dX11_squares_17 hl (by decide) rfl (fun ls hl => ?_)
  have J_19 : ∀ n : Nat, ∀ (j19_3 : Int64) (j19_5 : Int32) (ij19_5 : Iv j19_5 0 64), (64 - j19_5.toInt).toNat < n → ∀ (σ_19 : oSt) (H : Heap) (locs : List Loc), oI A L τ cy D s.heap σ_19 H locs → oFr τ fs_X11_squares ts_X11_squares σ σ_19 → ∀ (ls : Array Slot), lv_has ls 6 [(0, .ref a0), (1, .long v4), (3, .long j19_3), (5, .int j19_5)] → W p l e ({ frames := 3, cells := 0, slots := 0, locals := 67 } : Room) s m args below meth c H locs 0 0 Q (F0 m 19 ls []) := by
    intro n
    induction n with
    | zero => intro j19_3 j19_5 ij19_5 hn_19  σ_19 H locs hw fr   ls hl; exact absurd hn_19 (Nat.not_lt_zero _)
    | succ n ih_19 =>
      intro j19_3 j19_5 ij19_5 hn_19  σ_19 H locs hw fr   ls hl
      refine lv_iload hx hb dX11_squares_19 (lv_at hl 3 rfl) ?_
      refine lv_bipush (v := 64) hx hb dX11_squares_21 (by decide) ?_
      refine lv_icmp_ge (tgt := 68) hx hb dX11_squares_23 (by decide) (fun c5 => ?_) (fun c5 => ?_)
      · --
        have i6 : Iv j19_5 64 64 := iv_le2 c5 (⟨by decide, by decide⟩ : Iv 64 64 64) ij19_5 (by decide)
        refine lv_aload_n hx hb dX11_squares_68 rfl (lv_at hl 0 rfl) ?_
        refine lv_iconst (v := 0) hx hb dX11_squares_69 (by decide) ?_
        refine p_657 cx hw ha0 (iv_w (⟨by decide, by decide⟩ : Iv 0 0 0) (by decide)) k_f_X11_92 dX11_squares_70 (fun σ7 H locs eσ7 hw => ?_)
        have fr := oFr_i fr eσ7 (by decide)
        refine lv_aload_n hx hb dX11_squares_73 rfl (lv_at hl 0 rfl) ?_
        refine lv_lload_n hx hb dX11_squares_74 rfl (lv_at hl 2 rfl) ?_
        refine o_cv hw (oRunV cx hA hw q_X11_tell k_m_X11_278 rfl ha0 (by decide) (As := [.long j19_3]) (c_X11_tell a0 ha0 j19_3 (kn_iv ((kp_s eσ7)) (iv_w (⟨by decide, by decide⟩ : Iv 0 0 0) (by decide)))) (by decide) rfl hl.1 rfl (Nat.le_of_ble_eq_true rfl) dX11_squares_75 (by decide)) (fun σ8 H locs hp hw => ?_)
        obtain ⟨p9_0, p9_1⟩ := hp
        have fr := oFr_tr fr p9_0 (by decide)
        have x11 : (σ8.1 657 a0).toInt = (0 : Int32).toInt + 1 := fin_tr p9_1 ((kp_s eσ7))
        have i10 : Iv (σ8.1 657 a0) 1 1 := iv_fin x11 (⟨by decide, by decide⟩ : Iv 0 0 0) (by decide)
        refine lv_lload_n hx hb dX11_squares_78 rfl (lv_at hl 2 rfl) ?_
        refine o_ci hw (oRunS cx hA hw q_J13_bitCount_95d88 k_m_X11_321 (As := [.long j19_3]) (c_J13_bitCount_95d88 j19_3) (by decide) rfl hl.1 rfl (Nat.le_of_ble_eq_true rfl) dX11_squares_79 (by decide)) (fun v13 σ12 H locs hp hw => ?_)
        obtain ⟨p13_0, p13_1⟩ := hp
        rw [p13_0] at hw
        rw [← hQ]
        exact o_ri cx rx hw dX11_squares_82 ⟨fr, (iv_w p13_1 (by decide))⟩
      · --
        have i14 : Iv j19_5 0 63 := iv_lt1 (iv_nle c5) ij19_5 (⟨by decide, by decide⟩ : Iv 64 64 64) (by decide)
        refine lv_lload_n hx hb dX11_squares_26 rfl (lv_at hl 2 rfl) ?_
        refine lv_lload_n hx hb dX11_squares_27 rfl (lv_at hl 1 rfl) ?_
        refine lv_iload hx hb dX11_squares_28 (lv_at hl 3 rfl) ?_
        refine o_ci hw (oRunS cx hA hw q_X11_has k_m_X11_215 (As := [.long v4, .int j19_5]) (c_X11_has v4 j19_5) (by decide) rfl hl.1 rfl (Nat.le_of_ble_eq_true rfl) dX11_squares_30 (by decide)) (fun v16 σ15 H locs hp hw => ?_)
        obtain ⟨p16_0, p16_1⟩ := hp
        rw [p16_0] at hw
        have J_60 : ∀ (k60_1 : Int64), ∀ (σ_60 : oSt) (H : Heap) (locs : List Loc), oI A L τ cy D s.heap σ_60 H locs → oFr τ fs_X11_squares ts_X11_squares σ σ_60 → ∀ (ls : Array Slot), lv_has ls 6 [(0, .ref a0), (1, .long v4), (3, .long j19_3), (5, .int j19_5)] → W p l e ({ frames := 3, cells := 0, slots := 0, locals := 67 } : Room) s m args below meth c H locs 0 0 Q (F0 m 60 ls [.long k60_1, .long j19_3]) := by
          intro k60_1   σ_60 H locs hw fr   ls hl
          refine lv_lor hx hb dX11_squares_60 ?_
          refine lv_topl (fun v17 e17 => ?_)
          refine lv_lstore_n (lv' := [(3, .long v17), (0, .ref a0), (1, .long v4), (5, .int j19_5)]) hx hb dX11_squares_61 rfl hl (by decide) rfl (fun ls hl => ?_)
          obtain ⟨v18, e18⟩ : ∃ y : Int32, y = j19_5 + 1 := ⟨_, rfl⟩
          have i18 : Iv v18 1 64 := iv_add e18 i14 (⟨by decide, by decide⟩ : Iv 1 1 1) (by decide)
          have x18 : v18.toInt = j19_5.toInt + 1 := ex_add e18 i14 (⟨by decide, by decide⟩ : Iv 1 1 1) (by decide)
          refine lv_iinc (v := v18) (lv' := [(5, .int v18), (3, .long v17), (0, .ref a0), (1, .long v4)]) hx hb dX11_squares_62 hl (k := 3) rfl (by rw [e18]; rfl) (by decide) rfl (fun ls hl => ?_)
          refine lv_goto (tgt := 19) hx hb dX11_squares_65 (by decide) ?_
          exact ih_19 v17 v18 (iv_w i18 (by decide)) (ms_up x18 (by decide) (iv_w (a' := 0) (b' := 64) i18 (by decide)).2 hn_19) σ_60 _ _ hw fr _ (lv_sub hl [2, 3, 1, 0] rfl)
        have J_59 : ∀ (σ_59 : oSt) (H : Heap) (locs : List Loc), oI A L τ cy D s.heap σ_59 H locs → oFr τ fs_X11_squares ts_X11_squares σ σ_59 → ∀ (ls : Array Slot), lv_has ls 6 [(0, .ref a0), (1, .long v4), (3, .long j19_3), (5, .int j19_5)] → W p l e ({ frames := 3, cells := 0, slots := 0, locals := 67 } : Room) s m args below meth c H locs 0 0 Q (F0 m 59 ls [.long j19_3]) := by
          intro    σ_59 H locs hw fr   ls hl
          refine lv_lconst (v := 0) hx hb dX11_squares_59 (by decide) ?_
          exact J_60 0 σ_59 _ _ hw fr _ (lv_sub hl [0, 1, 2, 3] rfl)
        refine lv_if_eq (tgt := 59) hx hb dX11_squares_33 (by decide) (fun c19 => ?_) (fun c19 => ?_)
        · --
          have i20 : Iv v16 0 0 := iv_eq1 c19 p16_1 (⟨by decide, by decide⟩ : Iv 0 0 0) (by decide)
          exact J_59 σ_19 _ _ hw fr _ (lv_sub hl [0, 1, 2, 3] rfl)
        · --
          have i21 : Iv v16 1 1 := iv_ne1 c19 p16_1 (⟨by decide, by decide⟩ : Iv 0 0 0) (by decide)
          refine lv_lconst (v := 1) hx hb dX11_squares_36 (by decide) ?_
          refine lv_iload hx hb dX11_squares_37 (lv_at hl 3 rfl) ?_
          refine lv_lshl hx hb dX11_squares_39 rfl ?_
          refine lv_topl (fun v22 e22 => ?_)
          refine o_cl hw (oRunS cx hA hw q_X11_besides k_m_X11_309 (As := [.long v22]) (c_X11_besides v22) (by decide) rfl hl.1 rfl (Nat.le_of_ble_eq_true rfl) dX11_squares_40 (by decide)) (fun v24 σ23 H locs hp hw => ?_)
          have p24_0 := hp
          rw [p24_0] at hw
          refine lv_lload_n hx hb dX11_squares_43 rfl (lv_at hl 1 rfl) ?_
          refine lv_land hx hb dX11_squares_44 ?_
          refine lv_topl (fun v25 e25 => ?_)
          refine o_ci hw (oRunS cx hA hw q_J13_bitCount_95d88 k_m_X11_321 (As := [.long v25]) (c_J13_bitCount_95d88 v25) (by decide) rfl hl.1 rfl (Nat.le_of_ble_eq_true rfl) dX11_squares_45 (by decide)) (fun v27 σ26 H locs hp hw => ?_)
          obtain ⟨p27_0, p27_1⟩ := hp
          rw [p27_0] at hw
          refine lv_iconst (v := 3) hx hb dX11_squares_48 (by decide) ?_
          refine lv_icmp_lt (tgt := 59) hx hb dX11_squares_49 (by decide) (fun c28 => ?_) (fun c28 => ?_)
          · --
            have i29 : Iv v27 0 2 := iv_lt1 c28 p27_1 (⟨by decide, by decide⟩ : Iv 3 3 3) (by decide)
            exact J_59 σ_19 _ _ hw fr _ (lv_sub hl [0, 1, 2, 3] rfl)
          · --
            have i30 : Iv v27 3 127 := iv_le2 (iv_nlt c28) (⟨by decide, by decide⟩ : Iv 3 3 3) p27_1 (by decide)
            refine lv_lconst (v := 1) hx hb dX11_squares_52 (by decide) ?_
            refine lv_iload hx hb dX11_squares_53 (lv_at hl 3 rfl) ?_
            refine lv_lshl hx hb dX11_squares_55 rfl ?_
            refine lv_topl (fun v31 e31 => ?_)
            refine lv_goto (tgt := 60) hx hb dX11_squares_56 (by decide) ?_
            exact J_60 v31 σ_19 _ _ hw fr _ (lv_sub hl [0, 1, 2, 3] rfl)
  exact J_19 _ 0 0 (iv_w (⟨by decide, by decide⟩ : Iv 0 0 0) (by decide)) (Nat.lt_succ_self _) σ1 _ _ hw fr _ (lv_sub hl [3, 2, 1, 0] rfl)
abbrev fs_X11_owners : List Nat := [657, 658]
abbrev ts_X11_owners : List Nat := [52]
set_option maxHeartbeats 4000000 in
set_option maxRecDepth 100000 in
theorem c_X11_owners (a0 : Nat) (ha0 : oA L τ a0 10) : oMet l A L τ cy D K yX11_owners cX11_owners 8 (some .int) 3 67 [.ref a0] σ (va_Qi (fun r σ1 => oFr τ fs_X11_owners ts_X11_owners σ σ1 ∧ Iv r (-2) 6) (oPo A L τ cy D) A) := by
  refine oMk (by decide) (Nat.le_of_ble_eq_true rfl) rfl ?_
  intro p e s m args below meth c ls cx rx hA hw hl
  generalize hQ : MQ below _ args s 0 0 A = Q
  have hx := cx.1.1
  have hb := cx.1.2.1
  have hml := cx.1.2.2.1
  have hown := cx.1.2.2.2.1
  have hts := cx.1.2.2.2.2
  have hl : lv_has ls 8 [(0, .ref a0)] := hl
  have fr : oFr τ fs_X11_owners ts_X11_owners σ σ := oFr_rf
  refine lv_aload_n hx hb dX11_owners_0 rfl (lv_at hl 0 rfl) ?_
  refine lv_iconst (v := 0) hx hb dX11_owners_1 (by decide) ?_
  refine p_658 cx hw ha0 k_f_X11_89 dX11_owners_2 (fun σ1 H locs eσ1 hw => ?_)
  have fr := oFr_i fr eσ1 (by decide)
  refine lv_aload_n hx hb dX11_owners_5 rfl (lv_at hl 0 rfl) ?_
  refine g_647 cx hw ha0 k_f_X11_105 dX11_owners_6 (fun v2 e2 i2 => ?_)
  refine lv_if_ne (tgt := 15) hx hb dX11_owners_9 (by decide) (fun c3 => ?_) (fun c3 => ?_)
  · --
    have i4 : Iv v2 1 6 := iv_ne1 c3 i2 (⟨by decide, by decide⟩ : Iv 0 0 0) (by decide)
    refine lv_iconst (v := 0) hx hb dX11_owners_15 (by decide) ?_
    refine lv_istore_n (lv' := [(1, .int 0), (0, .ref a0)]) hx hb dX11_owners_16 rfl hl (by decide) rfl (fun ls hl => ?_)
    refine lv_iconst (v := (-1)) hx hb dX11_owners_17 (by decide) ?_
    refine lv_istore_n (lv' := [(2, .int (-1)), (1, .int 0), (0, .ref a0)]) hx hb dX11_owners_18 rfl hl (by decide) rfl (fun ls hl => ?_)
    refine lv_aload_n hx hb dX11_owners_19 rfl (lv_at hl 2 rfl) ?_
    refine lv_aload_n hx hb dX11_owners_20 rfl (lv_at hl 2 rfl) ?_
    refine g_640 cx hw ha0 k_f_X11_9 dX11_owners_21 (fun v5 e5 h5 => ?_)
    refine o_cl hw (oRunV cx hA hw q_X11_roadOf k_m_X11_313 rfl ha0 (by decide) (As := [.ref v5]) (c_X11_roadOf a0 ha0 v5 h5) (by decide) rfl hl.1 rfl (Nat.le_of_ble_eq_true rfl) dX11_owners_24 (by decide)) (fun v7 σ6 H locs hp hw => ?_)
    have p7_0 := hp
    rw [p7_0] at hw
    refine lv_lstore_n (lv' := [(3, .long v7), (2, .int (-1)), (1, .int 0), (0, .ref a0)]) hx hb dX11_owners_27 rfl hl (by decide) rfl (fun ls hl => ?_)
    refine lv_aload_n hx hb dX11_owners_28 rfl (lv_at hl 3 rfl) ?_
    refine lv_iconst (v := 0) hx hb dX11_owners_29 (by decide) ?_
    refine p_657 cx hw ha0 (iv_w (⟨by decide, by decide⟩ : Iv 0 0 0) (by decide)) k_f_X11_92 dX11_owners_30 (fun σ8 H locs eσ8 hw => ?_)
    have fr := oFr_i fr eσ8 (by decide)
    refine lv_iconst (v := 0) hx hb dX11_owners_33 (by decide) ?_
    refine lv_istore (lv' := [(5, .int 0), (3, .long v7), (2, .int (-1)), (1, .int 0), (0, .ref a0)]) hx hb dX11_owners_34 hl (by decide) rfl (fun ls hl => ?_)
    have J_36 : ∀ n : Nat, ∀ (j36_1 : Int32) (ij36_1 : Iv j36_1 0 6) (j36_2 : Int32) (ij36_2 : Iv j36_2 (-1) 2147483647) (j36_5 : Int32) (ij36_5 : Iv j36_5 0 6), (6 - j36_5.toInt).toNat < n → ∀ (σ_36 : oSt) (H : Heap) (locs : List Loc), oI A L τ cy D s.heap σ_36 H locs → oFr τ fs_X11_owners ts_X11_owners σ σ_36 → Iv (σ_36.1 657 a0) 0 6 → (σ_36.1 657 a0).toInt ≤ j36_5.toInt + 0 → ∀ (ls : Array Slot), lv_has ls 8 [(0, .ref a0), (1, .int j36_1), (2, .int j36_2), (3, .long v7), (5, .int j36_5)] → W p l e ({ frames := 3, cells := 0, slots := 0, locals := 67 } : Room) s m args below meth c H locs 0 0 Q (F0 m 36 ls []) := by
      intro n
      induction n with
      | zero => intro j36_1 ij36_1 j36_2 ij36_2 j36_5 ij36_5 hn_36  σ_36 H locs hw fr f36_657_a0  le36_0 ls hl; exact absurd hn_36 (Nat.not_lt_zero _)
      | succ n ih_36 =>
        intro j36_1 ij36_1 j36_2 ij36_2 j36_5 ij36_5 hn_36  σ_36 H locs hw fr f36_657_a0  le36_0 ls hl
        refine lv_iload hx hb dX11_owners_36 (lv_at hl 4 rfl) ?_
        refine lv_aload_n hx hb dX11_owners_38 rfl (lv_at hl 0 rfl) ?_
        refine g_647 cx hw ha0 k_f_X11_105 dX11_owners_39 (fun v9 e9 i9 => ?_)
        refine lv_icmp_ge (tgt := 127) hx hb dX11_owners_42 (by decide) (fun c10 => ?_) (fun c10 => ?_)
        · --
          refine lv_iload_n hx hb dX11_owners_127 rfl (lv_at hl 1 rfl) ?_
          rw [← hQ]
          exact o_ri cx rx hw dX11_owners_128 ⟨fr, (iv_w ij36_1 (by decide))⟩
        · --
          have i11 : Iv j36_5 0 5 := iv_lt1 (iv_nle c10) ij36_5 i9 (by decide)
          have i12 : Iv (σ_36.1 657 a0) 0 5 := iv_leh le36_0 f36_657_a0 i11 (by decide)
          have i13 : Iv v9 1 6 := iv_lt2 (iv_nle c10) ij36_5 i9 (by decide)
          refine lv_iconst (v := 0) hx hb dX11_owners_45 (by decide) ?_
          refine lv_istore (lv' := [(6, .int 0), (0, .ref a0), (1, .int j36_1), (2, .int j36_2), (3, .long v7), (5, .int j36_5)]) hx hb dX11_owners_46 hl (by decide) rfl (fun ls hl => ?_)
          refine lv_iconst (v := 0) hx hb dX11_owners_48 (by decide) ?_
          refine lv_istore (lv' := [(7, .int 0), (6, .int 0), (0, .ref a0), (1, .int j36_1), (2, .int j36_2), (3, .long v7), (5, .int j36_5)]) hx hb dX11_owners_49 hl (by decide) rfl (fun ls hl => ?_)
          have J_51 : ∀ n : Nat, ∀ (j51_6 : Int32) (j51_7 : Int32) (ij51_7 : Iv j51_7 0 64), (64 - j51_7.toInt).toNat < n → ∀ (σ_51 : oSt) (H : Heap) (locs : List Loc), oI A L τ cy D s.heap σ_51 H locs → oFr τ fs_X11_owners ts_X11_owners σ σ_51 → Iv (σ_51.1 657 a0) 0 6 → (σ_51.1 657 a0).toInt ≤ j36_5.toInt + 0 → ∀ (ls : Array Slot), lv_has ls 8 [(0, .ref a0), (1, .int j36_1), (2, .int j36_2), (3, .long v7), (5, .int j36_5), (6, .int j51_6), (7, .int j51_7)] → W p l e ({ frames := 3, cells := 0, slots := 0, locals := 67 } : Room) s m args below meth c H locs 0 0 Q (F0 m 51 ls []) := by
            intro n
            induction n with
            | zero => intro j51_6 j51_7 ij51_7 hn_51  σ_51 H locs hw fr f51_657_a0  le51_0 ls hl; exact absurd hn_51 (Nat.not_lt_zero _)
            | succ n ih_51 =>
              intro j51_6 j51_7 ij51_7 hn_51  σ_51 H locs hw fr f51_657_a0  le51_0 ls hl
              have i14 : Iv (σ_51.1 657 a0) 0 5 := iv_leh le51_0 f51_657_a0 i11 (by decide)
              refine lv_iload hx hb dX11_owners_51 (lv_at hl 6 rfl) ?_
              refine lv_bipush (v := 64) hx hb dX11_owners_53 (by decide) ?_
              refine lv_icmp_ge (tgt := 99) hx hb dX11_owners_55 (by decide) (fun c15 => ?_) (fun c15 => ?_)
              · --
                have i16 : Iv j51_7 64 64 := iv_le2 c15 (⟨by decide, by decide⟩ : Iv 64 64 64) ij51_7 (by decide)
                refine lv_aload_n hx hb dX11_owners_99 rfl (lv_at hl 0 rfl) ?_
                refine lv_iload hx hb dX11_owners_100 (lv_at hl 5 rfl) ?_
                refine lv_i2l hx hb dX11_owners_102 rfl ?_
                refine lv_topl (fun v17 e17 => ?_)
                refine o_cv hw (oRunV cx hA hw q_X11_tell k_m_X11_278 rfl ha0 (by decide) (As := [.long v17]) (c_X11_tell a0 ha0 v17 (kn_iv (rfl) (iv_w i14 (by decide)))) (by decide) rfl hl.1 rfl (Nat.le_of_ble_eq_true rfl) dX11_owners_103 (by decide)) (fun σ18 H locs hp hw => ?_)
                obtain ⟨p19_0, p19_1⟩ := hp
                have fr := oFr_tr fr p19_0 (by decide)
                have x21 : (σ18.1 657 a0).toInt = (σ_51.1 657 a0).toInt + 1 := fin_tr p19_1 (rfl)
                have i20 : Iv (σ18.1 657 a0) 1 6 := iv_fin x21 i14 (by decide)
                refine lv_iload hx hb dX11_owners_106 (lv_at hl 5 rfl) ?_
                refine lv_iload_n hx hb dX11_owners_108 rfl (lv_at hl 2 rfl) ?_
                have J_121 : ∀ (j121_1 : Int32) (ij121_1 : Iv j121_1 0 6) (j121_2 : Int32) (ij121_2 : Iv j121_2 (-1) 2147483647), ∀ (σ_121 : oSt) (H : Heap) (locs : List Loc), oI A L τ cy D s.heap σ_121 H locs → oFr τ fs_X11_owners ts_X11_owners σ σ_121 → Iv (σ_121.1 657 a0) 1 6 → (σ_121.1 657 a0).toInt ≤ j36_5.toInt + 1 → ∀ (ls : Array Slot), lv_has ls 8 [(0, .ref a0), (1, .int j121_1), (2, .int j121_2), (3, .long v7), (5, .int j36_5), (6, .int j51_6), (7, .int j51_7)] → W p l e ({ frames := 3, cells := 0, slots := 0, locals := 67 } : Room) s m args below meth c H locs 0 0 Q (F0 m 121 ls []) := by
                  intro j121_1 ij121_1 j121_2 ij121_2   σ_121 H locs hw fr f121_657_a0  le121_0 ls hl
                  obtain ⟨v22, e22⟩ : ∃ y : Int32, y = j36_5 + 1 := ⟨_, rfl⟩
                  have i22 : Iv v22 1 6 := iv_add e22 i11 (⟨by decide, by decide⟩ : Iv 1 1 1) (by decide)
                  have x22 : v22.toInt = j36_5.toInt + 1 := ex_add e22 i11 (⟨by decide, by decide⟩ : Iv 1 1 1) (by decide)
                  refine lv_iinc (v := v22) (lv' := [(5, .int v22), (0, .ref a0), (1, .int j121_1), (2, .int j121_2), (3, .long v7), (6, .int j51_6), (7, .int j51_7)]) hx hb dX11_owners_121 hl (k := 4) rfl (by rw [e22]; rfl) (by decide) rfl (fun ls hl => ?_)
                  refine lv_goto (tgt := 36) hx hb dX11_owners_124 (by decide) ?_
                  exact ih_36 j121_1 ij121_1 j121_2 ij121_2 v22 (iv_w i22 (by decide)) (ms_up x22 (by decide) (iv_w (a' := 0) (b' := 6) i22 (by decide)).2 hn_36) σ_121 _ _ hw fr (kn_iv (rfl) (iv_w f121_657_a0 (by decide))) (le_lin (Int.add_zero _).symm x22 le121_0 (by decide)) _ (lv_sub hl [1, 2, 3, 4, 0] rfl)
                refine lv_icmp_gt (tgt := 115) hx hb dX11_owners_109 (by decide) (fun c23 => ?_) (fun c23 => ?_)
                · --
                  have i24 : Iv j36_2 (-1) 2147483646 := iv_lt1 c23 ij36_2 (iv_top j51_6) (by decide)
                  have i25 : Iv j51_6 0 2147483647 := iv_lt2 c23 ij36_2 (iv_top j51_6) (by decide)
                  refine lv_iload hx hb dX11_owners_115 (lv_at hl 4 rfl) ?_
                  refine lv_istore_n (lv' := [(1, .int j36_5), (0, .ref a0), (2, .int j36_2), (3, .long v7), (5, .int j36_5), (6, .int j51_6), (7, .int j51_7)]) hx hb dX11_owners_117 rfl hl (by decide) rfl (fun ls hl => ?_)
                  refine lv_iload hx hb dX11_owners_118 (lv_at hl 5 rfl) ?_
                  refine lv_istore_n (lv' := [(2, .int j51_6), (1, .int j36_5), (0, .ref a0), (3, .long v7), (5, .int j36_5), (6, .int j51_6), (7, .int j51_7)]) hx hb dX11_owners_120 rfl hl (by decide) rfl (fun ls hl => ?_)
                  exact J_121 j36_5 (iv_w i11 (by decide)) j51_6 (iv_w i25 (by decide)) σ18 _ _ hw fr (kn_iv (rfl) (iv_w i20 (by decide))) (le_lin x21 (Int.add_zero _).symm le51_0 (by decide)) _ (lv_sub hl [2, 1, 0, 3, 4, 5, 6] rfl)
                · --
                  refine lv_goto (tgt := 121) hx hb dX11_owners_112 (by decide) ?_
                  exact J_121 j36_1 ij36_1 j36_2 ij36_2 σ18 _ _ hw fr (kn_iv (rfl) (iv_w i20 (by decide))) (le_lin x21 (Int.add_zero _).symm le51_0 (by decide)) _ (lv_sub hl [0, 1, 2, 3, 4, 5, 6] rfl)
              · --
                have i26 : Iv j51_7 0 63 := iv_lt1 (iv_nle c15) ij51_7 (⟨by decide, by decide⟩ : Iv 64 64 64) (by decide)
                refine lv_iload hx hb dX11_owners_58 (lv_at hl 5 rfl) ?_
                refine lv_lload_n hx hb dX11_owners_60 rfl (lv_at hl 3 rfl) ?_
                refine lv_iload hx hb dX11_owners_61 (lv_at hl 6 rfl) ?_
                refine o_ci hw (oRunS cx hA hw q_X11_has k_m_X11_215 (As := [.long v7, .int j51_7]) (c_X11_has v7 j51_7) (by decide) rfl hl.1 rfl (Nat.le_of_ble_eq_true rfl) dX11_owners_63 (by decide)) (fun v28 σ27 H locs hp hw => ?_)
                obtain ⟨p28_0, p28_1⟩ := hp
                rw [p28_0] at hw
                have J_90 : ∀ (k90_1 : Int32) (ik90_1 : Iv k90_1 0 1), ∀ (σ_90 : oSt) (H : Heap) (locs : List Loc), oI A L τ cy D s.heap σ_90 H locs → oFr τ fs_X11_owners ts_X11_owners σ σ_90 → Iv (σ_90.1 657 a0) 0 5 → (σ_90.1 657 a0).toInt ≤ j36_5.toInt + 0 → ∀ (ls : Array Slot), lv_has ls 8 [(0, .ref a0), (1, .int j36_1), (2, .int j36_2), (3, .long v7), (5, .int j36_5), (6, .int j51_6), (7, .int j51_7)] → W p l e ({ frames := 3, cells := 0, slots := 0, locals := 67 } : Room) s m args below meth c H locs 0 0 Q (F0 m 90 ls [.int k90_1, .int j51_6]) := by
                  intro k90_1 ik90_1   σ_90 H locs hw fr f90_657_a0  le90_0 ls hl
                  refine lv_iadd hx hb dX11_owners_90 ?_
                  refine lv_topi (fun v29 e29 => ?_)
                  refine lv_istore (lv' := [(6, .int v29), (0, .ref a0), (1, .int j36_1), (2, .int j36_2), (3, .long v7), (5, .int j36_5), (7, .int j51_7)]) hx hb dX11_owners_91 hl (by decide) rfl (fun ls hl => ?_)
                  obtain ⟨v30, e30⟩ : ∃ y : Int32, y = j51_7 + 1 := ⟨_, rfl⟩
                  have i30 : Iv v30 1 64 := iv_add e30 i26 (⟨by decide, by decide⟩ : Iv 1 1 1) (by decide)
                  have x30 : v30.toInt = j51_7.toInt + 1 := ex_add e30 i26 (⟨by decide, by decide⟩ : Iv 1 1 1) (by decide)
                  refine lv_iinc (v := v30) (lv' := [(7, .int v30), (6, .int v29), (0, .ref a0), (1, .int j36_1), (2, .int j36_2), (3, .long v7), (5, .int j36_5)]) hx hb dX11_owners_93 hl (k := 6) rfl (by rw [e30]; rfl) (by decide) rfl (fun ls hl => ?_)
                  refine lv_goto (tgt := 51) hx hb dX11_owners_96 (by decide) ?_
                  exact ih_51 v29 v30 (iv_w i30 (by decide)) (ms_up x30 (by decide) (iv_w (a' := 0) (b' := 64) i30 (by decide)).2 hn_51) σ_90 _ _ hw fr (kn_iv (rfl) (iv_w f90_657_a0 (by decide))) (le_lin (Int.add_zero _).symm (Int.add_zero _).symm le90_0 (by decide)) _ (lv_sub hl [2, 3, 4, 5, 6, 1, 0] rfl)
                have J_89 : ∀ (σ_89 : oSt) (H : Heap) (locs : List Loc), oI A L τ cy D s.heap σ_89 H locs → oFr τ fs_X11_owners ts_X11_owners σ σ_89 → Iv (σ_89.1 657 a0) 0 5 → (σ_89.1 657 a0).toInt ≤ j36_5.toInt + 0 → ∀ (ls : Array Slot), lv_has ls 8 [(0, .ref a0), (1, .int j36_1), (2, .int j36_2), (3, .long v7), (5, .int j36_5), (6, .int j51_6), (7, .int j51_7)] → W p l e ({ frames := 3, cells := 0, slots := 0, locals := 67 } : Room) s m args below meth c H locs 0 0 Q (F0 m 89 ls [.int j51_6]) := by
                  intro    σ_89 H locs hw fr f89_657_a0  le89_0 ls hl
                  refine lv_iconst (v := 0) hx hb dX11_owners_89 (by decide) ?_
                  exact J_90 0 (iv_w (⟨by decide, by decide⟩ : Iv 0 0 0) (by decide)) σ_89 _ _ hw fr (kn_iv (rfl) (iv_w f89_657_a0 (by decide))) (le_lin (Int.add_zero _).symm (Int.add_zero _).symm le89_0 (by decide)) _ (lv_sub hl [0, 1, 2, 3, 4, 5, 6] rfl)
                refine lv_if_eq (tgt := 89) hx hb dX11_owners_66 (by decide) (fun c31 => ?_) (fun c31 => ?_)
                · --
                  have i32 : Iv v28 0 0 := iv_eq1 c31 p28_1 (⟨by decide, by decide⟩ : Iv 0 0 0) (by decide)
                  exact J_89 σ_51 _ _ hw fr (kn_iv (rfl) (iv_w i14 (by decide))) (le_lin (Int.add_zero _).symm (Int.add_zero _).symm le51_0 (by decide)) _ (lv_sub hl [0, 1, 2, 3, 4, 5, 6] rfl)
                · --
                  have i33 : Iv v28 1 1 := iv_ne1 c31 p28_1 (⟨by decide, by decide⟩ : Iv 0 0 0) (by decide)
                  refine lv_aload_n hx hb dX11_owners_69 rfl (lv_at hl 0 rfl) ?_
                  refine g_640 cx hw ha0 k_f_X11_9 dX11_owners_70 (fun v34 e34 h34 => ?_)
                  refine lv_sipush (v := 256) hx hb dX11_owners_73 (by decide) ?_
                  refine lv_iload hx hb dX11_owners_76 (lv_at hl 6 rfl) ?_
                  refine lv_iadd hx hb dX11_owners_78 ?_
                  refine lv_topi (fun v35 e35 => ?_)
                  have i35 : Iv v35 256 319 := iv_add e35 (⟨by decide, by decide⟩ : Iv 256 256 256) i26 (by decide)
                  have x35 : v35.toInt = j51_7.toInt + 256 := (ex_add e35 (⟨by decide, by decide⟩ : Iv 256 256 256) i26 (by decide)).trans (Int.add_comm _ _)
                  refine o_iald cx hw h34 (by decide) rfl (iv_in i35 (by decide)) dX11_owners_79 (fun v36 e36 b36 => ?_)
                  refine lv_iload hx hb dX11_owners_80 (lv_at hl 4 rfl) ?_
                  refine lv_icmp_ne (tgt := 89) hx hb dX11_owners_82 (by decide) (fun c37 => ?_) (fun c37 => ?_)
                  · --
                    exact J_89 σ_51 _ _ hw fr (kn_iv (rfl) (iv_w i14 (by decide))) (le_lin (Int.add_zero _).symm (Int.add_zero _).symm le51_0 (by decide)) _ (lv_sub hl [0, 1, 2, 3, 4, 5, 6] rfl)
                  · --
                    have i38 : Iv v36 0 5 := iv_eq1 c37 (iv_top v36) i11 (by decide)
                    refine lv_iconst (v := 1) hx hb dX11_owners_85 (by decide) ?_
                    refine lv_goto (tgt := 90) hx hb dX11_owners_86 (by decide) ?_
                    exact J_90 1 (iv_w (⟨by decide, by decide⟩ : Iv 1 1 1) (by decide)) σ_51 _ _ hw fr (kn_iv (rfl) (iv_w i14 (by decide))) (le_lin (Int.add_zero _).symm (Int.add_zero _).symm le51_0 (by decide)) _ (lv_sub hl [0, 1, 2, 3, 4, 5, 6] rfl)
          exact J_51 _ 0 0 (iv_w (⟨by decide, by decide⟩ : Iv 0 0 0) (by decide)) (Nat.lt_succ_self _) σ_36 _ _ hw fr (kn_iv (rfl) (iv_w i12 (by decide))) (le_lin (Int.add_zero _).symm (Int.add_zero _).symm le36_0 (by decide)) _ (lv_sub hl [2, 3, 4, 5, 6, 1, 0] rfl)
    exact J_36 _ 0 (iv_w (⟨by decide, by decide⟩ : Iv 0 0 0) (by decide)) (-1) (iv_w (⟨by decide, by decide⟩ : Iv (-1) (-1) (-1)) (by decide)) 0 (iv_w (⟨by decide, by decide⟩ : Iv 0 0 0) (by decide)) (Nat.lt_succ_self _) σ8 _ _ hw fr (kn_iv ((kp_s eσ8)) (iv_w (⟨by decide, by decide⟩ : Iv 0 0 0) (by decide))) (le_cl ((kp_s eσ8)) (le_iv (⟨by decide, by decide⟩ : Iv 0 0 0) (⟨by decide, by decide⟩ : Iv 0 0 0) (by decide))) _ (lv_sub hl [4, 3, 2, 1, 0] rfl)
  · --
    have i39 : Iv v2 0 0 := iv_eq1 c3 i2 (⟨by decide, by decide⟩ : Iv 0 0 0) (by decide)
    refine lv_bipush (v := (-2)) hx hb dX11_owners_12 (by decide) ?_
    rw [← hQ]
    exact o_ri cx rx hw dX11_owners_14 ⟨fr, (iv_w (⟨by decide, by decide⟩ : Iv (-2) (-2) (-2)) (by decide))⟩
set_option maxHeartbeats 4000000 in
set_option maxRecDepth 100000 in
theorem c_X11_isLook (a0 : Int32) : oMet l A L τ cy D K yX11_isLook cX11_isLook 1 (some .boolean) 1 22 [.int a0] σ (va_Qi (fun r σ1 => σ1 = σ ∧ Iv r 0 1) (oPo A L τ cy D) A) := by
  refine oMk (by decide) (Nat.le_of_ble_eq_true rfl) rfl ?_
  intro p e s m args below meth c ls cx rx hA hw hl
  generalize hQ : MQ below _ args s 0 0 A = Q
  have hx := cx.1.1
  have hb := cx.1.2.1
  have hml := cx.1.2.2.1
  have hown := cx.1.2.2.2.1
  have hts := cx.1.2.2.2.2
  have hl : lv_has ls 1 [(0, .int a0)] := hl
  refine lv_iload_n hx hb dX11_isLook_0 rfl (lv_at hl 0 rfl) ?_
  refine lv_iconst (v := 0) hx hb dX11_isLook_1 (by decide) ?_
  refine lv_bipush (v := 100) hx hb dX11_isLook_2 (by decide) ?_
  refine o_ci hw (oRunS cx hA hw q_X11_in k_m_X11_95 (As := [.int a0, .int 0, .int 100]) (c_X11_in a0 0 100) (by decide) rfl hl.1 rfl (Nat.le_of_ble_eq_true rfl) dX11_isLook_4 (by decide)) (fun v2 σ1 H locs hp hw => ?_)
  obtain ⟨p2_0, p2_1, p2_2⟩ := hp
  rw [p2_0] at hw
  rw [← hQ]
  exact o_rz cx rx hw (iv_nz01 (iv_w p2_1 (by decide))) dX11_isLook_7 ⟨rfl, (iv_w p2_1 (by decide))⟩
set_option maxHeartbeats 4000000 in
set_option maxRecDepth 100000 in
theorem c_X11_canHedge (a0 : Nat) (ha0 : oA L τ a0 10) (a1 : Int32) : oMet l A L τ cy D K yX11_canHedge cX11_canHedge 2 (some .boolean) 2 43 [.ref a0, .int a1] σ (va_Qi (fun r σ1 => σ1 = σ ∧ Iv r 0 1 ∧ (¬ r = 0 → Iv a1 0 63)) (oPo A L τ cy D) A) := by
  refine oMk (by decide) (Nat.le_of_ble_eq_true rfl) rfl ?_
  intro p e s m args below meth c ls cx rx hA hw hl
  generalize hQ : MQ below _ args s 0 0 A = Q
  have hx := cx.1.1
  have hb := cx.1.2.1
  have hml := cx.1.2.2.1
  have hown := cx.1.2.2.2.1
  have hts := cx.1.2.2.2.2
  have hl : lv_has ls 2 [(0, .ref a0), (1, .int a1)] := hl
  refine lv_aload_n hx hb dX11_canHedge_0 rfl (lv_at hl 0 rfl) ?_
  refine lv_iload_n hx hb dX11_canHedge_1 rfl (lv_at hl 1 rfl) ?_
  refine o_ci hw (oRunV cx hA hw q_X11_isCell k_m_X11_157 rfl ha0 (by decide) (As := [.int a1]) (c_X11_isCell a0 ha0 a1) (by decide) rfl hl.1 rfl (Nat.le_of_ble_eq_true rfl) dX11_canHedge_2 (by decide)) (fun v2 σ1 H locs hp hw => ?_)
  obtain ⟨p2_0, p2_1, p2_2⟩ := hp
  rw [p2_0] at hw
  refine lv_if_eq (tgt := 21) hx hb dX11_canHedge_5 (by decide) (fun c3 => ?_) (fun c3 => ?_)
  · --
    have i4 : Iv v2 0 0 := iv_eq1 c3 p2_1 (⟨by decide, by decide⟩ : Iv 0 0 0) (by decide)
    refine lv_iconst (v := 0) hx hb dX11_canHedge_21 (by decide) ?_
    rw [← hQ]
    exact o_rz cx rx hw (iv_nz01 (iv_w (⟨by decide, by decide⟩ : Iv 0 0 0) (by decide))) dX11_canHedge_22 ⟨rfl, (iv_w (⟨by decide, by decide⟩ : Iv 0 0 0) (by decide)), (fun h => absurd rfl h)⟩
  · --
    have i5 : Iv v2 1 1 := iv_ne1 c3 p2_1 (⟨by decide, by decide⟩ : Iv 0 0 0) (by decide)
    have i6 : Iv a1 0 63 := p2_2 c3
    refine lv_aload_n hx hb dX11_canHedge_8 rfl (lv_at hl 0 rfl) ?_
    refine g_643 cx hw ha0 k_f_X11_13 dX11_canHedge_9 (fun v7 e7 h7 => ?_)
    refine lv_iload_n hx hb dX11_canHedge_12 rfl (lv_at hl 1 rfl) ?_
    refine o_iald cx hw h7 (by decide) rfl (iv_in i6 (by decide)) dX11_canHedge_13 (fun v8 e8 b8 => ?_)
    refine lv_if_ne (tgt := 21) hx hb dX11_canHedge_14 (by decide) (fun c9 => ?_) (fun c9 => ?_)
    · --
      refine lv_iconst (v := 0) hx hb dX11_canHedge_21 (by decide) ?_
      rw [← hQ]
      exact o_rz cx rx hw (iv_nz01 (iv_w (⟨by decide, by decide⟩ : Iv 0 0 0) (by decide))) dX11_canHedge_22 ⟨rfl, (iv_w (⟨by decide, by decide⟩ : Iv 0 0 0) (by decide)), (fun h => absurd rfl h)⟩
    · --
      have i10 : Iv v8 0 0 := iv_eq1 c9 (iv_top v8) (⟨by decide, by decide⟩ : Iv 0 0 0) (by decide)
      refine lv_iconst (v := 1) hx hb dX11_canHedge_17 (by decide) ?_
      refine lv_goto (tgt := 22) hx hb dX11_canHedge_18 (by decide) ?_
      rw [← hQ]
      exact o_rz cx rx hw (iv_nz01 (iv_w (⟨by decide, by decide⟩ : Iv 1 1 1) (by decide))) dX11_canHedge_22 ⟨rfl, (iv_w (⟨by decide, by decide⟩ : Iv 1 1 1) (by decide)), (fun _ => iv_w i6 (by decide))⟩
set_option maxHeartbeats 4000000 in
set_option maxRecDepth 100000 in
theorem c_X11_sumBeside (a0 : Nat) (ha0 : oA L τ a0 10) (a1 : Nat) (ha1 : oA L τ a1 49) (a2 : Int32) (ia2 : Iv a2 0 63) : oMet l A L τ cy D K yX11_sumBeside cX11_sumBeside 6 (some .int) 2 46 [.ref a0, .ref a1, .int a2] σ (va_Qi (fun r σ1 => σ1 = σ ∧ Iv r (-2147483648) 1000000) (oPo A L τ cy D) A) := by
  refine oMk (by decide) (Nat.le_of_ble_eq_true rfl) rfl ?_
  intro p e s m args below meth c ls cx rx hA hw hl
  generalize hQ : MQ below _ args s 0 0 A = Q
  have hx := cx.1.1
  have hb := cx.1.2.1
  have hml := cx.1.2.2.1
  have hown := cx.1.2.2.2.1
  have hts := cx.1.2.2.2.2
  have hl : lv_has ls 6 [(0, .ref a0), (1, .ref a1), (2, .int a2)] := hl
  refine lv_iconst (v := 0) hx hb dX11_sumBeside_0 (by decide) ?_
  refine lv_istore_n (lv' := [(3, .int 0), (0, .ref a0), (1, .ref a1), (2, .int a2)]) hx hb dX11_sumBeside_1 rfl hl (by decide) rfl (fun ls hl => ?_)
  refine lv_iconst (v := 0) hx hb dX11_sumBeside_2 (by decide) ?_
  refine lv_istore (lv' := [(4, .int 0), (3, .int 0), (0, .ref a0), (1, .ref a1), (2, .int a2)]) hx hb dX11_sumBeside_3 hl (by decide) rfl (fun ls hl => ?_)
  have J_5 : ∀ n : Nat, ∀ (j5_3 : Int32) (j5_4 : Int32) (ij5_4 : Iv j5_4 0 4), (4 - j5_4.toInt).toNat < n → ∀ (H : Heap) (locs : List Loc), oI A L τ cy D s.heap σ H locs → ∀ (ls : Array Slot), lv_has ls 6 [(0, .ref a0), (1, .ref a1), (2, .int a2), (3, .int j5_3), (4, .int j5_4)] → W p l e ({ frames := 2, cells := 0, slots := 0, locals := 46 } : Room) s m args below meth c H locs 0 0 Q (F0 m 5 ls []) := by
    intro n
    induction n with
    | zero => intro j5_3 j5_4 ij5_4 hn_5  H locs hw  ls hl; exact absurd hn_5 (Nat.not_lt_zero _)
    | succ n ih_5 =>
      intro j5_3 j5_4 ij5_4 hn_5  H locs hw  ls hl
      refine lv_iload hx hb dX11_sumBeside_5 (lv_at hl 4 rfl) ?_
      refine lv_iconst (v := 4) hx hb dX11_sumBeside_7 (by decide) ?_
      refine lv_icmp_ge (tgt := 43) hx hb dX11_sumBeside_8 (by decide) (fun c1 => ?_) (fun c1 => ?_)
      · --
        have i2 : Iv j5_4 4 4 := iv_le2 c1 (⟨by decide, by decide⟩ : Iv 4 4 4) ij5_4 (by decide)
        refine lv_ldcw (v := 1000000) hx hb hown (hts _ k_k_X11_359) dX11_sumBeside_43 ?_
        refine lv_iload_n hx hb dX11_sumBeside_46 rfl (lv_at hl 3 rfl) ?_
        refine va_mmin hx hb (hml.trans hl.1.symm) hown (hts _ k_m_X11_243) (hts _ k_s_J9_min_7cf53) (hts _ k_i_J9) (hts _ k_code_J9_min_7cf53) (by decide) (Nat.le_of_ble_eq_true rfl) (by decide) (by decide) dX11_sumBeside_47 ?_
        refine lv_topi (fun v3 e3 => ?_)
        have i3 : Iv v3 (-2147483648) 1000000 := iv_min e3 (⟨by decide, by decide⟩ : Iv 1000000 1000000 1000000) (iv_top j5_3) (by decide)
        rw [← hQ]
        exact o_ri cx rx hw dX11_sumBeside_50 ⟨rfl, (iv_w i3 (by decide))⟩
      · --
        have i4 : Iv j5_4 0 3 := iv_lt1 (iv_nle c1) ij5_4 (⟨by decide, by decide⟩ : Iv 4 4 4) (by decide)
        refine lv_aload_n hx hb dX11_sumBeside_11 rfl (lv_at hl 0 rfl) ?_
        refine lv_iload_n hx hb dX11_sumBeside_12 rfl (lv_at hl 2 rfl) ?_
        refine lv_iload hx hb dX11_sumBeside_13 (lv_at hl 4 rfl) ?_
        refine o_ci hw (oRunV cx hA hw q_X11_beside k_m_X11_223 rfl ha0 (by decide) (As := [.int a2, .int j5_4]) (c_X11_beside a0 ha0 a2 (iv_w ia2 (by decide)) j5_4) (by decide) rfl hl.1 rfl (Nat.le_of_ble_eq_true rfl) dX11_sumBeside_15 (by decide)) (fun v6 σ5 H locs hp hw => ?_)
        obtain ⟨p6_0, p6_1⟩ := hp
        rw [p6_0] at hw
        refine lv_istore (lv' := [(5, .int v6), (0, .ref a0), (1, .ref a1), (2, .int a2), (3, .int j5_3), (4, .int j5_4)]) hx hb dX11_sumBeside_18 hl (by decide) rfl (fun ls hl => ?_)
        refine lv_iload_n hx hb dX11_sumBeside_20 rfl (lv_at hl 4 rfl) ?_
        refine lv_iload hx hb dX11_sumBeside_21 (lv_at hl 0 rfl) ?_
        refine lv_iconst (v := (-1)) hx hb dX11_sumBeside_23 (by decide) ?_
        have J_35 : ∀ (k35_1 : Int32), ∀ (H : Heap) (locs : List Loc), oI A L τ cy D s.heap σ H locs → ∀ (ls : Array Slot), lv_has ls 6 [(0, .ref a0), (1, .ref a1), (2, .int a2), (3, .int j5_3), (4, .int j5_4), (5, .int v6)] → W p l e ({ frames := 2, cells := 0, slots := 0, locals := 46 } : Room) s m args below meth c H locs 0 0 Q (F0 m 35 ls [.int k35_1, .int j5_3]) := by
          intro k35_1   H locs hw  ls hl
          refine lv_iadd hx hb dX11_sumBeside_35 ?_
          refine lv_topi (fun v7 e7 => ?_)
          refine lv_istore_n (lv' := [(3, .int v7), (0, .ref a0), (1, .ref a1), (2, .int a2), (4, .int j5_4), (5, .int v6)]) hx hb dX11_sumBeside_36 rfl hl (by decide) rfl (fun ls hl => ?_)
          obtain ⟨v8, e8⟩ : ∃ y : Int32, y = j5_4 + 1 := ⟨_, rfl⟩
          have i8 : Iv v8 1 4 := iv_add e8 i4 (⟨by decide, by decide⟩ : Iv 1 1 1) (by decide)
          have x8 : v8.toInt = j5_4.toInt + 1 := ex_add e8 i4 (⟨by decide, by decide⟩ : Iv 1 1 1) (by decide)
          refine lv_iinc (v := v8) (lv' := [(4, .int v8), (3, .int v7), (0, .ref a0), (1, .ref a1), (2, .int a2), (5, .int v6)]) hx hb dX11_sumBeside_37 hl (k := 4) rfl (by rw [e8]; rfl) (by decide) rfl (fun ls hl => ?_)
          refine lv_goto (tgt := 5) hx hb dX11_sumBeside_40 (by decide) ?_
          exact ih_5 v7 v8 (iv_w i8 (by decide)) (ms_up x8 (by decide) (iv_w (a' := 0) (b' := 4) i8 (by decide)).2 hn_5) _ _ hw _ (lv_sub hl [2, 3, 4, 1, 0] rfl)
        refine lv_icmp_ne (tgt := 31) hx hb dX11_sumBeside_24 (by decide) (fun c9 => ?_) (fun c9 => ?_)
        · --
          have i10 : Iv v6 0 63 := iv_ne1 c9 p6_1 (⟨by decide, by decide⟩ : Iv (-1) (-1) (-1)) (by decide)
          refine lv_aload_n hx hb dX11_sumBeside_31 rfl (lv_at hl 2 rfl) ?_
          refine lv_iload hx hb dX11_sumBeside_32 (lv_at hl 0 rfl) ?_
          refine o_iald cx hw ha1 (by decide) rfl (iv_in i10 (by decide)) dX11_sumBeside_34 (fun v11 e11 b11 => ?_)
          exact J_35 v11 _ _ hw _ (lv_sub hl [1, 2, 3, 4, 5, 0] rfl)
        · --
          have i12 : Iv v6 (-1) (-1) := iv_eq1 c9 p6_1 (⟨by decide, by decide⟩ : Iv (-1) (-1) (-1)) (by decide)
          refine lv_iconst (v := 0) hx hb dX11_sumBeside_27 (by decide) ?_
          refine lv_goto (tgt := 35) hx hb dX11_sumBeside_28 (by decide) ?_
          exact J_35 0 _ _ hw _ (lv_sub hl [1, 2, 3, 4, 5, 0] rfl)
  exact J_5 _ 0 0 (iv_w (⟨by decide, by decide⟩ : Iv 0 0 0) (by decide)) (Nat.lt_succ_self _) _ _ hw _ (lv_sub hl [2, 3, 4, 1, 0] rfl)
abbrev fs_X11_findWalks : List Nat := []
abbrev ts_X11_findWalks : List Nat := [49]
set_option maxHeartbeats 4000000 in
set_option maxRecDepth 100000 in
theorem c_X11_findWalks (a0 : Nat) (ha0 : oA L τ a0 10) (a1 : Int32) (a2 : Int32) (a3 : Int64) : oMet l A L τ cy D K yX11_findWalks cX11_findWalks 7 none 3 71 [.ref a0, .int a1, .int a2, .long a3] σ (va_Qv (fun σ1 => oFr τ fs_X11_findWalks ts_X11_findWalks σ σ1) (oPo A L τ cy D) A) := by
  refine oMk (by decide) (Nat.le_of_ble_eq_true rfl) rfl ?_
  intro p e s m args below meth c ls cx rx hA hw hl
  generalize hQ : MQ below _ args s 0 0 A = Q
  have hx := cx.1.1
  have hb := cx.1.2.1
  have hml := cx.1.2.2.1
  have hown := cx.1.2.2.2.1
  have hts := cx.1.2.2.2.2
  have hl : lv_has ls 7 [(0, .ref a0), (1, .int a1), (2, .int a2), (3, .long a3)] := hl
  have fr : oFr τ fs_X11_findWalks ts_X11_findWalks σ σ := oFr_rf
  refine lv_iconst (v := 0) hx hb dX11_findWalks_0 (by decide) ?_
  refine lv_istore (lv' := [(5, .int 0), (0, .ref a0), (1, .int a1), (2, .int a2), (3, .long a3)]) hx hb dX11_findWalks_1 hl (by decide) rfl (fun ls hl => ?_)
  have J_3 : ∀ n : Nat, ∀ (j3_5 : Int32) (ij3_5 : Iv j3_5 0 64), (64 - j3_5.toInt).toNat < n → ∀ (σ_3 : oSt) (H : Heap) (locs : List Loc), oI A L τ cy D s.heap σ_3 H locs → oFr τ fs_X11_findWalks ts_X11_findWalks σ σ_3 → ∀ (ls : Array Slot), lv_has ls 7 [(0, .ref a0), (1, .int a1), (2, .int a2), (3, .long a3), (5, .int j3_5)] → W p l e ({ frames := 3, cells := 0, slots := 0, locals := 71 } : Room) s m args below meth c H locs 0 0 Q (F0 m 3 ls []) := by
    intro n
    induction n with
    | zero => intro j3_5 ij3_5 hn_3  σ_3 H locs hw fr   ls hl; exact absurd hn_3 (Nat.not_lt_zero _)
    | succ n ih_3 =>
      intro j3_5 ij3_5 hn_3  σ_3 H locs hw fr   ls hl
      refine lv_iload hx hb dX11_findWalks_3 (lv_at hl 4 rfl) ?_
      refine lv_bipush (v := 64) hx hb dX11_findWalks_5 (by decide) ?_
      refine lv_icmp_ge (tgt := 43) hx hb dX11_findWalks_7 (by decide) (fun c1 => ?_) (fun c1 => ?_)
      · --
        have i2 : Iv j3_5 64 64 := iv_le2 c1 (⟨by decide, by decide⟩ : Iv 64 64 64) ij3_5 (by decide)
        refine lv_iconst (v := 0) hx hb dX11_findWalks_43 (by decide) ?_
        refine lv_istore (lv' := [(5, .int 0), (0, .ref a0), (1, .int a1), (2, .int a2), (3, .long a3)]) hx hb dX11_findWalks_44 hl (by decide) rfl (fun ls hl => ?_)
        have J_46 : ∀ n : Nat, ∀ (j46_5 : Int32) (ij46_5 : Iv j46_5 0 2147483647), (2147483647 - j46_5.toInt).toNat < n → ∀ (σ_46 : oSt) (H : Heap) (locs : List Loc), oI A L τ cy D s.heap σ_46 H locs → oFr τ fs_X11_findWalks ts_X11_findWalks σ σ_46 → ∀ (ls : Array Slot), lv_has ls 7 [(0, .ref a0), (1, .int a1), (2, .int a2), (3, .long a3), (5, .int j46_5)] → W p l e ({ frames := 3, cells := 0, slots := 0, locals := 71 } : Room) s m args below meth c H locs 0 0 Q (F0 m 46 ls []) := by
          intro n
          induction n with
          | zero => intro j46_5 ij46_5 hn_46  σ_46 H locs hw fr   ls hl; exact absurd hn_46 (Nat.not_lt_zero _)
          | succ n ih_46 =>
            intro j46_5 ij46_5 hn_46  σ_46 H locs hw fr   ls hl
            refine lv_iload hx hb dX11_findWalks_46 (lv_at hl 4 rfl) ?_
            refine lv_iload_n hx hb dX11_findWalks_48 rfl (lv_at hl 2 rfl) ?_
            refine lv_icmp_ge (tgt := 134) hx hb dX11_findWalks_49 (by decide) (fun c3 => ?_) (fun c3 => ?_)
            · --
              rw [← hQ]
              exact o_rv cx rx hw dX11_findWalks_134 fr
            · --
              have i4 : Iv j46_5 0 2147483646 := iv_lt1 (iv_nle c3) ij46_5 (iv_top a2) (by decide)
              have i5 : Iv a2 1 2147483647 := iv_lt2 (iv_nle c3) ij46_5 (iv_top a2) (by decide)
              refine lv_iconst (v := 0) hx hb dX11_findWalks_52 (by decide) ?_
              refine lv_istore (lv' := [(6, .int 0), (0, .ref a0), (1, .int a1), (2, .int a2), (3, .long a3), (5, .int j46_5)]) hx hb dX11_findWalks_53 hl (by decide) rfl (fun ls hl => ?_)
              have J_55 : ∀ n : Nat, ∀ (j55_6 : Int32) (ij55_6 : Iv j55_6 0 64), (64 - j55_6.toInt).toNat < n → ∀ (σ_55 : oSt) (H : Heap) (locs : List Loc), oI A L τ cy D s.heap σ_55 H locs → oFr τ fs_X11_findWalks ts_X11_findWalks σ σ_55 → ∀ (ls : Array Slot), lv_has ls 7 [(0, .ref a0), (1, .int a1), (2, .int a2), (3, .long a3), (5, .int j46_5), (6, .int j55_6)] → W p l e ({ frames := 3, cells := 0, slots := 0, locals := 71 } : Room) s m args below meth c H locs 0 0 Q (F0 m 55 ls []) := by
                intro n
                induction n with
                | zero => intro j55_6 ij55_6 hn_55  σ_55 H locs hw fr   ls hl; exact absurd hn_55 (Nat.not_lt_zero _)
                | succ n ih_55 =>
                  intro j55_6 ij55_6 hn_55  σ_55 H locs hw fr   ls hl
                  refine lv_iload hx hb dX11_findWalks_55 (lv_at hl 5 rfl) ?_
                  refine lv_bipush (v := 64) hx hb dX11_findWalks_57 (by decide) ?_
                  refine lv_icmp_ge (tgt := 98) hx hb dX11_findWalks_59 (by decide) (fun c6 => ?_) (fun c6 => ?_)
                  · --
                    have i7 : Iv j55_6 64 64 := iv_le2 c6 (⟨by decide, by decide⟩ : Iv 64 64 64) ij55_6 (by decide)
                    refine lv_iconst (v := 0) hx hb dX11_findWalks_98 (by decide) ?_
                    refine lv_istore (lv' := [(6, .int 0), (0, .ref a0), (1, .int a1), (2, .int a2), (3, .long a3), (5, .int j46_5)]) hx hb dX11_findWalks_99 hl (by decide) rfl (fun ls hl => ?_)
                    have J_101 : ∀ n : Nat, ∀ (j101_6 : Int32) (ij101_6 : Iv j101_6 0 64), (64 - j101_6.toInt).toNat < n → ∀ (σ_101 : oSt) (H : Heap) (locs : List Loc), oI A L τ cy D s.heap σ_101 H locs → oFr τ fs_X11_findWalks ts_X11_findWalks σ σ_101 → ∀ (ls : Array Slot), lv_has ls 7 [(0, .ref a0), (1, .int a1), (2, .int a2), (3, .long a3), (5, .int j46_5), (6, .int j101_6)] → W p l e ({ frames := 3, cells := 0, slots := 0, locals := 71 } : Room) s m args below meth c H locs 0 0 Q (F0 m 101 ls []) := by
                      intro n
                      induction n with
                      | zero => intro j101_6 ij101_6 hn_101  σ_101 H locs hw fr   ls hl; exact absurd hn_101 (Nat.not_lt_zero _)
                      | succ n ih_101 =>
                        intro j101_6 ij101_6 hn_101  σ_101 H locs hw fr   ls hl
                        refine lv_iload hx hb dX11_findWalks_101 (lv_at hl 5 rfl) ?_
                        refine lv_bipush (v := 64) hx hb dX11_findWalks_103 (by decide) ?_
                        refine lv_icmp_ge (tgt := 128) hx hb dX11_findWalks_105 (by decide) (fun c8 => ?_) (fun c8 => ?_)
                        · --
                          have i9 : Iv j101_6 64 64 := iv_le2 c8 (⟨by decide, by decide⟩ : Iv 64 64 64) ij101_6 (by decide)
                          obtain ⟨v10, e10⟩ : ∃ y : Int32, y = j46_5 + 1 := ⟨_, rfl⟩
                          have i10 : Iv v10 1 2147483647 := iv_add e10 i4 (⟨by decide, by decide⟩ : Iv 1 1 1) (by decide)
                          have x10 : v10.toInt = j46_5.toInt + 1 := ex_add e10 i4 (⟨by decide, by decide⟩ : Iv 1 1 1) (by decide)
                          refine lv_iinc (v := v10) (lv' := [(5, .int v10), (0, .ref a0), (1, .int a1), (2, .int a2), (3, .long a3), (6, .int j101_6)]) hx hb dX11_findWalks_128 hl (k := 4) rfl (by rw [e10]; rfl) (by decide) rfl (fun ls hl => ?_)
                          refine lv_goto (tgt := 46) hx hb dX11_findWalks_131 (by decide) ?_
                          exact ih_46 v10 (iv_w i10 (by decide)) (ms_up x10 (by decide) (iv_w (a' := 0) (b' := 2147483647) i10 (by decide)).2 hn_46) σ_101 _ _ hw fr _ (lv_sub hl [1, 2, 3, 4, 0] rfl)
                        · --
                          have i11 : Iv j101_6 0 63 := iv_lt1 (iv_nle c8) ij101_6 (⟨by decide, by decide⟩ : Iv 64 64 64) (by decide)
                          refine lv_aload_n hx hb dX11_findWalks_108 rfl (lv_at hl 0 rfl) ?_
                          refine g_678 cx hw ha0 k_f_X11_70 dX11_findWalks_109 (fun v12 e12 h12 => ?_)
                          refine lv_iload hx hb dX11_findWalks_112 (lv_at hl 5 rfl) ?_
                          refine lv_aload_n hx hb dX11_findWalks_114 rfl (lv_at hl 0 rfl) ?_
                          refine g_679 cx hw ha0 k_f_X11_73 dX11_findWalks_115 (fun v13 e13 h13 => ?_)
                          refine lv_iload hx hb dX11_findWalks_118 (lv_at hl 5 rfl) ?_
                          refine o_iald cx hw h13 (by decide) rfl (iv_in i11 (by decide)) dX11_findWalks_120 (fun v14 e14 b14 => ?_)
                          refine o_iast cx hw h12 (by decide) rfl (iv_in i11 (by decide)) trivial dX11_findWalks_121 (fun σ15 H locs eσ15 hw => ?_)
                          have fr := oFr_p fr eσ15 h12 (by decide)
                          obtain ⟨v16, e16⟩ : ∃ y : Int32, y = j101_6 + 1 := ⟨_, rfl⟩
                          have i16 : Iv v16 1 64 := iv_add e16 i11 (⟨by decide, by decide⟩ : Iv 1 1 1) (by decide)
                          have x16 : v16.toInt = j101_6.toInt + 1 := ex_add e16 i11 (⟨by decide, by decide⟩ : Iv 1 1 1) (by decide)
                          refine lv_iinc (v := v16) (lv' := [(6, .int v16), (0, .ref a0), (1, .int a1), (2, .int a2), (3, .long a3), (5, .int j46_5)]) hx hb dX11_findWalks_122 hl (k := 5) rfl (by rw [e16]; rfl) (by decide) rfl (fun ls hl => ?_)
                          refine lv_goto (tgt := 101) hx hb dX11_findWalks_125 (by decide) ?_
                          exact ih_101 v16 (iv_w i16 (by decide)) (ms_up x16 (by decide) (iv_w (a' := 0) (b' := 64) i16 (by decide)).2 hn_101) σ15 _ _ hw fr _ (lv_sub hl [1, 2, 3, 4, 5, 0] rfl)
                    exact J_101 _ 0 (iv_w (⟨by decide, by decide⟩ : Iv 0 0 0) (by decide)) (Nat.lt_succ_self _) σ_55 _ _ hw fr _ (lv_sub hl [1, 2, 3, 4, 5, 0] rfl)
                  · --
                    have i17 : Iv j55_6 0 63 := iv_lt1 (iv_nle c6) ij55_6 (⟨by decide, by decide⟩ : Iv 64 64 64) (by decide)
                    refine lv_aload_n hx hb dX11_findWalks_62 rfl (lv_at hl 0 rfl) ?_
                    refine g_679 cx hw ha0 k_f_X11_73 dX11_findWalks_63 (fun v18 e18 h18 => ?_)
                    refine lv_iload hx hb dX11_findWalks_66 (lv_at hl 5 rfl) ?_
                    refine lv_lload_n hx hb dX11_findWalks_68 rfl (lv_at hl 3 rfl) ?_
                    refine lv_iload hx hb dX11_findWalks_69 (lv_at hl 5 rfl) ?_
                    refine o_ci hw (oRunS cx hA hw q_X11_has k_m_X11_215 (As := [.long a3, .int j55_6]) (c_X11_has a3 j55_6) (by decide) rfl hl.1 rfl (Nat.le_of_ble_eq_true rfl) dX11_findWalks_71 (by decide)) (fun v20 σ19 H locs hp hw => ?_)
                    obtain ⟨p20_0, p20_1⟩ := hp
                    rw [p20_0] at hw
                    have J_91 : ∀ (k91_2 : Int32) (ik91_2 : Iv k91_2 (-2147483648) 1000000), ∀ (σ_91 : oSt) (H : Heap) (locs : List Loc), oI A L τ cy D s.heap σ_91 H locs → oFr τ fs_X11_findWalks ts_X11_findWalks σ σ_91 → ∀ (ls : Array Slot), lv_has ls 7 [(0, .ref a0), (1, .int a1), (2, .int a2), (3, .long a3), (5, .int j46_5), (6, .int j55_6)] → W p l e ({ frames := 3, cells := 0, slots := 0, locals := 71 } : Room) s m args below meth c H locs 0 0 Q (F0 m 91 ls [.int k91_2, .int j55_6, .ref v18]) := by
                      intro k91_2 ik91_2   σ_91 H locs hw fr   ls hl
                      refine o_iast cx hw h18 (by decide) rfl (iv_in i17 (by decide)) trivial dX11_findWalks_91 (fun σ21 H locs eσ21 hw => ?_)
                      have fr := oFr_p fr eσ21 h18 (by decide)
                      obtain ⟨v22, e22⟩ : ∃ y : Int32, y = j55_6 + 1 := ⟨_, rfl⟩
                      have i22 : Iv v22 1 64 := iv_add e22 i17 (⟨by decide, by decide⟩ : Iv 1 1 1) (by decide)
                      have x22 : v22.toInt = j55_6.toInt + 1 := ex_add e22 i17 (⟨by decide, by decide⟩ : Iv 1 1 1) (by decide)
                      refine lv_iinc (v := v22) (lv' := [(6, .int v22), (0, .ref a0), (1, .int a1), (2, .int a2), (3, .long a3), (5, .int j46_5)]) hx hb dX11_findWalks_92 hl (k := 5) rfl (by rw [e22]; rfl) (by decide) rfl (fun ls hl => ?_)
                      refine lv_goto (tgt := 55) hx hb dX11_findWalks_95 (by decide) ?_
                      exact ih_55 v22 (iv_w i22 (by decide)) (ms_up x22 (by decide) (iv_w (a' := 0) (b' := 64) i22 (by decide)).2 hn_55) σ21 _ _ hw fr _ (lv_sub hl [1, 2, 3, 4, 5, 0] rfl)
                    refine lv_if_eq (tgt := 90) hx hb dX11_findWalks_74 (by decide) (fun c23 => ?_) (fun c23 => ?_)
                    · --
                      have i24 : Iv v20 0 0 := iv_eq1 c23 p20_1 (⟨by decide, by decide⟩ : Iv 0 0 0) (by decide)
                      refine lv_iconst (v := 0) hx hb dX11_findWalks_90 (by decide) ?_
                      exact J_91 0 (iv_w (⟨by decide, by decide⟩ : Iv 0 0 0) (by decide)) σ_55 _ _ hw fr _ (lv_sub hl [0, 1, 2, 3, 4, 5] rfl)
                    · --
                      have i25 : Iv v20 1 1 := iv_ne1 c23 p20_1 (⟨by decide, by decide⟩ : Iv 0 0 0) (by decide)
                      refine lv_aload_n hx hb dX11_findWalks_77 rfl (lv_at hl 0 rfl) ?_
                      refine lv_aload_n hx hb dX11_findWalks_78 rfl (lv_at hl 0 rfl) ?_
                      refine g_678 cx hw ha0 k_f_X11_70 dX11_findWalks_79 (fun v26 e26 h26 => ?_)
                      refine lv_iload hx hb dX11_findWalks_82 (lv_at hl 5 rfl) ?_
                      refine o_ci hw (oRunV cx hA hw q_X11_sumBeside k_m_X11_360 rfl ha0 (by decide) (As := [.ref v26, .int j55_6]) (c_X11_sumBeside a0 ha0 v26 h26 j55_6 (iv_w i17 (by decide))) (by decide) rfl hl.1 rfl (Nat.le_of_ble_eq_true rfl) dX11_findWalks_84 (by decide)) (fun v28 σ27 H locs hp hw => ?_)
                      obtain ⟨p28_0, p28_1⟩ := hp
                      rw [p28_0] at hw
                      refine lv_goto (tgt := 91) hx hb dX11_findWalks_87 (by decide) ?_
                      exact J_91 v28 p28_1 σ_55 _ _ hw fr _ (lv_sub hl [0, 1, 2, 3, 4, 5] rfl)
              exact J_55 _ 0 (iv_w (⟨by decide, by decide⟩ : Iv 0 0 0) (by decide)) (Nat.lt_succ_self _) σ_46 _ _ hw fr _ (lv_sub hl [1, 2, 3, 4, 5, 0] rfl)
        exact J_46 _ 0 (iv_w (⟨by decide, by decide⟩ : Iv 0 0 0) (by decide)) (Nat.lt_succ_self _) σ_3 _ _ hw fr _ (lv_sub hl [1, 2, 3, 4, 0] rfl)
      · --
        have i29 : Iv j3_5 0 63 := iv_lt1 (iv_nle c1) ij3_5 (⟨by decide, by decide⟩ : Iv 64 64 64) (by decide)
        refine lv_aload_n hx hb dX11_findWalks_10 rfl (lv_at hl 0 rfl) ?_
        refine g_678 cx hw ha0 k_f_X11_70 dX11_findWalks_11 (fun v30 e30 h30 => ?_)
        refine lv_iload hx hb dX11_findWalks_14 (lv_at hl 4 rfl) ?_
        refine lv_iload hx hb dX11_findWalks_16 (lv_at hl 4 rfl) ?_
        refine lv_iload_n hx hb dX11_findWalks_18 rfl (lv_at hl 1 rfl) ?_
        have J_36 : ∀ (k36_2 : Int32) (ik36_2 : Iv k36_2 0 1), ∀ (σ_36 : oSt) (H : Heap) (locs : List Loc), oI A L τ cy D s.heap σ_36 H locs → oFr τ fs_X11_findWalks ts_X11_findWalks σ σ_36 → ∀ (ls : Array Slot), lv_has ls 7 [(0, .ref a0), (1, .int a1), (2, .int a2), (3, .long a3), (5, .int j3_5)] → W p l e ({ frames := 3, cells := 0, slots := 0, locals := 71 } : Room) s m args below meth c H locs 0 0 Q (F0 m 36 ls [.int k36_2, .int j3_5, .ref v30]) := by
          intro k36_2 ik36_2   σ_36 H locs hw fr   ls hl
          refine o_iast cx hw h30 (by decide) rfl (iv_in i29 (by decide)) trivial dX11_findWalks_36 (fun σ31 H locs eσ31 hw => ?_)
          have fr := oFr_p fr eσ31 h30 (by decide)
          obtain ⟨v32, e32⟩ : ∃ y : Int32, y = j3_5 + 1 := ⟨_, rfl⟩
          have i32 : Iv v32 1 64 := iv_add e32 i29 (⟨by decide, by decide⟩ : Iv 1 1 1) (by decide)
          have x32 : v32.toInt = j3_5.toInt + 1 := ex_add e32 i29 (⟨by decide, by decide⟩ : Iv 1 1 1) (by decide)
          refine lv_iinc (v := v32) (lv' := [(5, .int v32), (0, .ref a0), (1, .int a1), (2, .int a2), (3, .long a3)]) hx hb dX11_findWalks_37 hl (k := 4) rfl (by rw [e32]; rfl) (by decide) rfl (fun ls hl => ?_)
          refine lv_goto (tgt := 3) hx hb dX11_findWalks_40 (by decide) ?_
          exact ih_3 v32 (iv_w i32 (by decide)) (ms_up x32 (by decide) (iv_w (a' := 0) (b' := 64) i32 (by decide)).2 hn_3) σ31 _ _ hw fr _ (lv_sub hl [1, 2, 3, 4, 0] rfl)
        have J_35 : ∀ (σ_35 : oSt) (H : Heap) (locs : List Loc), oI A L τ cy D s.heap σ_35 H locs → oFr τ fs_X11_findWalks ts_X11_findWalks σ σ_35 → ∀ (ls : Array Slot), lv_has ls 7 [(0, .ref a0), (1, .int a1), (2, .int a2), (3, .long a3), (5, .int j3_5)] → W p l e ({ frames := 3, cells := 0, slots := 0, locals := 71 } : Room) s m args below meth c H locs 0 0 Q (F0 m 35 ls [.int j3_5, .ref v30]) := by
          intro    σ_35 H locs hw fr   ls hl
          refine lv_iconst (v := 0) hx hb dX11_findWalks_35 (by decide) ?_
          exact J_36 0 (iv_w (⟨by decide, by decide⟩ : Iv 0 0 0) (by decide)) σ_35 _ _ hw fr _ (lv_sub hl [0, 1, 2, 3, 4] rfl)
        refine lv_icmp_ne (tgt := 35) hx hb dX11_findWalks_19 (by decide) (fun c33 => ?_) (fun c33 => ?_)
        · --
          exact J_35 σ_3 _ _ hw fr _ (lv_sub hl [0, 1, 2, 3, 4] rfl)
        · --
          have i34 : Iv a1 0 63 := iv_eq1 (Eq.symm c33) (iv_top a1) i29 (by decide)
          refine lv_lload_n hx hb dX11_findWalks_22 rfl (lv_at hl 3 rfl) ?_
          refine lv_iload hx hb dX11_findWalks_23 (lv_at hl 4 rfl) ?_
          refine o_ci hw (oRunS cx hA hw q_X11_has k_m_X11_215 (As := [.long a3, .int j3_5]) (c_X11_has a3 j3_5) (by decide) rfl hl.1 rfl (Nat.le_of_ble_eq_true rfl) dX11_findWalks_25 (by decide)) (fun v36 σ35 H locs hp hw => ?_)
          obtain ⟨p36_0, p36_1⟩ := hp
          rw [p36_0] at hw
          refine lv_if_eq (tgt := 35) hx hb dX11_findWalks_28 (by decide) (fun c37 => ?_) (fun c37 => ?_)
          · --
            have i38 : Iv v36 0 0 := iv_eq1 c37 p36_1 (⟨by decide, by decide⟩ : Iv 0 0 0) (by decide)
            exact J_35 σ_3 _ _ hw fr _ (lv_sub hl [0, 1, 2, 3, 4] rfl)
          · --
            have i39 : Iv v36 1 1 := iv_ne1 c37 p36_1 (⟨by decide, by decide⟩ : Iv 0 0 0) (by decide)
            refine lv_iconst (v := 1) hx hb dX11_findWalks_31 (by decide) ?_
            refine lv_goto (tgt := 36) hx hb dX11_findWalks_32 (by decide) ?_
            exact J_36 1 (iv_w (⟨by decide, by decide⟩ : Iv 1 1 1) (by decide)) σ_3 _ _ hw fr _ (lv_sub hl [0, 1, 2, 3, 4] rfl)
  exact J_3 _ 0 (iv_w (⟨by decide, by decide⟩ : Iv 0 0 0) (by decide)) (Nat.lt_succ_self _) σ _ _ hw fr _ (lv_sub hl [1, 2, 3, 4, 0] rfl)
abbrev fs_X11_ways : List Nat := [657, 658]
abbrev ts_X11_ways : List Nat := [49, 52]
set_option maxHeartbeats 4000000 in
set_option maxRecDepth 100000 in
theorem c_X11_ways (a0 : Nat) (ha0 : oA L τ a0 10) (a1 : Int32) (a2 : Int32) (a3 : Int32) : oMet l A L τ cy D K yX11_ways cX11_ways 9 (some .int) 4 97 [.ref a0, .int a1, .int a2, .int a3] σ (va_Qi (fun r σ1 => oFr τ fs_X11_ways ts_X11_ways σ σ1) (oPo A L τ cy D) A) := by
  refine oMk (by decide) (Nat.le_of_ble_eq_true rfl) rfl ?_
  intro p e s m args below meth c ls cx rx hA hw hl
  generalize hQ : MQ below _ args s 0 0 A = Q
  have hx := cx.1.1
  have hb := cx.1.2.1
  have hml := cx.1.2.2.1
  have hown := cx.1.2.2.2.1
  have hts := cx.1.2.2.2.2
  have hl : lv_has ls 9 [(0, .ref a0), (1, .int a1), (2, .int a2), (3, .int a3)] := hl
  have fr : oFr τ fs_X11_ways ts_X11_ways σ σ := oFr_rf
  refine lv_aload_n hx hb dX11_ways_0 rfl (lv_at hl 0 rfl) ?_
  refine lv_iconst (v := 0) hx hb dX11_ways_1 (by decide) ?_
  refine p_658 cx hw ha0 k_f_X11_89 dX11_ways_2 (fun σ1 H locs eσ1 hw => ?_)
  have fr := oFr_i fr eσ1 (by decide)
  refine lv_aload_n hx hb dX11_ways_5 rfl (lv_at hl 0 rfl) ?_
  refine lv_iload_n hx hb dX11_ways_6 rfl (lv_at hl 1 rfl) ?_
  refine o_ci hw (oRunV cx hA hw q_X11_isCell k_m_X11_157 rfl ha0 (by decide) (As := [.int a1]) (c_X11_isCell a0 ha0 a1) (by decide) rfl hl.1 rfl (Nat.le_of_ble_eq_true rfl) dX11_ways_7 (by decide)) (fun v3 σ2 H locs hp hw => ?_)
  obtain ⟨p3_0, p3_1, p3_2⟩ := hp
  rw [p3_0] at hw
  refine lv_if_eq (tgt := 31) hx hb dX11_ways_10 (by decide) (fun c4 => ?_) (fun c4 => ?_)
  · --
    have i5 : Iv v3 0 0 := iv_eq1 c4 p3_1 (⟨by decide, by decide⟩ : Iv 0 0 0) (by decide)
    refine lv_iconst (v := (-1)) hx hb dX11_ways_31 (by decide) ?_
    rw [← hQ]
    exact o_ri cx rx hw dX11_ways_32 fr
  · --
    have i6 : Iv v3 1 1 := iv_ne1 c4 p3_1 (⟨by decide, by decide⟩ : Iv 0 0 0) (by decide)
    have i7 : Iv a1 0 63 := p3_2 c4
    refine lv_aload_n hx hb dX11_ways_13 rfl (lv_at hl 0 rfl) ?_
    refine lv_iload_n hx hb dX11_ways_14 rfl (lv_at hl 2 rfl) ?_
    refine o_ci hw (oRunV cx hA hw q_X11_isCell k_m_X11_157 rfl ha0 (by decide) (As := [.int a2]) (c_X11_isCell a0 ha0 a2) (by decide) rfl hl.1 rfl (Nat.le_of_ble_eq_true rfl) dX11_ways_15 (by decide)) (fun v9 σ8 H locs hp hw => ?_)
    obtain ⟨p9_0, p9_1, p9_2⟩ := hp
    rw [p9_0] at hw
    refine lv_if_eq (tgt := 31) hx hb dX11_ways_18 (by decide) (fun c10 => ?_) (fun c10 => ?_)
    · --
      have i11 : Iv v9 0 0 := iv_eq1 c10 p9_1 (⟨by decide, by decide⟩ : Iv 0 0 0) (by decide)
      refine lv_iconst (v := (-1)) hx hb dX11_ways_31 (by decide) ?_
      rw [← hQ]
      exact o_ri cx rx hw dX11_ways_32 fr
    · --
      have i12 : Iv v9 1 1 := iv_ne1 c10 p9_1 (⟨by decide, by decide⟩ : Iv 0 0 0) (by decide)
      have i13 : Iv a2 0 63 := p9_2 c10
      refine lv_iload_n hx hb dX11_ways_21 rfl (lv_at hl 3 rfl) ?_
      refine lv_iconst (v := 0) hx hb dX11_ways_22 (by decide) ?_
      refine lv_bipush (v := 20) hx hb dX11_ways_23 (by decide) ?_
      refine o_ci hw (oRunS cx hA hw q_X11_in k_m_X11_95 (As := [.int a3, .int 0, .int 20]) (c_X11_in a3 0 20) (by decide) rfl hl.1 rfl (Nat.le_of_ble_eq_true rfl) dX11_ways_25 (by decide)) (fun v15 σ14 H locs hp hw => ?_)
      obtain ⟨p15_0, p15_1, p15_2⟩ := hp
      rw [p15_0] at hw
      refine lv_if_ne (tgt := 33) hx hb dX11_ways_28 (by decide) (fun c16 => ?_) (fun c16 => ?_)
      · --
        have i17 : Iv v15 1 1 := iv_ne1 c16 p15_1 (⟨by decide, by decide⟩ : Iv 0 0 0) (by decide)
        have i18 : Iv a3 0 20 := (fun h => iv_rel (p15_2 h) (⟨by decide, by decide⟩ : Iv 0 0 0) (⟨by decide, by decide⟩ : Iv 20 20 20)) c16
        refine lv_aload_n hx hb dX11_ways_33 rfl (lv_at hl 0 rfl) ?_
        refine lv_aload_n hx hb dX11_ways_34 rfl (lv_at hl 0 rfl) ?_
        refine g_640 cx hw ha0 k_f_X11_9 dX11_ways_35 (fun v19 e19 h19 => ?_)
        refine o_cl hw (oRunV cx hA hw q_X11_roadOf k_m_X11_313 rfl ha0 (by decide) (As := [.ref v19]) (c_X11_roadOf a0 ha0 v19 h19) (by decide) rfl hl.1 rfl (Nat.le_of_ble_eq_true rfl) dX11_ways_38 (by decide)) (fun v21 σ20 H locs hp hw => ?_)
        have p21_0 := hp
        rw [p21_0] at hw
        refine lv_lstore (lv' := [(4, .long v21), (0, .ref a0), (1, .int a1), (2, .int a2), (3, .int a3)]) hx hb dX11_ways_41 hl (by decide) rfl (fun ls hl => ?_)
        refine lv_aload_n hx hb dX11_ways_43 rfl (lv_at hl 1 rfl) ?_
        refine lv_iload_n hx hb dX11_ways_44 rfl (lv_at hl 3 rfl) ?_
        refine lv_iload_n hx hb dX11_ways_45 rfl (lv_at hl 4 rfl) ?_
        refine lv_lload hx hb dX11_ways_46 (lv_at hl 0 rfl) ?_
        refine o_cv hw (oRunV cx hA hw q_X11_findWalks k_m_X11_363 rfl ha0 (by decide) (As := [.int a2, .int a3, .long v21]) (c_X11_findWalks a0 ha0 a2 a3 v21) (by decide) rfl hl.1 rfl (Nat.le_of_ble_eq_true rfl) dX11_ways_48 (by decide)) (fun σ22 H locs hp hw => ?_)
        have p23_0 := hp
        have fr := oFr_tr fr p23_0 (by decide)
        refine lv_aload_n hx hb dX11_ways_51 rfl (lv_at hl 1 rfl) ?_
        refine g_678 cx hw ha0 k_f_X11_70 dX11_ways_52 (fun v24 e24 h24 => ?_)
        refine lv_iload_n hx hb dX11_ways_55 rfl (lv_at hl 2 rfl) ?_
        refine o_iald cx hw h24 (by decide) rfl (iv_in i7 (by decide)) dX11_ways_56 (fun v25 e25 b25 => ?_)
        refine lv_istore (lv' := [(6, .int v25), (4, .long v21), (0, .ref a0), (1, .int a1), (2, .int a2), (3, .int a3)]) hx hb dX11_ways_57 hl (by decide) rfl (fun ls hl => ?_)
        refine lv_iconst (v := (-1)) hx hb dX11_ways_59 (by decide) ?_
        refine lv_istore (lv' := [(7, .int (-1)), (6, .int v25), (4, .long v21), (0, .ref a0), (1, .int a1), (2, .int a2), (3, .int a3)]) hx hb dX11_ways_60 hl (by decide) rfl (fun ls hl => ?_)
        refine lv_iload_n hx hb dX11_ways_62 rfl (lv_at hl 6 rfl) ?_
        have J_124 : ∀ (j124_7 : Int32) (ij124_7 : Iv j124_7 (-1) 63), ∀ (σ_124 : oSt) (H : Heap) (locs : List Loc), oI A L τ cy D s.heap σ_124 H locs → oFr τ fs_X11_ways ts_X11_ways σ σ_124 → ∀ (ls : Array Slot), lv_has ls 9 [(0, .ref a0), (1, .int a1), (2, .int a2), (3, .int a3), (4, .long v21), (6, .int v25), (7, .int j124_7)] → W p l e ({ frames := 4, cells := 0, slots := 0, locals := 97 } : Room) s m args below meth c H locs 0 0 Q (F0 m 124 ls []) := by
          intro j124_7 ij124_7   σ_124 H locs hw fr   ls hl
          refine lv_aload_n hx hb dX11_ways_124 rfl (lv_at hl 0 rfl) ?_
          refine lv_iconst (v := 0) hx hb dX11_ways_125 (by decide) ?_
          refine p_657 cx hw ha0 (iv_w (⟨by decide, by decide⟩ : Iv 0 0 0) (by decide)) k_f_X11_92 dX11_ways_126 (fun σ26 H locs eσ26 hw => ?_)
          have fr := oFr_i fr eσ26 (by decide)
          refine lv_aload_n hx hb dX11_ways_129 rfl (lv_at hl 0 rfl) ?_
          refine lv_iload hx hb dX11_ways_130 (lv_at hl 6 rfl) ?_
          refine lv_i2l hx hb dX11_ways_132 rfl ?_
          refine lv_topl (fun v27 e27 => ?_)
          refine o_cv hw (oRunV cx hA hw q_X11_tell k_m_X11_278 rfl ha0 (by decide) (As := [.long v27]) (c_X11_tell a0 ha0 v27 (kn_iv ((kp_s eσ26)) (iv_w (⟨by decide, by decide⟩ : Iv 0 0 0) (by decide)))) (by decide) rfl hl.1 rfl (Nat.le_of_ble_eq_true rfl) dX11_ways_133 (by decide)) (fun σ28 H locs hp hw => ?_)
          obtain ⟨p29_0, p29_1⟩ := hp
          have fr := oFr_tr fr p29_0 (by decide)
          have x31 : (σ28.1 657 a0).toInt = (0 : Int32).toInt + 1 := fin_tr p29_1 ((kp_s eσ26))
          have i30 : Iv (σ28.1 657 a0) 1 1 := iv_fin x31 (⟨by decide, by decide⟩ : Iv 0 0 0) (by decide)
          refine lv_iload hx hb dX11_ways_136 (lv_at hl 5 rfl) ?_
          rw [← hQ]
          exact o_ri cx rx hw dX11_ways_138 fr
        refine lv_if_le (tgt := 124) hx hb dX11_ways_63 (by decide) (fun c32 => ?_) (fun c32 => ?_)
        · --
          have i33 : Iv a3 0 0 := iv_le1 c32 i18 (⟨by decide, by decide⟩ : Iv 0 0 0) (by decide)
          exact J_124 (-1) (iv_w (⟨by decide, by decide⟩ : Iv (-1) (-1) (-1)) (by decide)) σ22 _ _ hw fr _ (lv_sub hl [3, 4, 5, 6, 2, 1, 0] rfl)
        · --
          have i34 : Iv a3 1 20 := iv_lt2 (iv_nle c32) (⟨by decide, by decide⟩ : Iv 0 0 0) i18 (by decide)
          refine lv_iload hx hb dX11_ways_66 (lv_at hl 1 rfl) ?_
          refine lv_if_le (tgt := 124) hx hb dX11_ways_68 (by decide) (fun c35 => ?_) (fun c35 => ?_)
          · --
            have i36 : Iv v25 (-2147483648) 0 := iv_le1 c35 (iv_top v25) (⟨by decide, by decide⟩ : Iv 0 0 0) (by decide)
            exact J_124 (-1) (iv_w (⟨by decide, by decide⟩ : Iv (-1) (-1) (-1)) (by decide)) σ22 _ _ hw fr _ (lv_sub hl [3, 4, 5, 6, 2, 1, 0] rfl)
          · --
            have i37 : Iv v25 1 2147483647 := iv_lt2 (iv_nle c35) (⟨by decide, by decide⟩ : Iv 0 0 0) (iv_top v25) (by decide)
            refine lv_aload_n hx hb dX11_ways_71 rfl (lv_at hl 3 rfl) ?_
            refine lv_iload_n hx hb dX11_ways_72 rfl (lv_at hl 5 rfl) ?_
            refine lv_iload_n hx hb dX11_ways_73 rfl (lv_at hl 6 rfl) ?_
            refine lv_iconst (v := 1) hx hb dX11_ways_74 (by decide) ?_
            refine lv_isub hx hb dX11_ways_75 ?_
            refine lv_topi (fun v38 e38 => ?_)
            have i38 : Iv v38 0 19 := iv_sub e38 i34 (⟨by decide, by decide⟩ : Iv 1 1 1) (by decide)
            have x38 : v38.toInt = a3.toInt + (-1) := ex_sub e38 i34 (⟨by decide, by decide⟩ : Iv 1 1 1) (by decide)
            refine lv_lload hx hb dX11_ways_76 (lv_at hl 2 rfl) ?_
            refine o_cv hw (oRunV cx hA hw q_X11_findWalks k_m_X11_363 rfl ha0 (by decide) (As := [.int a2, .int v38, .long v21]) (c_X11_findWalks a0 ha0 a2 v38 v21) (by decide) rfl hl.1 rfl (Nat.le_of_ble_eq_true rfl) dX11_ways_78 (by decide)) (fun σ39 H locs hp hw => ?_)
            have p40_0 := hp
            have fr := oFr_tr fr p40_0 (by decide)
            refine lv_bipush (v := 63) hx hb dX11_ways_81 (by decide) ?_
            refine lv_istore (lv' := [(8, .int 63), (7, .int (-1)), (6, .int v25), (4, .long v21), (0, .ref a0), (1, .int a1), (2, .int a2), (3, .int a3)]) hx hb dX11_ways_83 hl (by decide) rfl (fun ls hl => ?_)
            have J_85 : ∀ n : Nat, ∀ (j85_7 : Int32) (ij85_7 : Iv j85_7 (-1) 63) (j85_8 : Int32) (ij85_8 : Iv j85_8 (-1) 63), (j85_8.toInt - (-1)).toNat < n → ∀ (σ_85 : oSt) (H : Heap) (locs : List Loc), oI A L τ cy D s.heap σ_85 H locs → oFr τ fs_X11_ways ts_X11_ways σ σ_85 → ∀ (ls : Array Slot), lv_has ls 9 [(0, .ref a0), (1, .int a1), (2, .int a2), (3, .int a3), (4, .long v21), (6, .int v25), (7, .int j85_7), (8, .int j85_8)] → W p l e ({ frames := 4, cells := 0, slots := 0, locals := 97 } : Room) s m args below meth c H locs 0 0 Q (F0 m 85 ls []) := by
              intro n
              induction n with
              | zero => intro j85_7 ij85_7 j85_8 ij85_8 hn_85  σ_85 H locs hw fr   ls hl; exact absurd hn_85 (Nat.not_lt_zero _)
              | succ n ih_85 =>
                intro j85_7 ij85_7 j85_8 ij85_8 hn_85  σ_85 H locs hw fr   ls hl
                refine lv_iload hx hb dX11_ways_85 (lv_at hl 7 rfl) ?_
                refine lv_if_lt (tgt := 124) hx hb dX11_ways_87 (by decide) (fun c41 => ?_) (fun c41 => ?_)
                · --
                  have i42 : Iv j85_8 (-1) (-1) := iv_lt1 c41 ij85_8 (⟨by decide, by decide⟩ : Iv 0 0 0) (by decide)
                  exact J_124 j85_7 ij85_7 σ_85 _ _ hw fr _ (lv_sub hl [0, 1, 2, 3, 4, 5, 6] rfl)
                · --
                  have i43 : Iv j85_8 0 63 := iv_le2 (iv_nlt c41) (⟨by decide, by decide⟩ : Iv 0 0 0) ij85_8 (by decide)
                  refine lv_lconst (v := 1) hx hb dX11_ways_90 (by decide) ?_
                  refine lv_iload_n hx hb dX11_ways_91 rfl (lv_at hl 1 rfl) ?_
                  refine lv_lshl hx hb dX11_ways_92 rfl ?_
                  refine lv_topl (fun v44 e44 => ?_)
                  refine o_cl hw (oRunS cx hA hw q_X11_besides k_m_X11_309 (As := [.long v44]) (c_X11_besides v44) (by decide) rfl hl.1 rfl (Nat.le_of_ble_eq_true rfl) dX11_ways_93 (by decide)) (fun v46 σ45 H locs hp hw => ?_)
                  have p46_0 := hp
                  rw [p46_0] at hw
                  refine lv_iload hx hb dX11_ways_96 (lv_at hl 7 rfl) ?_
                  refine o_ci hw (oRunS cx hA hw q_X11_has k_m_X11_215 (As := [.long v46, .int j85_8]) (c_X11_has v46 j85_8) (by decide) rfl hl.1 rfl (Nat.le_of_ble_eq_true rfl) dX11_ways_98 (by decide)) (fun v48 σ47 H locs hp hw => ?_)
                  obtain ⟨p48_0, p48_1⟩ := hp
                  rw [p48_0] at hw
                  have J_118 : ∀ (j118_7 : Int32) (ij118_7 : Iv j118_7 (-1) 63), ∀ (σ_118 : oSt) (H : Heap) (locs : List Loc), oI A L τ cy D s.heap σ_118 H locs → oFr τ fs_X11_ways ts_X11_ways σ σ_118 → ∀ (ls : Array Slot), lv_has ls 9 [(0, .ref a0), (1, .int a1), (2, .int a2), (3, .int a3), (4, .long v21), (6, .int v25), (7, .int j118_7), (8, .int j85_8)] → W p l e ({ frames := 4, cells := 0, slots := 0, locals := 97 } : Room) s m args below meth c H locs 0 0 Q (F0 m 118 ls []) := by
                    intro j118_7 ij118_7   σ_118 H locs hw fr   ls hl
                    obtain ⟨v49, e49⟩ : ∃ y : Int32, y = j85_8 + (-1) := ⟨_, rfl⟩
                    have i49 : Iv v49 (-1) 62 := iv_add e49 i43 (⟨by decide, by decide⟩ : Iv (-1) (-1) (-1)) (by decide)
                    have x49 : v49.toInt = j85_8.toInt + (-1) := ex_add e49 i43 (⟨by decide, by decide⟩ : Iv (-1) (-1) (-1)) (by decide)
                    refine lv_iinc (v := v49) (lv' := [(8, .int v49), (0, .ref a0), (1, .int a1), (2, .int a2), (3, .int a3), (4, .long v21), (6, .int v25), (7, .int j118_7)]) hx hb dX11_ways_118 hl (k := 7) rfl (by rw [e49]; rfl) (by decide) rfl (fun ls hl => ?_)
                    refine lv_goto (tgt := 85) hx hb dX11_ways_121 (by decide) ?_
                    exact ih_85 j118_7 ij118_7 v49 (iv_w i49 (by decide)) (ms_dn x49 (by decide) (iv_w (a' := (-1)) (b' := 63) i49 (by decide)).1 hn_85) σ_118 _ _ hw fr _ (lv_sub hl [1, 2, 3, 4, 5, 6, 7, 0] rfl)
                  refine lv_if_eq (tgt := 118) hx hb dX11_ways_101 (by decide) (fun c50 => ?_) (fun c50 => ?_)
                  · --
                    have i51 : Iv v48 0 0 := iv_eq1 c50 p48_1 (⟨by decide, by decide⟩ : Iv 0 0 0) (by decide)
                    exact J_118 j85_7 ij85_7 σ_85 _ _ hw fr _ (lv_sub hl [0, 1, 2, 3, 4, 5, 6, 7] rfl)
                  · --
                    have i52 : Iv v48 1 1 := iv_ne1 c50 p48_1 (⟨by decide, by decide⟩ : Iv 0 0 0) (by decide)
                    refine lv_aload_n hx hb dX11_ways_104 rfl (lv_at hl 0 rfl) ?_
                    refine g_678 cx hw ha0 k_f_X11_70 dX11_ways_105 (fun v53 e53 h53 => ?_)
                    refine lv_iload hx hb dX11_ways_108 (lv_at hl 7 rfl) ?_
                    refine o_iald cx hw h53 (by decide) rfl (iv_in i43 (by decide)) dX11_ways_110 (fun v54 e54 b54 => ?_)
                    refine lv_if_le (tgt := 118) hx hb dX11_ways_111 (by decide) (fun c55 => ?_) (fun c55 => ?_)
                    · --
                      have i56 : Iv v54 (-2147483648) 0 := iv_le1 c55 (iv_top v54) (⟨by decide, by decide⟩ : Iv 0 0 0) (by decide)
                      exact J_118 j85_7 ij85_7 σ_85 _ _ hw fr _ (lv_sub hl [0, 1, 2, 3, 4, 5, 6, 7] rfl)
                    · --
                      have i57 : Iv v54 1 2147483647 := iv_lt2 (iv_nle c55) (⟨by decide, by decide⟩ : Iv 0 0 0) (iv_top v54) (by decide)
                      refine lv_iload hx hb dX11_ways_114 (lv_at hl 7 rfl) ?_
                      refine lv_istore (lv' := [(7, .int j85_8), (0, .ref a0), (1, .int a1), (2, .int a2), (3, .int a3), (4, .long v21), (6, .int v25), (8, .int j85_8)]) hx hb dX11_ways_116 hl (by decide) rfl (fun ls hl => ?_)
                      exact J_118 j85_8 (iv_w i43 (by decide)) σ_85 _ _ hw fr _ (lv_sub hl [1, 2, 3, 4, 5, 6, 0, 7] rfl)
            exact J_85 _ (-1) (iv_w (⟨by decide, by decide⟩ : Iv (-1) (-1) (-1)) (by decide)) 63 (iv_w (⟨by decide, by decide⟩ : Iv 63 63 63) (by decide)) (Nat.lt_succ_self _) σ39 _ _ hw fr _ (lv_sub hl [4, 5, 6, 7, 3, 2, 1, 0] rfl)
      · --
        have i58 : Iv v15 0 0 := iv_eq1 c16 p15_1 (⟨by decide, by decide⟩ : Iv 0 0 0) (by decide)
        refine lv_iconst (v := (-1)) hx hb dX11_ways_31 (by decide) ?_
        rw [← hQ]
        exact o_ri cx rx hw dX11_ways_32 fr
set_option maxHeartbeats 4000000 in
set_option maxRecDepth 100000 in
theorem c_X11_goesBeside (a0 : Nat) (ha0 : oA L τ a0 10) (a1 : Int32) (ia1 : Iv a1 0 63) (a2 : Int32) : oMet l A L τ cy D K yX11_goesBeside cX11_goesBeside 4 (some .boolean) 2 46 [.ref a0, .int a1, .int a2] σ (va_Qi (fun r σ1 => σ1 = σ ∧ Iv r 0 1) (oPo A L τ cy D) A) := by
  refine oMk (by decide) (Nat.le_of_ble_eq_true rfl) rfl ?_
  intro p e s m args below meth c ls cx rx hA hw hl
  generalize hQ : MQ below _ args s 0 0 A = Q
  have hx := cx.1.1
  have hb := cx.1.2.1
  have hml := cx.1.2.2.1
  have hown := cx.1.2.2.2.1
  have hts := cx.1.2.2.2.2
  have hl : lv_has ls 4 [(0, .ref a0), (1, .int a1), (2, .int a2)] := hl
  refine lv_aload_n hx hb dX11_goesBeside_0 rfl (lv_at hl 0 rfl) ?_
  refine lv_iload_n hx hb dX11_goesBeside_1 rfl (lv_at hl 1 rfl) ?_
  refine lv_iload_n hx hb dX11_goesBeside_2 rfl (lv_at hl 2 rfl) ?_
  refine o_ci hw (oRunV cx hA hw q_X11_beside k_m_X11_223 rfl ha0 (by decide) (As := [.int a1, .int a2]) (c_X11_beside a0 ha0 a1 (iv_w ia1 (by decide)) a2) (by decide) rfl hl.1 rfl (Nat.le_of_ble_eq_true rfl) dX11_goesBeside_3 (by decide)) (fun v2 σ1 H locs hp hw => ?_)
  obtain ⟨p2_0, p2_1⟩ := hp
  rw [p2_0] at hw
  refine lv_istore_n (lv' := [(3, .int v2), (0, .ref a0), (1, .int a1), (2, .int a2)]) hx hb dX11_goesBeside_6 rfl hl (by decide) rfl (fun ls hl => ?_)
  refine lv_iload_n hx hb dX11_goesBeside_7 rfl (lv_at hl 0 rfl) ?_
  refine lv_iconst (v := (-1)) hx hb dX11_goesBeside_8 (by decide) ?_
  refine lv_icmp_eq (tgt := 28) hx hb dX11_goesBeside_9 (by decide) (fun c3 => ?_) (fun c3 => ?_)
  · --
    have i4 : Iv v2 (-1) (-1) := iv_eq1 c3 p2_1 (⟨by decide, by decide⟩ : Iv (-1) (-1) (-1)) (by decide)
    refine lv_iconst (v := 0) hx hb dX11_goesBeside_28 (by decide) ?_
    rw [← hQ]
    exact o_rz cx rx hw (iv_nz01 (iv_w (⟨by decide, by decide⟩ : Iv 0 0 0) (by decide))) dX11_goesBeside_29 ⟨rfl, (iv_w (⟨by decide, by decide⟩ : Iv 0 0 0) (by decide))⟩
  · --
    have i5 : Iv v2 0 63 := iv_ne1 c3 p2_1 (⟨by decide, by decide⟩ : Iv (-1) (-1) (-1)) (by decide)
    refine lv_aload_n hx hb dX11_goesBeside_12 rfl (lv_at hl 1 rfl) ?_
    refine lv_aload_n hx hb dX11_goesBeside_13 rfl (lv_at hl 1 rfl) ?_
    refine g_640 cx hw ha0 k_f_X11_9 dX11_goesBeside_14 (fun v6 e6 h6 => ?_)
    refine lv_iload_n hx hb dX11_goesBeside_17 rfl (lv_at hl 0 rfl) ?_
    refine o_ci hw (oRunV cx hA hw q_X11_canBe k_m_X11_227 rfl ha0 (by decide) (As := [.ref v6, .int v2]) (c_X11_canBe a0 ha0 v6 h6 v2 (iv_w i5 (by decide))) (by decide) rfl hl.1 rfl (Nat.le_of_ble_eq_true rfl) dX11_goesBeside_18 (by decide)) (fun v8 σ7 H locs hp hw => ?_)
    obtain ⟨p8_0, p8_1⟩ := hp
    rw [p8_0] at hw
    refine lv_if_eq (tgt := 28) hx hb dX11_goesBeside_21 (by decide) (fun c9 => ?_) (fun c9 => ?_)
    · --
      have i10 : Iv v8 0 0 := iv_eq1 c9 p8_1 (⟨by decide, by decide⟩ : Iv 0 0 0) (by decide)
      refine lv_iconst (v := 0) hx hb dX11_goesBeside_28 (by decide) ?_
      rw [← hQ]
      exact o_rz cx rx hw (iv_nz01 (iv_w (⟨by decide, by decide⟩ : Iv 0 0 0) (by decide))) dX11_goesBeside_29 ⟨rfl, (iv_w (⟨by decide, by decide⟩ : Iv 0 0 0) (by decide))⟩
    · --
      have i11 : Iv v8 1 1 := iv_ne1 c9 p8_1 (⟨by decide, by decide⟩ : Iv 0 0 0) (by decide)
      refine lv_iconst (v := 1) hx hb dX11_goesBeside_24 (by decide) ?_
      refine lv_goto (tgt := 29) hx hb dX11_goesBeside_25 (by decide) ?_
      rw [← hQ]
      exact o_rz cx rx hw (iv_nz01 (iv_w (⟨by decide, by decide⟩ : Iv 1 1 1) (by decide))) dX11_goesBeside_29 ⟨rfl, (iv_w (⟨by decide, by decide⟩ : Iv 1 1 1) (by decide))⟩
abbrev fs_X11_snow : List Nat := [652, 653, 658]
abbrev ts_X11_snow : List Nat := []
set_option maxHeartbeats 4000000 in
set_option maxRecDepth 100000 in
theorem c_X11_snow (a0 : Nat) (ha0 : oA L τ a0 10) : oMet l A L τ cy D K yX11_snow cX11_snow 1 (some .int) 3 67 [.ref a0] σ (va_Qi (fun r σ1 => oFr τ fs_X11_snow ts_X11_snow σ σ1 ∧ Iv r 0 127) (oPo A L τ cy D) A) := by
  refine oMk (by decide) (Nat.le_of_ble_eq_true rfl) rfl ?_
  intro p e s m args below meth c ls cx rx hA hw hl
  generalize hQ : MQ below _ args s 0 0 A = Q
  have hx := cx.1.1
  have hb := cx.1.2.1
  have hml := cx.1.2.2.1
  have hown := cx.1.2.2.2.1
  have hts := cx.1.2.2.2.2
  have hl : lv_has ls 1 [(0, .ref a0)] := hl
  have fr : oFr τ fs_X11_snow ts_X11_snow σ σ := oFr_rf
  refine lv_aload_n hx hb dX11_snow_0 rfl (lv_at hl 0 rfl) ?_
  refine lv_iconst (v := 0) hx hb dX11_snow_1 (by decide) ?_
  refine p_658 cx hw ha0 k_f_X11_89 dX11_snow_2 (fun σ1 H locs eσ1 hw => ?_)
  have fr := oFr_i fr eσ1 (by decide)
  refine lv_aload_n hx hb dX11_snow_5 rfl (lv_at hl 0 rfl) ?_
  refine lv_aload_n hx hb dX11_snow_6 rfl (lv_at hl 0 rfl) ?_
  refine lv_aload_n hx hb dX11_snow_7 rfl (lv_at hl 0 rfl) ?_
  refine g_640 cx hw ha0 k_f_X11_9 dX11_snow_8 (fun v2 e2 h2 => ?_)
  refine o_cl hw (oRunV cx hA hw q_X11_roadOf k_m_X11_313 rfl ha0 (by decide) (As := [.ref v2]) (c_X11_roadOf a0 ha0 v2 h2) (by decide) rfl hl.1 rfl (Nat.le_of_ble_eq_true rfl) dX11_snow_11 (by decide)) (fun v4 σ3 H locs hp hw => ?_)
  have p4_0 := hp
  rw [p4_0] at hw
  refine p_652 cx hw ha0 k_f_X11_377 dX11_snow_14 (fun σ5 H locs eσ5 hw => ?_)
  have fr := oFr_l fr eσ5 (by decide)
  refine lv_aload_n hx hb dX11_snow_17 rfl (lv_at hl 0 rfl) ?_
  refine lv_iconst (v := 1) hx hb dX11_snow_18 (by decide) ?_
  refine p_653 cx hw ha0 (iv_w (⟨by decide, by decide⟩ : Iv 1 1 1) (by decide)) k_f_X11_164 dX11_snow_19 (fun σ6 H locs eσ6 hw => ?_)
  have fr := oFr_i fr eσ6 (by decide)
  refine lv_aload_n hx hb dX11_snow_22 rfl (lv_at hl 0 rfl) ?_
  refine g_652 cx hw ha0 k_f_X11_377 dX11_snow_23 (fun v7 e7 => ?_)
  refine o_ci hw (oRunS cx hA hw q_J13_bitCount_95d88 k_m_X11_321 (As := [.long v7]) (c_J13_bitCount_95d88 v7) (by decide) rfl hl.1 rfl (Nat.le_of_ble_eq_true rfl) dX11_snow_26 (by decide)) (fun v9 σ8 H locs hp hw => ?_)
  obtain ⟨p9_0, p9_1⟩ := hp
  rw [p9_0] at hw
  rw [← hQ]
  exact o_ri cx rx hw dX11_snow_29 ⟨fr, (iv_w p9_1 (by decide))⟩
abbrev fs_X11_thaw : List Nat := [657, 658]
abbrev ts_X11_thaw : List Nat := [52]
set_option maxHeartbeats 4000000 in
set_option maxRecDepth 100000 in
theorem c_X11_thaw (a0 : Nat) (ha0 : oA L τ a0 10) : oMet l A L τ cy D K yX11_thaw cX11_thaw 3 (some .int) 3 67 [.ref a0] σ (va_Qi (fun r σ1 => oFr τ fs_X11_thaw ts_X11_thaw σ σ1 ∧ Iv r (-2) 127) (oPo A L τ cy D) A) := by
  refine oMk (by decide) (Nat.le_of_ble_eq_true rfl) rfl ?_
  intro p e s m args below meth c ls cx rx hA hw hl
  generalize hQ : MQ below _ args s 0 0 A = Q
  have hx := cx.1.1
  have hb := cx.1.2.1
  have hml := cx.1.2.2.1
  have hown := cx.1.2.2.2.1
  have hts := cx.1.2.2.2.2
  have hl : lv_has ls 3 [(0, .ref a0)] := hl
  have fr : oFr τ fs_X11_thaw ts_X11_thaw σ σ := oFr_rf
  refine lv_aload_n hx hb dX11_thaw_0 rfl (lv_at hl 0 rfl) ?_
  refine lv_iconst (v := 0) hx hb dX11_thaw_1 (by decide) ?_
  refine p_658 cx hw ha0 k_f_X11_89 dX11_thaw_2 (fun σ1 H locs eσ1 hw => ?_)
  have fr := oFr_i fr eσ1 (by decide)
  refine lv_aload_n hx hb dX11_thaw_5 rfl (lv_at hl 0 rfl) ?_
  refine g_653 cx hw ha0 k_f_X11_164 dX11_thaw_6 (fun v2 e2 => ?_)
  refine lv_if_ne (tgt := 15) hx hb dX11_thaw_9 (by decide) (fun c3 => ?_) (fun c3 => ?_)
  · --
    refine lv_aload_n hx hb dX11_thaw_15 rfl (lv_at hl 0 rfl) ?_
    refine lv_aload_n hx hb dX11_thaw_16 rfl (lv_at hl 0 rfl) ?_
    refine g_640 cx hw ha0 k_f_X11_9 dX11_thaw_17 (fun v4 e4 h4 => ?_)
    refine o_cl hw (oRunV cx hA hw q_X11_roadOf k_m_X11_313 rfl ha0 (by decide) (As := [.ref v4]) (c_X11_roadOf a0 ha0 v4 h4) (by decide) rfl hl.1 rfl (Nat.le_of_ble_eq_true rfl) dX11_thaw_20 (by decide)) (fun v6 σ5 H locs hp hw => ?_)
    have p6_0 := hp
    rw [p6_0] at hw
    refine lv_lstore_n (lv' := [(1, .long v6), (0, .ref a0)]) hx hb dX11_thaw_23 rfl hl (by decide) rfl (fun ls hl => ?_)
    refine lv_aload_n hx hb dX11_thaw_24 rfl (lv_at hl 1 rfl) ?_
    refine lv_iconst (v := 0) hx hb dX11_thaw_25 (by decide) ?_
    refine p_657 cx hw ha0 (iv_w (⟨by decide, by decide⟩ : Iv 0 0 0) (by decide)) k_f_X11_92 dX11_thaw_26 (fun σ7 H locs eσ7 hw => ?_)
    have fr := oFr_i fr eσ7 (by decide)
    refine lv_aload_n hx hb dX11_thaw_29 rfl (lv_at hl 1 rfl) ?_
    refine lv_aload_n hx hb dX11_thaw_30 rfl (lv_at hl 1 rfl) ?_
    refine g_652 cx hw ha0 k_f_X11_377 dX11_thaw_31 (fun v8 e8 => ?_)
    refine lv_lload_n hx hb dX11_thaw_34 rfl (lv_at hl 0 rfl) ?_
    refine lv_ldc2 (v := (-1)) hx hb hown (hts _ k_k_X11_327) dX11_thaw_35 ?_
    refine lv_lxor hx hb dX11_thaw_38 ?_
    refine lv_topl (fun v9 e9 => ?_)
    refine lv_land hx hb dX11_thaw_39 ?_
    refine lv_topl (fun v10 e10 => ?_)
    refine o_cv hw (oRunV cx hA hw q_X11_tell k_m_X11_278 rfl ha0 (by decide) (As := [.long v10]) (c_X11_tell a0 ha0 v10 (kn_iv ((kp_s eσ7)) (iv_w (⟨by decide, by decide⟩ : Iv 0 0 0) (by decide)))) (by decide) rfl hl.1 rfl (Nat.le_of_ble_eq_true rfl) dX11_thaw_40 (by decide)) (fun σ11 H locs hp hw => ?_)
    obtain ⟨p12_0, p12_1⟩ := hp
    have fr := oFr_tr fr p12_0 (by decide)
    have x14 : (σ11.1 657 a0).toInt = (0 : Int32).toInt + 1 := fin_tr p12_1 ((kp_s eσ7))
    have i13 : Iv (σ11.1 657 a0) 1 1 := iv_fin x14 (⟨by decide, by decide⟩ : Iv 0 0 0) (by decide)
    refine lv_aload_n hx hb dX11_thaw_43 rfl (lv_at hl 1 rfl) ?_
    refine lv_lload_n hx hb dX11_thaw_44 rfl (lv_at hl 0 rfl) ?_
    refine lv_aload_n hx hb dX11_thaw_45 rfl (lv_at hl 1 rfl) ?_
    refine g_652 cx hw ha0 k_f_X11_377 dX11_thaw_46 (fun v15 e15 => ?_)
    refine lv_ldc2 (v := (-1)) hx hb hown (hts _ k_k_X11_327) dX11_thaw_49 ?_
    refine lv_lxor hx hb dX11_thaw_52 ?_
    refine lv_topl (fun v16 e16 => ?_)
    refine lv_land hx hb dX11_thaw_53 ?_
    refine lv_topl (fun v17 e17 => ?_)
    refine o_cv hw (oRunV cx hA hw q_X11_tell k_m_X11_278 rfl ha0 (by decide) (As := [.long v17]) (c_X11_tell a0 ha0 v17 (kn_iv (rfl) (iv_w i13 (by decide)))) (by decide) rfl hl.1 rfl (Nat.le_of_ble_eq_true rfl) dX11_thaw_54 (by decide)) (fun σ18 H locs hp hw => ?_)
    obtain ⟨p19_0, p19_1⟩ := hp
    have fr := oFr_tr fr p19_0 (by decide)
    have x21 : (σ18.1 657 a0).toInt = (σ11.1 657 a0).toInt + 1 := fin_tr p19_1 (rfl)
    have i20 : Iv (σ18.1 657 a0) 2 2 := iv_fin x21 i13 (by decide)
    refine lv_aload_n hx hb dX11_thaw_57 rfl (lv_at hl 1 rfl) ?_
    refine g_652 cx hw ha0 k_f_X11_377 dX11_thaw_58 (fun v22 e22 => ?_)
    refine lv_lload_n hx hb dX11_thaw_61 rfl (lv_at hl 0 rfl) ?_
    refine lv_ldc2 (v := (-1)) hx hb hown (hts _ k_k_X11_327) dX11_thaw_62 ?_
    refine lv_lxor hx hb dX11_thaw_65 ?_
    refine lv_topl (fun v23 e23 => ?_)
    refine lv_land hx hb dX11_thaw_66 ?_
    refine lv_topl (fun v24 e24 => ?_)
    refine o_ci hw (oRunS cx hA hw q_J13_bitCount_95d88 k_m_X11_321 (As := [.long v24]) (c_J13_bitCount_95d88 v24) (by decide) rfl hl.1 rfl (Nat.le_of_ble_eq_true rfl) dX11_thaw_67 (by decide)) (fun v26 σ25 H locs hp hw => ?_)
    obtain ⟨p26_0, p26_1⟩ := hp
    rw [p26_0] at hw
    rw [← hQ]
    exact o_ri cx rx hw dX11_thaw_70 ⟨fr, (iv_w p26_1 (by decide))⟩
  · --
    have i27 : Iv v2 0 0 := iv_eq1 c3 (iv_top v2) (⟨by decide, by decide⟩ : Iv 0 0 0) (by decide)
    refine lv_bipush (v := (-2)) hx hb dX11_thaw_12 (by decide) ?_
    rw [← hQ]
    exact o_ri cx rx hw dX11_thaw_14 ⟨fr, (iv_w (⟨by decide, by decide⟩ : Iv (-2) (-2) (-2)) (by decide))⟩
abbrev fs_X11_keep : List Nat := [658]
abbrev ts_X11_keep : List Nat := [59, 60, 61]
set_option maxHeartbeats 4000000 in
set_option maxRecDepth 100000 in
theorem c_X11_keep (a0 : Nat) (ha0 : oA L τ a0 10) (a1 : Int32) : oMet l A L τ cy D K yX11_keep cX11_keep 2 (some .boolean) 1 23 [.ref a0, .int a1] σ (va_Qi (fun r σ1 => oFr τ fs_X11_keep ts_X11_keep σ σ1 ∧ Iv r 0 1) (oPo A L τ cy D) A) := by
  refine oMk (by decide) (Nat.le_of_ble_eq_true rfl) rfl ?_
  intro p e s m args below meth c ls cx rx hA hw hl
  generalize hQ : MQ below _ args s 0 0 A = Q
  have hx := cx.1.1
  have hb := cx.1.2.1
  have hml := cx.1.2.2.1
  have hown := cx.1.2.2.2.1
  have hts := cx.1.2.2.2.2
  have hl : lv_has ls 2 [(0, .ref a0), (1, .int a1)] := hl
  have fr : oFr τ fs_X11_keep ts_X11_keep σ σ := oFr_rf
  refine lv_aload_n hx hb dX11_keep_0 rfl (lv_at hl 0 rfl) ?_
  refine lv_iconst (v := 0) hx hb dX11_keep_1 (by decide) ?_
  refine p_658 cx hw ha0 k_f_X11_89 dX11_keep_2 (fun σ1 H locs eσ1 hw => ?_)
  have fr := oFr_i fr eσ1 (by decide)
  refine lv_iload_n hx hb dX11_keep_5 rfl (lv_at hl 1 rfl) ?_
  refine lv_iconst (v := 0) hx hb dX11_keep_6 (by decide) ?_
  refine lv_iconst (v := 1) hx hb dX11_keep_7 (by decide) ?_
  refine o_ci hw (oRunS cx hA hw q_X11_in k_m_X11_95 (As := [.int a1, .int 0, .int 1]) (c_X11_in a1 0 1) (by decide) rfl hl.1 rfl (Nat.le_of_ble_eq_true rfl) dX11_keep_8 (by decide)) (fun v3 σ2 H locs hp hw => ?_)
  obtain ⟨p3_0, p3_1, p3_2⟩ := hp
  rw [p3_0] at hw
  refine lv_if_ne (tgt := 16) hx hb dX11_keep_11 (by decide) (fun c4 => ?_) (fun c4 => ?_)
  · --
    have i5 : Iv v3 1 1 := iv_ne1 c4 p3_1 (⟨by decide, by decide⟩ : Iv 0 0 0) (by decide)
    have i6 : Iv a1 0 1 := (fun h => iv_rel (p3_2 h) (⟨by decide, by decide⟩ : Iv 0 0 0) (⟨by decide, by decide⟩ : Iv 1 1 1)) c4
    refine lv_aload_n hx hb dX11_keep_16 rfl (lv_at hl 0 rfl) ?_
    refine g_683 cx hw ha0 k_f_X11_82 dX11_keep_17 (fun v7 e7 h7 => ?_)
    refine lv_iload_n hx hb dX11_keep_20 rfl (lv_at hl 1 rfl) ?_
    refine lv_iconst (v := 1) hx hb dX11_keep_21 (by decide) ?_
    refine o_zast cx hw h7 (by decide) rfl (iv_in i6 (by decide)) trivial dX11_keep_22 (fun σ8 H locs eσ8 hw => ?_)
    have fr := oFr_p fr eσ8 h7 (by decide)
    refine lv_aload_n hx hb dX11_keep_23 rfl (lv_at hl 0 rfl) ?_
    refine g_684 cx hw ha0 k_f_X11_86 dX11_keep_24 (fun v9 e9 h9 => ?_)
    refine lv_iload_n hx hb dX11_keep_27 rfl (lv_at hl 1 rfl) ?_
    refine lv_aload_n hx hb dX11_keep_28 rfl (lv_at hl 0 rfl) ?_
    refine g_681 cx hw ha0 k_f_X11_182 dX11_keep_29 (fun v10 e10 => ?_)
    refine o_iast cx hw h9 (by decide) rfl (iv_in i6 (by decide)) trivial dX11_keep_32 (fun σ11 H locs eσ11 hw => ?_)
    have fr := oFr_p fr eσ11 h9 (by decide)
    refine lv_aload_n hx hb dX11_keep_33 rfl (lv_at hl 0 rfl) ?_
    refine g_640 cx hw ha0 k_f_X11_9 dX11_keep_34 (fun v12 e12 h12 => ?_)
    refine lv_aload_n hx hb dX11_keep_37 rfl (lv_at hl 0 rfl) ?_
    refine g_682 cx hw ha0 k_f_X11_79 dX11_keep_38 (fun v13 e13 h13 => ?_)
    refine lv_sipush (v := 334) hx hb dX11_keep_41 (by decide) ?_
    refine lv_iload_n hx hb dX11_keep_44 rfl (lv_at hl 1 rfl) ?_
    refine lv_imul hx hb dX11_keep_45 ?_
    refine lv_topi (fun v14 e14 => ?_)
    have i14 : Iv v14 0 334 := iv_mul e14 (⟨by decide, by decide⟩ : Iv 334 334 334) i6 (by decide)
    refine o_cv hw (oRunS cx hA hw q_X11_lay k_m_X11_251 (As := [.ref v12, .ref v13, .int v14]) (c_X11_layK v12 h12 v13 h13 v14 (iv_w i14 (by decide)) (by have q2 := ex_mul e14 (⟨by decide, by decide⟩ : Iv 334 334 334) i6 (by decide); have q3 : (334 : Int32).toInt = 334 := (by decide); rw [q3] at q2; omega)) (by decide) rfl hl.1 rfl (Nat.le_of_ble_eq_true rfl) dX11_keep_46 (by decide)) (fun σ15 H locs hp hw => ?_)
    have p16_0 := hp
    have fr := oFr_tr fr p16_0 (by decide)
    refine lv_iconst (v := 1) hx hb dX11_keep_49 (by decide) ?_
    rw [← hQ]
    exact o_rz cx rx hw (iv_nz01 (iv_w (⟨by decide, by decide⟩ : Iv 1 1 1) (by decide))) dX11_keep_50 ⟨fr, (iv_w (⟨by decide, by decide⟩ : Iv 1 1 1) (by decide))⟩
  · --
    have i17 : Iv v3 0 0 := iv_eq1 c4 p3_1 (⟨by decide, by decide⟩ : Iv 0 0 0) (by decide)
    refine lv_iconst (v := 0) hx hb dX11_keep_14 (by decide) ?_
    rw [← hQ]
    exact o_rz cx rx hw (iv_nz01 (iv_w (⟨by decide, by decide⟩ : Iv 0 0 0) (by decide))) dX11_keep_15 ⟨fr, (iv_w (⟨by decide, by decide⟩ : Iv 0 0 0) (by decide))⟩
abbrev fs_X11_again : List Nat := [658, 672]
abbrev ts_X11_again : List Nat := [48]
set_option maxHeartbeats 4000000 in
set_option maxRecDepth 100000 in
theorem c_X11_again (a0 : Nat) (ha0 : oA L τ a0 10) (a1 : Int32) : oMet l A L τ cy D K yX11_again cX11_again 3 (some .boolean) 1 22 [.ref a0, .int a1] σ (va_Qi (fun r σ1 => oFr τ fs_X11_again ts_X11_again σ σ1 ∧ Iv r 0 1) (oPo A L τ cy D) A) := by
  refine oMk (by decide) (Nat.le_of_ble_eq_true rfl) rfl ?_
  intro p e s m args below meth c ls cx rx hA hw hl
  generalize hQ : MQ below _ args s 0 0 A = Q
  have hx := cx.1.1
  have hb := cx.1.2.1
  have hml := cx.1.2.2.1
  have hown := cx.1.2.2.2.1
  have hts := cx.1.2.2.2.2
  have hl : lv_has ls 3 [(0, .ref a0), (1, .int a1)] := hl
  have fr : oFr τ fs_X11_again ts_X11_again σ σ := oFr_rf
  refine lv_aload_n hx hb dX11_again_0 rfl (lv_at hl 0 rfl) ?_
  refine lv_iconst (v := 0) hx hb dX11_again_1 (by decide) ?_
  refine p_658 cx hw ha0 k_f_X11_89 dX11_again_2 (fun σ1 H locs eσ1 hw => ?_)
  have fr := oFr_i fr eσ1 (by decide)
  refine lv_iload_n hx hb dX11_again_5 rfl (lv_at hl 1 rfl) ?_
  refine lv_iconst (v := 0) hx hb dX11_again_6 (by decide) ?_
  refine lv_iconst (v := 1) hx hb dX11_again_7 (by decide) ?_
  refine o_ci hw (oRunS cx hA hw q_X11_in k_m_X11_95 (As := [.int a1, .int 0, .int 1]) (c_X11_in a1 0 1) (by decide) rfl hl.1 rfl (Nat.le_of_ble_eq_true rfl) dX11_again_8 (by decide)) (fun v3 σ2 H locs hp hw => ?_)
  obtain ⟨p3_0, p3_1, p3_2⟩ := hp
  rw [p3_0] at hw
  refine lv_if_eq (tgt := 36) hx hb dX11_again_11 (by decide) (fun c4 => ?_) (fun c4 => ?_)
  · --
    have i5 : Iv v3 0 0 := iv_eq1 c4 p3_1 (⟨by decide, by decide⟩ : Iv 0 0 0) (by decide)
    refine lv_iconst (v := 0) hx hb dX11_again_36 (by decide) ?_
    rw [← hQ]
    exact o_rz cx rx hw (iv_nz01 (iv_w (⟨by decide, by decide⟩ : Iv 0 0 0) (by decide))) dX11_again_37 ⟨fr, (iv_w (⟨by decide, by decide⟩ : Iv 0 0 0) (by decide))⟩
  · --
    have i6 : Iv v3 1 1 := iv_ne1 c4 p3_1 (⟨by decide, by decide⟩ : Iv 0 0 0) (by decide)
    have i7 : Iv a1 0 1 := (fun h => iv_rel (p3_2 h) (⟨by decide, by decide⟩ : Iv 0 0 0) (⟨by decide, by decide⟩ : Iv 1 1 1)) c4
    refine lv_aload_n hx hb dX11_again_14 rfl (lv_at hl 0 rfl) ?_
    refine g_683 cx hw ha0 k_f_X11_82 dX11_again_15 (fun v8 e8 h8 => ?_)
    refine lv_iload_n hx hb dX11_again_18 rfl (lv_at hl 1 rfl) ?_
    refine o_zald cx hw h8 (by decide) rfl (iv_in i7 (by decide)) dX11_again_19 (fun v9 e9 b9 => ?_)
    refine lv_if_eq (tgt := 36) hx hb dX11_again_20 (by decide) (fun c10 => ?_) (fun c10 => ?_)
    · --
      have i11 : Iv v9 0 0 := iv_eq1 c10 (iv_top v9) (⟨by decide, by decide⟩ : Iv 0 0 0) (by decide)
      refine lv_iconst (v := 0) hx hb dX11_again_36 (by decide) ?_
      rw [← hQ]
      exact o_rz cx rx hw (iv_nz01 (iv_w (⟨by decide, by decide⟩ : Iv 0 0 0) (by decide))) dX11_again_37 ⟨fr, (iv_w (⟨by decide, by decide⟩ : Iv 0 0 0) (by decide))⟩
    · --
      refine lv_aload_n hx hb dX11_again_23 rfl (lv_at hl 0 rfl) ?_
      refine g_684 cx hw ha0 k_f_X11_86 dX11_again_24 (fun v12 e12 h12 => ?_)
      refine lv_iload_n hx hb dX11_again_27 rfl (lv_at hl 1 rfl) ?_
      refine o_iald cx hw h12 (by decide) rfl (iv_in i7 (by decide)) dX11_again_28 (fun v13 e13 b13 => ?_)
      refine lv_aload_n hx hb dX11_again_29 rfl (lv_at hl 0 rfl) ?_
      refine g_681 cx hw ha0 k_f_X11_182 dX11_again_30 (fun v14 e14 => ?_)
      refine lv_icmp_eq (tgt := 38) hx hb dX11_again_33 (by decide) (fun c15 => ?_) (fun c15 => ?_)
      · --
        refine lv_iconst (v := 0) hx hb dX11_again_38 (by decide) ?_
        refine lv_istore_n (lv' := [(2, .int 0), (0, .ref a0), (1, .int a1)]) hx hb dX11_again_39 rfl hl (by decide) rfl (fun ls hl => ?_)
        have J_40 : ∀ n : Nat, ∀ (j40_2 : Int32) (ij40_2 : Iv j40_2 0 334), (334 - j40_2.toInt).toNat < n → ∀ (σ_40 : oSt) (H : Heap) (locs : List Loc), oI A L τ cy D s.heap σ_40 H locs → oFr τ fs_X11_again ts_X11_again σ σ_40 → ∀ (ls : Array Slot), lv_has ls 3 [(0, .ref a0), (1, .int a1), (2, .int j40_2)] → W p l e ({ frames := 1, cells := 0, slots := 0, locals := 22 } : Room) s m args below meth c H locs 0 0 Q (F0 m 40 ls []) := by
          intro n
          induction n with
          | zero => intro j40_2 ij40_2 hn_40  σ_40 H locs hw fr   ls hl; exact absurd hn_40 (Nat.not_lt_zero _)
          | succ n ih_40 =>
            intro j40_2 ij40_2 hn_40  σ_40 H locs hw fr   ls hl
            refine lv_iload_n hx hb dX11_again_40 rfl (lv_at hl 2 rfl) ?_
            refine lv_sipush (v := 334) hx hb dX11_again_41 (by decide) ?_
            refine lv_icmp_ge (tgt := 71) hx hb dX11_again_44 (by decide) (fun c16 => ?_) (fun c16 => ?_)
            · --
              have i17 : Iv j40_2 334 334 := iv_le2 c16 (⟨by decide, by decide⟩ : Iv 334 334 334) ij40_2 (by decide)
              refine lv_aload_n hx hb dX11_again_71 rfl (lv_at hl 0 rfl) ?_
              refine lv_iconst (v := 0) hx hb dX11_again_72 (by decide) ?_
              refine p_672 cx hw ha0 (iv_w (⟨by decide, by decide⟩ : Iv 0 0 0) (by decide)) k_f_X11_168 dX11_again_73 (fun σ18 H locs eσ18 hw => ?_)
              have fr := oFr_i fr eσ18 (by decide)
              refine lv_iconst (v := 1) hx hb dX11_again_76 (by decide) ?_
              rw [← hQ]
              exact o_rz cx rx hw (iv_nz01 (iv_w (⟨by decide, by decide⟩ : Iv 1 1 1) (by decide))) dX11_again_77 ⟨fr, (iv_w (⟨by decide, by decide⟩ : Iv 1 1 1) (by decide))⟩
            · --
              have i19 : Iv j40_2 0 333 := iv_lt1 (iv_nle c16) ij40_2 (⟨by decide, by decide⟩ : Iv 334 334 334) (by decide)
              refine lv_aload_n hx hb dX11_again_47 rfl (lv_at hl 0 rfl) ?_
              refine g_640 cx hw ha0 k_f_X11_9 dX11_again_48 (fun v20 e20 h20 => ?_)
              refine lv_iload_n hx hb dX11_again_51 rfl (lv_at hl 2 rfl) ?_
              refine lv_aload_n hx hb dX11_again_52 rfl (lv_at hl 0 rfl) ?_
              refine g_682 cx hw ha0 k_f_X11_79 dX11_again_53 (fun v21 e21 h21 => ?_)
              refine lv_sipush (v := 334) hx hb dX11_again_56 (by decide) ?_
              refine lv_iload_n hx hb dX11_again_59 rfl (lv_at hl 1 rfl) ?_
              refine lv_imul hx hb dX11_again_60 ?_
              refine lv_topi (fun v22 e22 => ?_)
              have i22 : Iv v22 0 334 := iv_mul e22 (⟨by decide, by decide⟩ : Iv 334 334 334) i7 (by decide)
              refine lv_iload_n hx hb dX11_again_61 rfl (lv_at hl 2 rfl) ?_
              refine lv_iadd hx hb dX11_again_62 ?_
              refine lv_topi (fun v23 e23 => ?_)
              have i23 : Iv v23 0 667 := iv_add e23 i22 i19 (by decide)
              refine o_iald cx hw h21 (by decide) rfl (iv_in i23 (by decide)) dX11_again_63 (fun v24 e24 b24 => ?_)
              refine o_iast cx hw h20 (by decide) rfl (iv_in i19 (by decide)) (rb_cp i19 i23 (by decide) b24 (by have q := ex_add e23 i22 i19 (by decide); have q2 := ex_mul e22 (⟨by decide, by decide⟩ : Iv 334 334 334) i7 (by decide); have q3 : (334 : Int32).toInt = 334 := (by decide); rw [q3] at q2; have q4 := (i19).1; have q5 := (i19).2; omega)) dX11_again_64 (fun σ25 H locs eσ25 hw => ?_)
              have fr := oFr_p fr eσ25 h20 (by decide)
              obtain ⟨v26, e26⟩ : ∃ y : Int32, y = j40_2 + 1 := ⟨_, rfl⟩
              have i26 : Iv v26 1 334 := iv_add e26 i19 (⟨by decide, by decide⟩ : Iv 1 1 1) (by decide)
              have x26 : v26.toInt = j40_2.toInt + 1 := ex_add e26 i19 (⟨by decide, by decide⟩ : Iv 1 1 1) (by decide)
              refine lv_iinc (v := v26) (lv' := [(2, .int v26), (0, .ref a0), (1, .int a1)]) hx hb dX11_again_65 hl (k := 2) rfl (by rw [e26]; rfl) (by decide) rfl (fun ls hl => ?_)
              refine lv_goto (tgt := 40) hx hb dX11_again_68 (by decide) ?_
              exact ih_40 v26 (iv_w i26 (by decide)) (ms_up x26 (by decide) (iv_w (a' := 0) (b' := 334) i26 (by decide)).2 hn_40) σ25 _ _ hw fr _ (lv_sub hl [1, 2, 0] rfl)
        exact J_40 _ 0 (iv_w (⟨by decide, by decide⟩ : Iv 0 0 0) (by decide)) (Nat.lt_succ_self _) σ1 _ _ hw fr _ (lv_sub hl [1, 2, 0] rfl)
      · --
        refine lv_iconst (v := 0) hx hb dX11_again_36 (by decide) ?_
        rw [← hQ]
        exact o_rz cx rx hw (iv_nz01 (iv_w (⟨by decide, by decide⟩ : Iv 0 0 0) (by decide))) dX11_again_37 ⟨fr, (iv_w (⟨by decide, by decide⟩ : Iv 0 0 0) (by decide))⟩
abbrev fs_X11_count : List Nat := [658]
abbrev ts_X11_count : List Nat := []
set_option maxHeartbeats 4000000 in
set_option maxRecDepth 100000 in
theorem c_X11_count (a0 : Nat) (ha0 : oA L τ a0 10) (a1 : Int32) : oMet l A L τ cy D K yX11_count cX11_count 4 (some .int) 0 0 [.ref a0, .int a1] σ (va_Qi (fun r σ1 => oFr τ fs_X11_count ts_X11_count σ σ1) (oPo A L τ cy D) A) := by
  refine oMk (by decide) (Nat.le_of_ble_eq_true rfl) rfl ?_
  intro p e s m args below meth c ls cx rx hA hw hl
  generalize hQ : MQ below _ args s 0 0 A = Q
  have hx := cx.1.1
  have hb := cx.1.2.1
  have hml := cx.1.2.2.1
  have hown := cx.1.2.2.2.1
  have hts := cx.1.2.2.2.2
  have hl : lv_has ls 4 [(0, .ref a0), (1, .int a1)] := hl
  have fr : oFr τ fs_X11_count ts_X11_count σ σ := oFr_rf
  refine lv_aload_n hx hb dX11_count_0 rfl (lv_at hl 0 rfl) ?_
  refine lv_iconst (v := 0) hx hb dX11_count_1 (by decide) ?_
  refine p_658 cx hw ha0 k_f_X11_89 dX11_count_2 (fun σ1 H locs eσ1 hw => ?_)
  have fr := oFr_i fr eσ1 (by decide)
  refine lv_iconst (v := 0) hx hb dX11_count_5 (by decide) ?_
  refine lv_istore_n (lv' := [(2, .int 0), (0, .ref a0), (1, .int a1)]) hx hb dX11_count_6 rfl hl (by decide) rfl (fun ls hl => ?_)
  refine lv_iload_n hx hb dX11_count_7 rfl (lv_at hl 2 rfl) ?_
  by_cases q2 : a1 = 0
  · --
    refine lv_tableIn (tgt := 76) hx hb dX11_count_8 (by rw [q2]; decide) (by rw [q2]; decide) (by rw [q2]; rfl) (by decide) ?_
    have i3 : Iv a1 0 0 := iv_eq1 q2 (iv_top a1) (⟨by decide, by decide⟩ : Iv 0 0 0) (by decide)
    refine lv_aload_n hx hb dX11_count_76 rfl (lv_at hl 1 rfl) ?_
    refine g_641 cx hw ha0 k_f_X11_99 dX11_count_77 (fun v4 e4 i4 => ?_)
    rw [← hQ]
    exact o_ri cx rx hw dX11_count_80 fr
  by_cases q5 : a1 = 1
  · --
    refine lv_tableIn (tgt := 81) hx hb dX11_count_8 (by rw [q5]; decide) (by rw [q5]; decide) (by rw [q5]; rfl) (by decide) ?_
    have i6 : Iv a1 1 1 := iv_eq1 q5 (iv_top a1) (⟨by decide, by decide⟩ : Iv 1 1 1) (by decide)
    refine lv_aload_n hx hb dX11_count_81 rfl (lv_at hl 1 rfl) ?_
    refine g_642 cx hw ha0 k_f_X11_102 dX11_count_82 (fun v7 e7 i7 => ?_)
    rw [← hQ]
    exact o_ri cx rx hw dX11_count_85 fr
  by_cases q8 : a1 = 2
  · --
    refine lv_tableIn (tgt := 86) hx hb dX11_count_8 (by rw [q8]; decide) (by rw [q8]; decide) (by rw [q8]; rfl) (by decide) ?_
    have i9 : Iv a1 2 2 := iv_eq1 q8 (iv_top a1) (⟨by decide, by decide⟩ : Iv 2 2 2) (by decide)
    refine lv_aload_n hx hb dX11_count_86 rfl (lv_at hl 1 rfl) ?_
    refine g_645 cx hw ha0 k_f_X11_154 dX11_count_87 (fun v10 e10 i10 => ?_)
    rw [← hQ]
    exact o_ri cx rx hw dX11_count_90 fr
  by_cases q11 : a1 = 3
  · --
    refine lv_tableIn (tgt := 91) hx hb dX11_count_8 (by rw [q11]; decide) (by rw [q11]; decide) (by rw [q11]; rfl) (by decide) ?_
    have i12 : Iv a1 3 3 := iv_eq1 q11 (iv_top a1) (⟨by decide, by decide⟩ : Iv 3 3 3) (by decide)
    refine lv_aload_n hx hb dX11_count_91 rfl (lv_at hl 1 rfl) ?_
    refine g_640 cx hw ha0 k_f_X11_9 dX11_count_92 (fun v13 e13 h13 => ?_)
    refine lv_sipush (v := 332) hx hb dX11_count_95 (by decide) ?_
    refine o_iald cx hw h13 (by decide) rfl (iv_in (⟨by decide, by decide⟩ : Iv 332 332 332) (by decide)) dX11_count_98 (fun v14 e14 b14 => ?_)
    rw [← hQ]
    exact o_ri cx rx hw dX11_count_99 fr
  by_cases q15 : a1 = 4
  · --
    refine lv_tableIn (tgt := 100) hx hb dX11_count_8 (by rw [q15]; decide) (by rw [q15]; decide) (by rw [q15]; rfl) (by decide) ?_
    have i16 : Iv a1 4 4 := iv_eq1 q15 (iv_top a1) (⟨by decide, by decide⟩ : Iv 4 4 4) (by decide)
    refine lv_aload_n hx hb dX11_count_100 rfl (lv_at hl 1 rfl) ?_
    refine g_647 cx hw ha0 k_f_X11_105 dX11_count_101 (fun v17 e17 i17 => ?_)
    rw [← hQ]
    exact o_ri cx rx hw dX11_count_104 fr
  by_cases q18 : a1 = 5
  · --
    refine lv_tableIn (tgt := 105) hx hb dX11_count_8 (by rw [q18]; decide) (by rw [q18]; decide) (by rw [q18]; rfl) (by decide) ?_
    have i19 : Iv a1 5 5 := iv_eq1 q18 (iv_top a1) (⟨by decide, by decide⟩ : Iv 5 5 5) (by decide)
    refine lv_iconst (v := 0) hx hb dX11_count_105 (by decide) ?_
    refine lv_istore_n (lv' := [(3, .int 0), (2, .int 0), (0, .ref a0), (1, .int a1)]) hx hb dX11_count_106 rfl hl (by decide) rfl (fun ls hl => ?_)
    have J_107 : ∀ n : Nat, ∀ (j107_2 : Int32) (j107_3 : Int32) (ij107_3 : Iv j107_3 0 6), (6 - j107_3.toInt).toNat < n → ∀ (σ_107 : oSt) (H : Heap) (locs : List Loc), oI A L τ cy D s.heap σ_107 H locs → oFr τ fs_X11_count ts_X11_count σ σ_107 → ∀ (ls : Array Slot), lv_has ls 4 [(0, .ref a0), (1, .int a1), (2, .int j107_2), (3, .int j107_3)] → W p l e ({ frames := 0, cells := 0, slots := 0, locals := 0 } : Room) s m args below meth c H locs 0 0 Q (F0 m 107 ls []) := by
      intro n
      induction n with
      | zero => intro j107_2 j107_3 ij107_3 hn_107  σ_107 H locs hw fr   ls hl; exact absurd hn_107 (Nat.not_lt_zero _)
      | succ n ih_107 =>
        intro j107_2 j107_3 ij107_3 hn_107  σ_107 H locs hw fr   ls hl
        refine lv_iload_n hx hb dX11_count_107 rfl (lv_at hl 3 rfl) ?_
        refine lv_aload_n hx hb dX11_count_108 rfl (lv_at hl 0 rfl) ?_
        refine g_647 cx hw ha0 k_f_X11_105 dX11_count_109 (fun v20 e20 i20 => ?_)
        refine lv_icmp_ge (tgt := 136) hx hb dX11_count_112 (by decide) (fun c21 => ?_) (fun c21 => ?_)
        · --
          refine lv_iload_n hx hb dX11_count_136 rfl (lv_at hl 2 rfl) ?_
          rw [← hQ]
          exact o_ri cx rx hw dX11_count_137 fr
        · --
          have i22 : Iv j107_3 0 5 := iv_lt1 (iv_nle c21) ij107_3 i20 (by decide)
          have i23 : Iv v20 1 6 := iv_lt2 (iv_nle c21) ij107_3 i20 (by decide)
          refine lv_iload_n hx hb dX11_count_115 rfl (lv_at hl 2 rfl) ?_
          refine lv_aload_n hx hb dX11_count_116 rfl (lv_at hl 0 rfl) ?_
          refine g_640 cx hw ha0 k_f_X11_9 dX11_count_117 (fun v24 e24 h24 => ?_)
          refine lv_sipush (v := 326) hx hb dX11_count_120 (by decide) ?_
          refine lv_iload_n hx hb dX11_count_123 rfl (lv_at hl 3 rfl) ?_
          refine lv_iadd hx hb dX11_count_124 ?_
          refine lv_topi (fun v25 e25 => ?_)
          have i25 : Iv v25 326 331 := iv_add e25 (⟨by decide, by decide⟩ : Iv 326 326 326) i22 (by decide)
          have x25 : v25.toInt = j107_3.toInt + 326 := (ex_add e25 (⟨by decide, by decide⟩ : Iv 326 326 326) i22 (by decide)).trans (Int.add_comm _ _)
          refine o_iald cx hw h24 (by decide) rfl (iv_in i25 (by decide)) dX11_count_125 (fun v26 e26 b26 => ?_)
          refine lv_iload_n hx hb dX11_count_126 rfl (lv_at hl 3 rfl) ?_
          refine lv_ishl hx hb dX11_count_127 ?_
          refine lv_topi (fun v27 e27 => ?_)
          refine lv_ior hx hb dX11_count_128 ?_
          refine lv_topi (fun v28 e28 => ?_)
          refine lv_istore_n (lv' := [(2, .int v28), (0, .ref a0), (1, .int a1), (3, .int j107_3)]) hx hb dX11_count_129 rfl hl (by decide) rfl (fun ls hl => ?_)
          obtain ⟨v29, e29⟩ : ∃ y : Int32, y = j107_3 + 1 := ⟨_, rfl⟩
          have i29 : Iv v29 1 6 := iv_add e29 i22 (⟨by decide, by decide⟩ : Iv 1 1 1) (by decide)
          have x29 : v29.toInt = j107_3.toInt + 1 := ex_add e29 i22 (⟨by decide, by decide⟩ : Iv 1 1 1) (by decide)
          refine lv_iinc (v := v29) (lv' := [(3, .int v29), (2, .int v28), (0, .ref a0), (1, .int a1)]) hx hb dX11_count_130 hl (k := 3) rfl (by rw [e29]; rfl) (by decide) rfl (fun ls hl => ?_)
          refine lv_goto (tgt := 107) hx hb dX11_count_133 (by decide) ?_
          exact ih_107 v28 v29 (iv_w i29 (by decide)) (ms_up x29 (by decide) (iv_w (a' := 0) (b' := 6) i29 (by decide)).2 hn_107) σ_107 _ _ hw fr _ (lv_sub hl [2, 3, 1, 0] rfl)
    exact J_107 _ 0 0 (iv_w (⟨by decide, by decide⟩ : Iv 0 0 0) (by decide)) (Nat.lt_succ_self _) σ1 _ _ hw fr _ (lv_sub hl [2, 3, 1, 0] rfl)
  by_cases q30 : a1 = 6
  · --
    refine lv_tableIn (tgt := 138) hx hb dX11_count_8 (by rw [q30]; decide) (by rw [q30]; decide) (by rw [q30]; rfl) (by decide) ?_
    have i31 : Iv a1 6 6 := iv_eq1 q30 (iv_top a1) (⟨by decide, by decide⟩ : Iv 6 6 6) (by decide)
    refine lv_aload_n hx hb dX11_count_138 rfl (lv_at hl 1 rfl) ?_
    refine g_640 cx hw ha0 k_f_X11_9 dX11_count_139 (fun v32 e32 h32 => ?_)
    refine lv_sipush (v := 333) hx hb dX11_count_142 (by decide) ?_
    refine o_iald cx hw h32 (by decide) rfl (iv_in (⟨by decide, by decide⟩ : Iv 333 333 333) (by decide)) dX11_count_145 (fun v33 e33 b33 => ?_)
    rw [← hQ]
    exact o_ri cx rx hw dX11_count_146 fr
  by_cases q34 : a1 = 7
  · --
    refine lv_tableIn (tgt := 147) hx hb dX11_count_8 (by rw [q34]; decide) (by rw [q34]; decide) (by rw [q34]; rfl) (by decide) ?_
    have i35 : Iv a1 7 7 := iv_eq1 q34 (iv_top a1) (⟨by decide, by decide⟩ : Iv 7 7 7) (by decide)
    refine lv_aload_n hx hb dX11_count_147 rfl (lv_at hl 1 rfl) ?_
    refine g_650 cx hw ha0 k_f_X11_25 dX11_count_148 (fun v36 e36 => ?_)
    rw [← hQ]
    exact o_ri cx rx hw dX11_count_151 fr
  by_cases q37 : a1 = 8
  · --
    refine lv_tableIn (tgt := 152) hx hb dX11_count_8 (by rw [q37]; decide) (by rw [q37]; decide) (by rw [q37]; rfl) (by decide) ?_
    have i38 : Iv a1 8 8 := iv_eq1 q37 (iv_top a1) (⟨by decide, by decide⟩ : Iv 8 8 8) (by decide)
    refine lv_aload_n hx hb dX11_count_152 rfl (lv_at hl 1 rfl) ?_
    refine g_651 cx hw ha0 k_f_X11_29 dX11_count_153 (fun v39 e39 i39 => ?_)
    rw [← hQ]
    exact o_ri cx rx hw dX11_count_156 fr
  by_cases q40 : a1 = 9
  · --
    refine lv_tableIn (tgt := 157) hx hb dX11_count_8 (by rw [q40]; decide) (by rw [q40]; decide) (by rw [q40]; rfl) (by decide) ?_
    have i41 : Iv a1 9 9 := iv_eq1 q40 (iv_top a1) (⟨by decide, by decide⟩ : Iv 9 9 9) (by decide)
    refine lv_iconst (v := 0) hx hb dX11_count_157 (by decide) ?_
    refine lv_istore_n (lv' := [(3, .int 0), (2, .int 0), (0, .ref a0), (1, .int a1)]) hx hb dX11_count_158 rfl hl (by decide) rfl (fun ls hl => ?_)
    have J_159 : ∀ n : Nat, ∀ (j159_2 : Int32) (j159_3 : Int32) (ij159_3 : Iv j159_3 0 64), (64 - j159_3.toInt).toNat < n → ∀ (σ_159 : oSt) (H : Heap) (locs : List Loc), oI A L τ cy D s.heap σ_159 H locs → oFr τ fs_X11_count ts_X11_count σ σ_159 → ∀ (ls : Array Slot), lv_has ls 4 [(0, .ref a0), (1, .int a1), (2, .int j159_2), (3, .int j159_3)] → W p l e ({ frames := 0, cells := 0, slots := 0, locals := 0 } : Room) s m args below meth c H locs 0 0 Q (F0 m 159 ls []) := by
      intro n
      induction n with
      | zero => intro j159_2 j159_3 ij159_3 hn_159  σ_159 H locs hw fr   ls hl; exact absurd hn_159 (Nat.not_lt_zero _)
      | succ n ih_159 =>
        intro j159_2 j159_3 ij159_3 hn_159  σ_159 H locs hw fr   ls hl
        refine lv_iload_n hx hb dX11_count_159 rfl (lv_at hl 3 rfl) ?_
        refine lv_bipush (v := 64) hx hb dX11_count_160 (by decide) ?_
        refine lv_icmp_ge (tgt := 182) hx hb dX11_count_162 (by decide) (fun c42 => ?_) (fun c42 => ?_)
        · --
          have i43 : Iv j159_3 64 64 := iv_le2 c42 (⟨by decide, by decide⟩ : Iv 64 64 64) ij159_3 (by decide)
          refine lv_iload_n hx hb dX11_count_182 rfl (lv_at hl 2 rfl) ?_
          rw [← hQ]
          exact o_ri cx rx hw dX11_count_183 fr
        · --
          have i44 : Iv j159_3 0 63 := iv_lt1 (iv_nle c42) ij159_3 (⟨by decide, by decide⟩ : Iv 64 64 64) (by decide)
          refine lv_iload_n hx hb dX11_count_165 rfl (lv_at hl 2 rfl) ?_
          refine lv_aload_n hx hb dX11_count_166 rfl (lv_at hl 0 rfl) ?_
          refine g_640 cx hw ha0 k_f_X11_9 dX11_count_167 (fun v45 e45 h45 => ?_)
          refine lv_iconst (v := 0) hx hb dX11_count_170 (by decide) ?_
          refine lv_iload_n hx hb dX11_count_171 rfl (lv_at hl 3 rfl) ?_
          refine lv_iadd hx hb dX11_count_172 ?_
          refine lv_topi (fun v46 e46 => ?_)
          have i46 : Iv v46 0 63 := iv_add e46 (⟨by decide, by decide⟩ : Iv 0 0 0) i44 (by decide)
          have x46 : v46.toInt = j159_3.toInt + 0 := (ex_add e46 (⟨by decide, by decide⟩ : Iv 0 0 0) i44 (by decide)).trans (Int.add_comm _ _)
          refine o_iald cx hw h45 (by decide) rfl (iv_in i46 (by decide)) dX11_count_173 (fun v47 e47 b47 => ?_)
          refine lv_iadd hx hb dX11_count_174 ?_
          refine lv_topi (fun v48 e48 => ?_)
          refine lv_istore_n (lv' := [(2, .int v48), (0, .ref a0), (1, .int a1), (3, .int j159_3)]) hx hb dX11_count_175 rfl hl (by decide) rfl (fun ls hl => ?_)
          obtain ⟨v49, e49⟩ : ∃ y : Int32, y = j159_3 + 1 := ⟨_, rfl⟩
          have i49 : Iv v49 1 64 := iv_add e49 i44 (⟨by decide, by decide⟩ : Iv 1 1 1) (by decide)
          have x49 : v49.toInt = j159_3.toInt + 1 := ex_add e49 i44 (⟨by decide, by decide⟩ : Iv 1 1 1) (by decide)
          refine lv_iinc (v := v49) (lv' := [(3, .int v49), (2, .int v48), (0, .ref a0), (1, .int a1)]) hx hb dX11_count_176 hl (k := 3) rfl (by rw [e49]; rfl) (by decide) rfl (fun ls hl => ?_)
          refine lv_goto (tgt := 159) hx hb dX11_count_179 (by decide) ?_
          exact ih_159 v48 v49 (iv_w i49 (by decide)) (ms_up x49 (by decide) (iv_w (a' := 0) (b' := 64) i49 (by decide)).2 hn_159) σ_159 _ _ hw fr _ (lv_sub hl [2, 3, 1, 0] rfl)
    exact J_159 _ 0 0 (iv_w (⟨by decide, by decide⟩ : Iv 0 0 0) (by decide)) (Nat.lt_succ_self _) σ1 _ _ hw fr _ (lv_sub hl [2, 3, 1, 0] rfl)
  by_cases q50 : a1 = 10
  · --
    refine lv_tableIn (tgt := 184) hx hb dX11_count_8 (by rw [q50]; decide) (by rw [q50]; decide) (by rw [q50]; rfl) (by decide) ?_
    have i51 : Iv a1 10 10 := iv_eq1 q50 (iv_top a1) (⟨by decide, by decide⟩ : Iv 10 10 10) (by decide)
    refine lv_aload_n hx hb dX11_count_184 rfl (lv_at hl 1 rfl) ?_
    refine g_672 cx hw ha0 k_f_X11_168 dX11_count_185 (fun v52 e52 i52 => ?_)
    rw [← hQ]
    exact o_ri cx rx hw dX11_count_188 fr
  by_cases q53 : a1 = 11
  · --
    refine lv_tableIn (tgt := 189) hx hb dX11_count_8 (by rw [q53]; decide) (by rw [q53]; decide) (by rw [q53]; rfl) (by decide) ?_
    have i54 : Iv a1 11 11 := iv_eq1 q53 (iv_top a1) (⟨by decide, by decide⟩ : Iv 11 11 11) (by decide)
    refine lv_aload_n hx hb dX11_count_189 rfl (lv_at hl 1 rfl) ?_
    refine g_657 cx hw ha0 k_f_X11_92 dX11_count_190 (fun v55 e55 i55 => ?_)
    rw [← hQ]
    exact o_ri cx rx hw dX11_count_193 fr
  by_cases q56 : a1 = 12
  · --
    refine lv_tableIn (tgt := 194) hx hb dX11_count_8 (by rw [q56]; decide) (by rw [q56]; decide) (by rw [q56]; rfl) (by decide) ?_
    have i57 : Iv a1 12 12 := iv_eq1 q56 (iv_top a1) (⟨by decide, by decide⟩ : Iv 12 12 12) (by decide)
    refine lv_aload_n hx hb dX11_count_194 rfl (lv_at hl 1 rfl) ?_
    refine g_655 cx hw ha0 k_f_X11_108 dX11_count_195 (fun v58 e58 i58 => ?_)
    rw [← hQ]
    exact o_ri cx rx hw dX11_count_198 fr
  have q2 := iv_nt q2 (k := 0) (by decide)
  have q5 := iv_nt q5 (k := 1) (by decide)
  have q8 := iv_nt q8 (k := 2) (by decide)
  have q11 := iv_nt q11 (k := 3) (by decide)
  have q15 := iv_nt q15 (k := 4) (by decide)
  have q18 := iv_nt q18 (k := 5) (by decide)
  have q30 := iv_nt q30 (k := 6) (by decide)
  have q34 := iv_nt q34 (k := 7) (by decide)
  have q37 := iv_nt q37 (k := 8) (by decide)
  have q40 := iv_nt q40 (k := 9) (by decide)
  have q50 := iv_nt q50 (k := 10) (by decide)
  have q53 := iv_nt q53 (k := 11) (by decide)
  have q56 := iv_nt q56 (k := 12) (by decide)
  refine lv_tableOut (tgt := 199) hx hb dX11_count_8 (by omega) (by decide) ?_
  refine lv_iconst (v := (-1)) hx hb dX11_count_199 (by decide) ?_
  rw [← hQ]
  exact o_ri cx rx hw dX11_count_200 fr
end OM
