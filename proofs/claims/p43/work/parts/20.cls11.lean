section OM
variable {l : Launch} {A : Nat → Prop} {L : List Nat} {τ : Nat → Nat} {cy : Nat → ClassId} {D : va_G} {K : (Nat → Nat) × (Nat → Nat)} {σ : oSt}
set_option maxHeartbeats 4000000 in
set_option maxRecDepth 100000 in
theorem c_X11_refusesGate (a0 : Nat) (ha0 : oA L τ a0 10) (a1 : Int32) (a2 : Int32) : oMet l A L τ cy D K yX11_refusesGate cX11_refusesGate 3 (some .int) 1 24 [.ref a0, .int a1, .int a2] σ (va_Qi (fun r σ1 => σ1 = σ ∧ Iv r (-2) 0 ∧ (0 ≤ r → Iv a1 0 5)) (oPo A L τ cy D) A) := by
  refine oMk (by decide) (Nat.le_of_ble_eq_true rfl) rfl ?_
  intro p e s m args below meth c ls cx rx hA hw hl
  generalize hQ : MQ below _ args s 0 0 A = Q
  have hx := cx.1.1
  have hb := cx.1.2.1
  have hml := cx.1.2.2.1
  have hown := cx.1.2.2.2.1
  have hts := cx.1.2.2.2.2
  have hl : lv_has ls 3 [(0, .ref a0), (1, .int a1), (2, .int a2)] := hl
  refine lv_iload_n hx hb dX11_refusesGate_0 rfl (lv_at hl 1 rfl) ?_
  refine lv_iconst (v := 0) hx hb dX11_refusesGate_1 (by decide) ?_
  refine lv_aload_n hx hb dX11_refusesGate_2 rfl (lv_at hl 0 rfl) ?_
  refine g_645 cx hw ha0 k_f_X11_154 dX11_refusesGate_3 (fun v1 e1 i1 => ?_)
  refine lv_iconst (v := 1) hx hb dX11_refusesGate_6 (by decide) ?_
  refine lv_isub hx hb dX11_refusesGate_7 ?_
  refine lv_topi (fun v2 e2 => ?_)
  have i2 : Iv v2 (-1) 5 := iv_sub e2 i1 (⟨by decide, by decide⟩ : Iv 1 1 1) (by decide)
  have x2 : v2.toInt = v1.toInt + (-1) := ex_sub e2 i1 (⟨by decide, by decide⟩ : Iv 1 1 1) (by decide)
  refine o_ci hw (oRunS cx hA hw q_X11_in k_m_X11_95 (As := [.int a1, .int 0, .int v2]) (c_X11_in a1 0 v2) (by decide) rfl hl.1 rfl (Nat.le_of_ble_eq_true rfl) dX11_refusesGate_8 (by decide)) (fun v4 σ3 H locs hp hw => ?_)
  obtain ⟨p4_0, p4_1, p4_2, p4_3, p4_4, p4_5⟩ := hp
  rw [p4_0] at hw
  refine lv_if_eq (tgt := 23) hx hb dX11_refusesGate_11 (by decide) (fun c5 => ?_) (fun c5 => ?_)
  · --
    have i6 : Iv v4 0 0 := iv_eq1 c5 p4_1 (⟨by decide, by decide⟩ : Iv 0 0 0) (by decide)
    refine lv_iconst (v := (-1)) hx hb dX11_refusesGate_23 (by decide) ?_
    rw [← hQ]
    exact o_ri cx rx hw dX11_refusesGate_24 ⟨rfl, (iv_w (⟨by decide, by decide⟩ : Iv (-1) (-1) (-1)) (by decide)), (fun h => iv_no (iv_le1 (b' := -1) h (⟨by decide, by decide⟩ : Iv 0 0 0) (⟨by decide, by decide⟩ : Iv (-1) (-1) (-1)) (by decide)) (by decide))⟩
  · --
    have i7 : Iv v4 1 1 := iv_ne1 c5 p4_1 (⟨by decide, by decide⟩ : Iv 0 0 0) (by decide)
    have l8 : a1.toInt ≤ v2.toInt + 0 := le_of (p4_2 c5).2
    have i9 : Iv a1 0 5 := (fun h => iv_rel (p4_2 h) (⟨by decide, by decide⟩ : Iv 0 0 0) i2) c5
    refine lv_iload_n hx hb dX11_refusesGate_14 rfl (lv_at hl 2 rfl) ?_
    refine lv_iconst (v := 0) hx hb dX11_refusesGate_15 (by decide) ?_
    refine lv_iconst (v := 1) hx hb dX11_refusesGate_16 (by decide) ?_
    refine o_ci hw (oRunS cx hA hw q_X11_in k_m_X11_95 (As := [.int a2, .int 0, .int 1]) (c_X11_in a2 0 1) (by decide) rfl hl.1 rfl (Nat.le_of_ble_eq_true rfl) dX11_refusesGate_17 (by decide)) (fun v11 σ10 H locs hp hw => ?_)
    obtain ⟨p11_0, p11_1, p11_2, p11_3, p11_4, p11_5⟩ := hp
    rw [p11_0] at hw
    refine lv_if_ne (tgt := 25) hx hb dX11_refusesGate_20 (by decide) (fun c12 => ?_) (fun c12 => ?_)
    · --
      have i13 : Iv v11 1 1 := iv_ne1 c12 p11_1 (⟨by decide, by decide⟩ : Iv 0 0 0) (by decide)
      have i14 : Iv a2 0 1 := (fun h => iv_rel (p11_2 h) (⟨by decide, by decide⟩ : Iv 0 0 0) (⟨by decide, by decide⟩ : Iv 1 1 1)) c12
      refine lv_aload_n hx hb dX11_refusesGate_25 rfl (lv_at hl 0 rfl) ?_
      refine lv_aload_n hx hb dX11_refusesGate_26 rfl (lv_at hl 0 rfl) ?_
      refine g_640 cx hw ha0 k_f_X11_9 dX11_refusesGate_27 (fun v15 e15 h15 => ?_)
      refine lv_aload_n hx hb dX11_refusesGate_30 rfl (lv_at hl 0 rfl) ?_
      refine g_646 cx hw ha0 k_f_X11_19 dX11_refusesGate_31 (fun v16 e16 h16 => ?_)
      refine lv_iload_n hx hb dX11_refusesGate_34 rfl (lv_at hl 1 rfl) ?_
      refine o_iald cx hw h16 (by decide) rfl (iv_in i9 (by decide)) dX11_refusesGate_35 (fun v17 e17 b17 => ?_)
      have i18 : Iv (σ.1 647 a0) 0 6 := o_fb (j := 647) hw ha0 rfl
      refine o_ci hw (oRunV cx hA hw q_X11_herdsAt k_m_X11_233 rfl ha0 (by decide) (As := [.ref v15, .int v17]) (c_X11_herdsAt a0 ha0 v15 h15 v17) (by decide) rfl hl.1 rfl (Nat.le_of_ble_eq_true rfl) dX11_refusesGate_36 (by decide)) (fun v20 σ19 H locs hp hw => ?_)
      obtain ⟨p20_0, p20_1, p20_2⟩ := hp
      rw [p20_0] at hw
      refine lv_if_ne (tgt := 46) hx hb dX11_refusesGate_39 (by decide) (fun c21 => ?_) (fun c21 => ?_)
      · --
        have i22 : Iv v20 1 63 := iv_ne1 c21 p20_1 (⟨by decide, by decide⟩ : Iv 0 0 0) (by decide)
        refine lv_bipush (v := (-2)) hx hb dX11_refusesGate_46 (by decide) ?_
        rw [← hQ]
        exact o_ri cx rx hw dX11_refusesGate_48 ⟨rfl, (iv_w (⟨by decide, by decide⟩ : Iv (-2) (-2) (-2)) (by decide)), (fun h => iv_no (iv_le1 (b' := -1) h (⟨by decide, by decide⟩ : Iv 0 0 0) (⟨by decide, by decide⟩ : Iv (-2) (-2) (-2)) (by decide)) (by decide))⟩
      · --
        have i23 : Iv v20 0 0 := iv_eq1 c21 p20_1 (⟨by decide, by decide⟩ : Iv 0 0 0) (by decide)
        refine lv_iconst (v := 0) hx hb dX11_refusesGate_42 (by decide) ?_
        refine lv_goto (tgt := 48) hx hb dX11_refusesGate_43 (by decide) ?_
        rw [← hQ]
        exact o_ri cx rx hw dX11_refusesGate_48 ⟨rfl, (iv_w (⟨by decide, by decide⟩ : Iv 0 0 0) (by decide)), (fun _ => iv_w i9 (by decide))⟩
    · --
      have i24 : Iv v11 0 0 := iv_eq1 c12 p11_1 (⟨by decide, by decide⟩ : Iv 0 0 0) (by decide)
      refine lv_iconst (v := (-1)) hx hb dX11_refusesGate_23 (by decide) ?_
      rw [← hQ]
      exact o_ri cx rx hw dX11_refusesGate_24 ⟨rfl, (iv_w (⟨by decide, by decide⟩ : Iv (-1) (-1) (-1)) (by decide)), (fun h => iv_no (iv_le1 (b' := -1) h (⟨by decide, by decide⟩ : Iv 0 0 0) (⟨by decide, by decide⟩ : Iv (-1) (-1) (-1)) (by decide)) (by decide))⟩
abbrev fs_X11_goGate : List Nat := []
abbrev ts_X11_goGate : List Nat := [48]
set_option maxHeartbeats 4000000 in
set_option maxRecDepth 100000 in
theorem c_X11_goGate (a0 : Nat) (ha0 : oA L τ a0 10) (a1 : Int32) (ia1 : Iv a1 0 5) (a2 : Int32) : oMet l A L τ cy D K yX11_goGate cX11_goGate 4 (some .int) 0 0 [.ref a0, .int a1, .int a2] σ (va_Qi (fun r σ1 => oFr τ fs_X11_goGate ts_X11_goGate σ σ1 ∧ Iv r 0 1) (oPo A L τ cy D) A) := by
  refine oMk (by decide) (Nat.le_of_ble_eq_true rfl) rfl ?_
  intro p e s m args below meth c ls cx rx hA hw hl
  generalize hQ : MQ below _ args s 0 0 A = Q
  have hx := cx.1.1
  have hb := cx.1.2.1
  have hml := cx.1.2.2.1
  have hown := cx.1.2.2.2.1
  have hts := cx.1.2.2.2.2
  have hl : lv_has ls 4 [(0, .ref a0), (1, .int a1), (2, .int a2)] := hl
  have fr : oFr τ fs_X11_goGate ts_X11_goGate σ σ := oFr_rf
  refine lv_aload_n hx hb dX11_goGate_0 rfl (lv_at hl 0 rfl) ?_
  refine g_640 cx hw ha0 k_f_X11_9 dX11_goGate_1 (fun v1 e1 h1 => ?_)
  refine lv_sipush (v := 332) hx hb dX11_goGate_4 (by decide) ?_
  refine o_iald cx hw h1 (by decide) rfl (iv_in (⟨by decide, by decide⟩ : Iv 332 332 332) (by decide)) dX11_goGate_7 (fun v2 e2 b2 => ?_)
  refine lv_iload_n hx hb dX11_goGate_8 rfl (lv_at hl 1 rfl) ?_
  refine lv_ishr hx hb dX11_goGate_9 ?_
  refine lv_topi (fun v3 e3 => ?_)
  refine lv_iconst (v := 1) hx hb dX11_goGate_10 (by decide) ?_
  refine lv_iand hx hb dX11_goGate_11 ?_
  refine lv_topi (fun v4 e4 => ?_)
  have i4 : Iv v4 0 1 := iv_and e4 (⟨by decide, by decide⟩ : Iv 1 1 1) (by decide)
  refine lv_istore_n (lv' := [(3, .int v4), (0, .ref a0), (1, .int a1), (2, .int a2)]) hx hb dX11_goGate_12 rfl hl (by decide) rfl (fun ls hl => ?_)
  refine lv_aload_n hx hb dX11_goGate_13 rfl (lv_at hl 1 rfl) ?_
  refine g_640 cx hw ha0 k_f_X11_9 dX11_goGate_14 (fun v5 e5 h5 => ?_)
  rw [show v5 = v1 from Option.some.inj (e5.symm.trans (e1))]
  refine lv_sipush (v := 332) hx hb dX11_goGate_17 (by decide) ?_
  refine lv_aload_n hx hb dX11_goGate_20 rfl (lv_at hl 1 rfl) ?_
  refine g_640 cx hw ha0 k_f_X11_9 dX11_goGate_21 (fun v6 e6 h6 => ?_)
  rw [show v6 = v1 from Option.some.inj (e6.symm.trans (e1))]
  refine lv_sipush (v := 332) hx hb dX11_goGate_24 (by decide) ?_
  refine o_iald cx hw h1 (by decide) rfl (iv_in (⟨by decide, by decide⟩ : Iv 332 332 332) (by decide)) dX11_goGate_27 (fun v7 e7 b7 => ?_)
  refine lv_iconst (v := 1) hx hb dX11_goGate_28 (by decide) ?_
  refine lv_iload_n hx hb dX11_goGate_29 rfl (lv_at hl 2 rfl) ?_
  refine lv_ishl hx hb dX11_goGate_30 ?_
  refine lv_topi (fun v8 e8 => ?_)
  have i8 : Iv v8 1 32 := iv_shl1 e8 ia1 (by decide)
  refine lv_iconst (v := (-1)) hx hb dX11_goGate_31 (by decide) ?_
  refine lv_ixor hx hb dX11_goGate_32 ?_
  refine lv_topi (fun v9 e9 => ?_)
  refine lv_iand hx hb dX11_goGate_33 ?_
  refine lv_topi (fun v10 e10 => ?_)
  refine lv_iload_n hx hb dX11_goGate_34 rfl (lv_at hl 3 rfl) ?_
  refine lv_iload_n hx hb dX11_goGate_35 rfl (lv_at hl 2 rfl) ?_
  refine lv_ishl hx hb dX11_goGate_36 ?_
  refine lv_topi (fun v11 e11 => ?_)
  refine lv_ior hx hb dX11_goGate_37 ?_
  refine lv_topi (fun v12 e12 => ?_)
  refine o_iast cx hw h1 (by decide) rfl (iv_in (⟨by decide, by decide⟩ : Iv 332 332 332) (by decide)) (rb_hi (⟨by decide, by decide⟩ : Iv 332 332 332) (by decide)) dX11_goGate_38 (fun σ13 H locs eσ13 hw => ?_)
  have fr := oFr_p fr eσ13 h1 (by decide)
  refine lv_iload_n hx hb dX11_goGate_39 rfl (lv_at hl 0 rfl) ?_
  rw [← hQ]
  exact o_ri cx rx hw dX11_goGate_40 ⟨fr, (iv_w i4 (by decide))⟩
set_option maxHeartbeats 4000000 in
set_option maxRecDepth 100000 in
theorem c_X11_refusesDrive (a0 : Nat) (ha0 : oA L τ a0 10) (a1 : Int32) (a2 : Int32) : oMet l A L τ cy D K yX11_refusesDrive cX11_refusesDrive 4 (some .int) 2 46 [.ref a0, .int a1, .int a2] σ (va_Qi (fun r σ1 => σ1 = σ ∧ Iv r (-2) 0 ∧ (0 ≤ r → Iv a1 0 5) ∧ (0 ≤ r → Iv a2 0 63)) (oPo A L τ cy D) A) := by
  refine oMk (by decide) (Nat.le_of_ble_eq_true rfl) rfl ?_
  intro p e s m args below meth c ls cx rx hA hw hl
  generalize hQ : MQ below _ args s 0 0 A = Q
  have hx := cx.1.1
  have hb := cx.1.2.1
  have hml := cx.1.2.2.1
  have hown := cx.1.2.2.2.1
  have hts := cx.1.2.2.2.2
  have hl : lv_has ls 4 [(0, .ref a0), (1, .int a1), (2, .int a2)] := hl
  refine lv_aload_n hx hb dX11_refusesDrive_0 rfl (lv_at hl 0 rfl) ?_
  refine lv_iload_n hx hb dX11_refusesDrive_1 rfl (lv_at hl 1 rfl) ?_
  refine o_ci hw (oRunV cx hA hw q_X11_isHerd k_m_X11_237 rfl ha0 (by decide) (As := [.int a1]) (c_X11_isHerd a0 ha0 a1) (by decide) rfl hl.1 rfl (Nat.le_of_ble_eq_true rfl) dX11_refusesDrive_2 (by decide)) (fun v2 σ1 H locs hp hw => ?_)
  obtain ⟨p2_0, p2_1, p2_2⟩ := hp
  rw [p2_0] at hw
  refine lv_if_eq (tgt := 16) hx hb dX11_refusesDrive_5 (by decide) (fun c3 => ?_) (fun c3 => ?_)
  · --
    have i4 : Iv v2 0 0 := iv_eq1 c3 p2_1 (⟨by decide, by decide⟩ : Iv 0 0 0) (by decide)
    refine lv_iconst (v := (-1)) hx hb dX11_refusesDrive_16 (by decide) ?_
    rw [← hQ]
    exact o_ri cx rx hw dX11_refusesDrive_17 ⟨rfl, (iv_w (⟨by decide, by decide⟩ : Iv (-1) (-1) (-1)) (by decide)), (fun h => iv_no (iv_le1 (b' := -1) h (⟨by decide, by decide⟩ : Iv 0 0 0) (⟨by decide, by decide⟩ : Iv (-1) (-1) (-1)) (by decide)) (by decide)), (fun h => iv_no (iv_le1 (b' := -1) h (⟨by decide, by decide⟩ : Iv 0 0 0) (⟨by decide, by decide⟩ : Iv (-1) (-1) (-1)) (by decide)) (by decide))⟩
  · --
    have i5 : Iv v2 1 1 := iv_ne1 c3 p2_1 (⟨by decide, by decide⟩ : Iv 0 0 0) (by decide)
    have i6 : Iv a1 0 5 := p2_2 c3
    refine lv_aload_n hx hb dX11_refusesDrive_8 rfl (lv_at hl 0 rfl) ?_
    refine lv_iload_n hx hb dX11_refusesDrive_9 rfl (lv_at hl 2 rfl) ?_
    have i7 : Iv (σ.1 641 a0) 0 8 := o_fb (j := 641) hw ha0 rfl
    have i8 : Iv (σ.1 642 a0) 0 8 := o_fb (j := 642) hw ha0 rfl
    refine o_ci hw (oRunV cx hA hw q_X11_isCell k_m_X11_157 rfl ha0 (by decide) (As := [.int a2]) (c_X11_isCell a0 ha0 a2) (by decide) rfl hl.1 rfl (Nat.le_of_ble_eq_true rfl) dX11_refusesDrive_10 (by decide)) (fun v10 σ9 H locs hp hw => ?_)
    obtain ⟨p10_0, p10_1, p10_2, p10_3⟩ := hp
    rw [p10_0] at hw
    refine lv_if_ne (tgt := 18) hx hb dX11_refusesDrive_13 (by decide) (fun c11 => ?_) (fun c11 => ?_)
    · --
      have i12 : Iv v10 1 1 := iv_ne1 c11 p10_1 (⟨by decide, by decide⟩ : Iv 0 0 0) (by decide)
      have i13 : Iv a2 0 63 := p10_2 c11
      refine lv_iconst (v := 0) hx hb dX11_refusesDrive_18 (by decide) ?_
      refine lv_istore_n (lv' := [(3, .int 0), (0, .ref a0), (1, .int a1), (2, .int a2)]) hx hb dX11_refusesDrive_19 rfl hl (by decide) rfl (fun ls hl => ?_)
      have J_20 : ∀ n20 : Nat, ∀ (j20_3 : Int32) (ij20_3 : Iv j20_3 0 4), ∀ (H : Heap) (locs : List Loc), oI A L τ cy D s.heap σ H locs → (4 - j20_3.toInt).toNat < n20 → ∀ (ls : Array Slot), lv_has ls 4 [(0, .ref a0), (1, .int a1), (2, .int a2), (3, .int j20_3)] → W p l e ({ frames := 2, cells := 0, slots := 0, locals := 46 } : Room) s m args below meth c H locs 0 0 Q (F0 m 20 ls []) := by
        intro n20
        induction n20 with
        | zero => intro j20_3 ij20_3 H locs hw  hn_20   ls hl; exact absurd hn_20 (Nat.not_lt_zero _)
        | succ n20 ih_20 =>
          intro j20_3 ij20_3 H locs hw  hn_20   ls hl
          refine lv_iload_n hx hb dX11_refusesDrive_20 rfl (lv_at hl 3 rfl) ?_
          refine lv_iconst (v := 4) hx hb dX11_refusesDrive_21 (by decide) ?_
          refine lv_icmp_ge (tgt := 69) hx hb dX11_refusesDrive_22 (by decide) (fun c14 => ?_) (fun c14 => ?_)
          · --
            have i15 : Iv j20_3 4 4 := iv_le2 c14 (⟨by decide, by decide⟩ : Iv 4 4 4) ij20_3 (by decide)
            refine lv_bipush (v := (-2)) hx hb dX11_refusesDrive_69 (by decide) ?_
            rw [← hQ]
            exact o_ri cx rx hw dX11_refusesDrive_71 ⟨rfl, (iv_w (⟨by decide, by decide⟩ : Iv (-2) (-2) (-2)) (by decide)), (fun h => iv_no (iv_le1 (b' := -1) h (⟨by decide, by decide⟩ : Iv 0 0 0) (⟨by decide, by decide⟩ : Iv (-2) (-2) (-2)) (by decide)) (by decide)), (fun h => iv_no (iv_le1 (b' := -1) h (⟨by decide, by decide⟩ : Iv 0 0 0) (⟨by decide, by decide⟩ : Iv (-2) (-2) (-2)) (by decide)) (by decide))⟩
          · --
            have i16 : Iv j20_3 0 3 := iv_lt1 (iv_nle c14) ij20_3 (⟨by decide, by decide⟩ : Iv 4 4 4) (by decide)
            refine lv_aload_n hx hb dX11_refusesDrive_25 rfl (lv_at hl 0 rfl) ?_
            refine lv_aload_n hx hb dX11_refusesDrive_26 rfl (lv_at hl 0 rfl) ?_
            refine g_640 cx hw ha0 k_f_X11_9 dX11_refusesDrive_27 (fun v17 e17 h17 => ?_)
            refine lv_sipush (v := 320) hx hb dX11_refusesDrive_30 (by decide) ?_
            refine lv_iload_n hx hb dX11_refusesDrive_33 rfl (lv_at hl 1 rfl) ?_
            refine lv_iadd hx hb dX11_refusesDrive_34 ?_
            refine lv_topi (fun v18 e18 => ?_)
            have i18 : Iv v18 320 325 := iv_add e18 (⟨by decide, by decide⟩ : Iv 320 320 320) i6 (by decide)
            have x18 : v18.toInt = a1.toInt + 320 := (ex_add e18 (⟨by decide, by decide⟩ : Iv 320 320 320) i6 (by decide)).trans (Int.add_comm _ _)
            refine o_iald cx hw h17 (by decide) rfl (iv_in i18 (by decide)) dX11_refusesDrive_35 (fun v19 e19 b19 => ?_)
            have i19 : Iv v19 0 63 := rb_now b19 i18 (by decide)
            refine lv_iload_n hx hb dX11_refusesDrive_36 rfl (lv_at hl 3 rfl) ?_
            refine o_ci hw (oRunV cx hA hw q_X11_beside k_m_X11_223 rfl ha0 (by decide) (As := [.int v19, .int j20_3]) (c_X11_beside a0 ha0 v19 (iv_w i19 (by decide)) j20_3) (by decide) rfl hl.1 rfl (Nat.le_of_ble_eq_true rfl) dX11_refusesDrive_37 (by decide)) (fun v21 σ20 H locs hp hw => ?_)
            obtain ⟨p21_0, p21_1, p21_2⟩ := hp
            rw [p21_0] at hw
            refine lv_iload_n hx hb dX11_refusesDrive_40 rfl (lv_at hl 2 rfl) ?_
            refine lv_icmp_ne (tgt := 63) hx hb dX11_refusesDrive_41 (by decide) (fun c22 => ?_) (fun c22 => ?_)
            · --
              obtain ⟨v23, e23⟩ : ∃ y : Int32, y = j20_3 + 1 := ⟨_, rfl⟩
              have i23 : Iv v23 1 4 := iv_add e23 i16 (⟨by decide, by decide⟩ : Iv 1 1 1) (by decide)
              have x23 : v23.toInt = j20_3.toInt + 1 := ex_add e23 i16 (⟨by decide, by decide⟩ : Iv 1 1 1) (by decide)
              refine lv_iinc (v := v23) (lv' := [(3, .int v23), (0, .ref a0), (1, .int a1), (2, .int a2)]) hx hb dX11_refusesDrive_63 hl (k := 3) rfl (by rw [e23]; rfl) (by decide) rfl (fun ls hl => ?_)
              refine lv_goto (tgt := 20) hx hb dX11_refusesDrive_66 (by decide) ?_
              exact ih_20 v23 (iv_w i23 (by decide)) _ _ hw (ms_up x23 (by decide) (iv_w (a' := 0) (b' := 4) i23 (by decide)).2 hn_20) _ (lv_sub hl [1, 2, 3, 0] rfl)
            · --
              have i24 : Iv v21 0 63 := iv_eq1 c22 p21_1 i13 (by decide)
              refine lv_aload_n hx hb dX11_refusesDrive_44 rfl (lv_at hl 0 rfl) ?_
              refine lv_aload_n hx hb dX11_refusesDrive_45 rfl (lv_at hl 0 rfl) ?_
              refine g_640 cx hw ha0 k_f_X11_9 dX11_refusesDrive_46 (fun v25 e25 h25 => ?_)
              rw [show v25 = v17 from Option.some.inj (e25.symm.trans (e17))]
              refine lv_iload_n hx hb dX11_refusesDrive_49 rfl (lv_at hl 2 rfl) ?_
              refine o_ci hw (oRunV cx hA hw q_X11_canBe k_m_X11_227 rfl ha0 (by decide) (As := [.ref v17, .int a2]) (c_X11_canBe a0 ha0 v17 h17 a2 (iv_w i13 (by decide))) (by decide) rfl hl.1 rfl (Nat.le_of_ble_eq_true rfl) dX11_refusesDrive_50 (by decide)) (fun v27 σ26 H locs hp hw => ?_)
              obtain ⟨p27_0, p27_1⟩ := hp
              rw [p27_0] at hw
              refine lv_if_eq (tgt := 60) hx hb dX11_refusesDrive_53 (by decide) (fun c28 => ?_) (fun c28 => ?_)
              · --
                have i29 : Iv v27 0 0 := iv_eq1 c28 p27_1 (⟨by decide, by decide⟩ : Iv 0 0 0) (by decide)
                refine lv_bipush (v := (-2)) hx hb dX11_refusesDrive_60 (by decide) ?_
                rw [← hQ]
                exact o_ri cx rx hw dX11_refusesDrive_62 ⟨rfl, (iv_w (⟨by decide, by decide⟩ : Iv (-2) (-2) (-2)) (by decide)), (fun h => iv_no (iv_le1 (b' := -1) h (⟨by decide, by decide⟩ : Iv 0 0 0) (⟨by decide, by decide⟩ : Iv (-2) (-2) (-2)) (by decide)) (by decide)), (fun h => iv_no (iv_le1 (b' := -1) h (⟨by decide, by decide⟩ : Iv 0 0 0) (⟨by decide, by decide⟩ : Iv (-2) (-2) (-2)) (by decide)) (by decide))⟩
              · --
                have i30 : Iv v27 1 1 := iv_ne1 c28 p27_1 (⟨by decide, by decide⟩ : Iv 0 0 0) (by decide)
                refine lv_iconst (v := 0) hx hb dX11_refusesDrive_56 (by decide) ?_
                refine lv_goto (tgt := 62) hx hb dX11_refusesDrive_57 (by decide) ?_
                rw [← hQ]
                exact o_ri cx rx hw dX11_refusesDrive_62 ⟨rfl, (iv_w (⟨by decide, by decide⟩ : Iv 0 0 0) (by decide)), (fun _ => iv_w i6 (by decide)), (fun _ => iv_w i13 (by decide))⟩
      exact J_20 _ 0 (iv_w (⟨by decide, by decide⟩ : Iv 0 0 0) (by decide)) _ _ hw (Nat.lt_succ_self _) _ (lv_sub hl [1, 2, 3, 0] rfl)
    · --
      have i31 : Iv v10 0 0 := iv_eq1 c11 p10_1 (⟨by decide, by decide⟩ : Iv 0 0 0) (by decide)
      refine lv_iconst (v := (-1)) hx hb dX11_refusesDrive_16 (by decide) ?_
      rw [← hQ]
      exact o_ri cx rx hw dX11_refusesDrive_17 ⟨rfl, (iv_w (⟨by decide, by decide⟩ : Iv (-1) (-1) (-1)) (by decide)), (fun h => iv_no (iv_le1 (b' := -1) h (⟨by decide, by decide⟩ : Iv 0 0 0) (⟨by decide, by decide⟩ : Iv (-1) (-1) (-1)) (by decide)) (by decide)), (fun h => iv_no (iv_le1 (b' := -1) h (⟨by decide, by decide⟩ : Iv 0 0 0) (⟨by decide, by decide⟩ : Iv (-1) (-1) (-1)) (by decide)) (by decide))⟩
abbrev fs_X11_goDrive : List Nat := []
abbrev ts_X11_goDrive : List Nat := [48]
set_option maxHeartbeats 4000000 in
set_option maxRecDepth 100000 in
theorem c_X11_goDrive (a0 : Nat) (ha0 : oA L τ a0 10) (a1 : Int32) (ia1 : Iv a1 0 5) (a2 : Int32) (ia2 : Iv a2 0 63) : oMet l A L τ cy D K yX11_goDrive cX11_goDrive 4 (some .int) 1 21 [.ref a0, .int a1, .int a2] σ (va_Qi (fun r σ1 => oFr τ fs_X11_goDrive ts_X11_goDrive σ σ1 ∧ Iv r 0 63) (oPo A L τ cy D) A) := by
  refine oMk (by decide) (Nat.le_of_ble_eq_true rfl) rfl ?_
  intro p e s m args below meth c ls cx rx hA hw hl
  generalize hQ : MQ below _ args s 0 0 A = Q
  have hx := cx.1.1
  have hb := cx.1.2.1
  have hml := cx.1.2.2.1
  have hown := cx.1.2.2.2.1
  have hts := cx.1.2.2.2.2
  have hl : lv_has ls 4 [(0, .ref a0), (1, .int a1), (2, .int a2)] := hl
  have fr : oFr τ fs_X11_goDrive ts_X11_goDrive σ σ := oFr_rf
  refine lv_aload_n hx hb dX11_goDrive_0 rfl (lv_at hl 0 rfl) ?_
  refine g_640 cx hw ha0 k_f_X11_9 dX11_goDrive_1 (fun v1 e1 h1 => ?_)
  refine lv_sipush (v := 320) hx hb dX11_goDrive_4 (by decide) ?_
  refine lv_iload_n hx hb dX11_goDrive_7 rfl (lv_at hl 1 rfl) ?_
  refine lv_iadd hx hb dX11_goDrive_8 ?_
  refine lv_topi (fun v2 e2 => ?_)
  have i2 : Iv v2 320 325 := iv_add e2 (⟨by decide, by decide⟩ : Iv 320 320 320) ia1 (by decide)
  have x2 : v2.toInt = a1.toInt + 320 := (ex_add e2 (⟨by decide, by decide⟩ : Iv 320 320 320) ia1 (by decide)).trans (Int.add_comm _ _)
  refine o_iald cx hw h1 (by decide) rfl (iv_in i2 (by decide)) dX11_goDrive_9 (fun v3 e3 b3 => ?_)
  have i3 : Iv v3 0 63 := rb_now b3 i2 (by decide)
  refine lv_istore_n (lv' := [(3, .int v3), (0, .ref a0), (1, .int a1), (2, .int a2)]) hx hb dX11_goDrive_10 rfl hl (by decide) rfl (fun ls hl => ?_)
  refine lv_aload_n hx hb dX11_goDrive_11 rfl (lv_at hl 1 rfl) ?_
  refine g_640 cx hw ha0 k_f_X11_9 dX11_goDrive_12 (fun v4 e4 h4 => ?_)
  rw [show v4 = v1 from Option.some.inj (e4.symm.trans (e1))]
  refine lv_sipush (v := 320) hx hb dX11_goDrive_15 (by decide) ?_
  refine lv_iload_n hx hb dX11_goDrive_18 rfl (lv_at hl 2 rfl) ?_
  refine lv_iadd hx hb dX11_goDrive_19 ?_
  refine lv_topi (fun v5 e5 => ?_)
  have i5 : Iv v5 320 325 := iv_add e5 (⟨by decide, by decide⟩ : Iv 320 320 320) ia1 (by decide)
  have x5 : v5.toInt = a1.toInt + 320 := (ex_add e5 (⟨by decide, by decide⟩ : Iv 320 320 320) ia1 (by decide)).trans (Int.add_comm _ _)
  refine lv_iload_n hx hb dX11_goDrive_20 rfl (lv_at hl 3 rfl) ?_
  refine o_iast cx hw h1 (by decide) rfl (iv_in i5 (by decide)) (fun _ _ => iv_w ia2 (by decide)) dX11_goDrive_21 (fun σ6 H locs eσ6 hw => ?_)
  have fr := oFr_p fr eσ6 h1 (by decide)
  refine lv_aload_n hx hb dX11_goDrive_22 rfl (lv_at hl 1 rfl) ?_
  refine g_640 cx hw ha0 k_f_X11_9 dX11_goDrive_23 (fun v7 e7 h7 => ?_)
  rw [show v7 = v1 from Option.some.inj (e7.symm.trans (((kr_p eσ6).trans e1)))]
  refine lv_sipush (v := 326) hx hb dX11_goDrive_26 (by decide) ?_
  refine lv_iload_n hx hb dX11_goDrive_29 rfl (lv_at hl 2 rfl) ?_
  refine lv_iadd hx hb dX11_goDrive_30 ?_
  refine lv_topi (fun v8 e8 => ?_)
  have i8 : Iv v8 326 331 := iv_add e8 (⟨by decide, by decide⟩ : Iv 326 326 326) ia1 (by decide)
  have x8 : v8.toInt = a1.toInt + 326 := (ex_add e8 (⟨by decide, by decide⟩ : Iv 326 326 326) ia1 (by decide)).trans (Int.add_comm _ _)
  refine lv_iconst (v := 0) hx hb dX11_goDrive_31 (by decide) ?_
  refine o_iast cx hw h1 (by decide) rfl (iv_in i8 (by decide)) (fun _ _ => iv_w (⟨by decide, by decide⟩ : Iv 0 0 0) (by decide)) dX11_goDrive_32 (fun σ9 H locs eσ9 hw => ?_)
  have fr := oFr_p fr eσ9 h1 (by decide)
  refine lv_aload_n hx hb dX11_goDrive_33 rfl (lv_at hl 1 rfl) ?_
  refine g_640 cx hw ha0 k_f_X11_9 dX11_goDrive_34 (fun v10 e10 h10 => ?_)
  rw [show v10 = v1 from Option.some.inj (e10.symm.trans (((kr_p eσ9).trans ((kr_p eσ6).trans e1))))]
  refine lv_iload_n hx hb dX11_goDrive_37 rfl (lv_at hl 2 rfl) ?_
  refine o_cv hw (oRunS cx hA hw q_X11_tread k_m_X11_178 (As := [.ref v1, .int a1]) (c_X11_tread v1 h1 a1 (iv_w ia1 (by decide))) (by decide) rfl hl.1 rfl (Nat.le_of_ble_eq_true rfl) dX11_goDrive_38 (by decide)) (fun σ11 H locs hp hw => ?_)
  have p12_0 := hp
  have fr := oFr_tr fr p12_0 (by decide)
  refine lv_iload_n hx hb dX11_goDrive_41 rfl (lv_at hl 0 rfl) ?_
  rw [← hQ]
  exact o_ri cx rx hw dX11_goDrive_42 ⟨fr, (iv_w i3 (by decide))⟩
abbrev fs_X11_goHour : List Nat := [659, 660, 661, 662, 663, 669]
abbrev ts_X11_goHour : List Nat := [48, 55]
set_option maxHeartbeats 4000000 in
set_option maxRecDepth 100000 in
theorem c_X11_goHour (a0 : Nat) (ha0 : oA L τ a0 10) (a1 : Nat) (ha1 : oA L τ a1 48) : oMet l A L τ cy D K yX11_goHour cX11_goHour 6 (some .int) 340 8548 [.ref a0, .ref a1] σ (va_Qi (fun r σ1 => oFr τ fs_X11_goHour ts_X11_goHour σ σ1) (oPo A L τ cy D) A) := by
  refine oMk (by decide) (Nat.le_of_ble_eq_true rfl) rfl ?_
  intro p e s m args below meth c ls cx rx hA hw hl
  generalize hQ : MQ below _ args s 0 0 A = Q
  have hx := cx.1.1
  have hb := cx.1.2.1
  have hml := cx.1.2.2.1
  have hown := cx.1.2.2.2.1
  have hts := cx.1.2.2.2.2
  have hl : lv_has ls 6 [(0, .ref a0), (1, .ref a1)] := hl
  have fr : oFr τ fs_X11_goHour ts_X11_goHour σ σ := oFr_rf
  refine lv_aload_n hx hb dX11_goHour_0 rfl (lv_at hl 1 rfl) ?_
  refine lv_sipush (v := 333) hx hb dX11_goHour_1 (by decide) ?_
  refine lv_dup2_11 hx hb dX11_goHour_4 rfl rfl ?_
  refine o_iald cx hw ha1 (by decide) rfl (iv_in (⟨by decide, by decide⟩ : Iv 333 333 333) (by decide)) dX11_goHour_5 (fun v1 e1 b1 => ?_)
  refine lv_iconst (v := 1) hx hb dX11_goHour_6 (by decide) ?_
  refine lv_iadd hx hb dX11_goHour_7 ?_
  refine lv_topi (fun v2 e2 => ?_)
  refine o_iast cx hw ha1 (by decide) rfl (iv_in (⟨by decide, by decide⟩ : Iv 333 333 333) (by decide)) (rb_hi (⟨by decide, by decide⟩ : Iv 333 333 333) (by decide)) dX11_goHour_8 (fun σ3 H locs eσ3 hw => ?_)
  have fr := oFr_p fr eσ3 ha1 (by decide)
  refine lv_iconst (v := 0) hx hb dX11_goHour_9 (by decide) ?_
  refine lv_istore_n (lv' := [(2, .int 0), (0, .ref a0), (1, .ref a1)]) hx hb dX11_goHour_10 rfl hl (by decide) rfl (fun ls hl => ?_)
  refine lv_iconst (v := 0) hx hb dX11_goHour_11 (by decide) ?_
  refine lv_istore_n (lv' := [(3, .int 0), (2, .int 0), (0, .ref a0), (1, .ref a1)]) hx hb dX11_goHour_12 rfl hl (by decide) rfl (fun ls hl => ?_)
  have frE_13 := fr
  have J_13 : ∀ n13 : Nat, ∀ (j13_2 : Int32) (j13_3 : Int32) (ij13_3 : Iv j13_3 0 6), ∀ (σ_13 : oSt) (H : Heap) (locs : List Loc), oI A L τ cy D s.heap σ_13 H locs → oFr τ fs_X11_goHour ts_X11_goHour σ σ_13 → (6 - j13_3.toInt).toNat < n13 → ∀ (ls : Array Slot), lv_has ls 6 [(0, .ref a0), (1, .ref a1), (2, .int j13_2), (3, .int j13_3)] → W p l e ({ frames := 340, cells := 0, slots := 0, locals := 8548 } : Room) s m args below meth c H locs 0 0 Q (F0 m 13 ls []) := by
    intro n13
    induction n13 with
    | zero => intro j13_2 j13_3 ij13_3 σ_13 H locs hw fr   hn_13   ls hl; exact absurd hn_13 (Nat.not_lt_zero _)
    | succ n13 ih_13 =>
      intro j13_2 j13_3 ij13_3 σ_13 H locs hw fr   hn_13   ls hl
      have fr_13 := fr
      refine lv_iload_n hx hb dX11_goHour_13 rfl (lv_at hl 3 rfl) ?_
      refine lv_aload_n hx hb dX11_goHour_14 rfl (lv_at hl 0 rfl) ?_
      refine g_647 cx hw ha0 k_f_X11_105 dX11_goHour_15 (fun v4 e4 i4 => ?_)
      refine lv_icmp_ge (tgt := 141) hx hb dX11_goHour_18 (by decide) (fun c5 => ?_) (fun c5 => ?_)
      · --
        refine lv_aload_n hx hb dX11_goHour_141 rfl (lv_at hl 1 rfl) ?_
        refine lv_sipush (v := 333) hx hb dX11_goHour_142 (by decide) ?_
        refine o_iald cx hw ha1 (by decide) rfl (iv_in (⟨by decide, by decide⟩ : Iv 333 333 333) (by decide)) dX11_goHour_145 (fun v6 e6 b6 => ?_)
        refine lv_aload_n hx hb dX11_goHour_146 rfl (lv_at hl 0 rfl) ?_
        refine g_651 cx hw ha0 k_f_X11_29 dX11_goHour_147 (fun v7 e7 i7 => ?_)
        refine lv_irem hx hb dX11_goHour_150 (iv_nz i7 (by decide)) ?_
        refine lv_topi (fun v8 e8 => ?_)
        have i8 : Iv v8 (-98) 98 := iv_remA e8 i7 (by decide)
        refine lv_if_ne (tgt := 211) hx hb dX11_goHour_151 (by decide) (fun c9 => ?_) (fun c9 => ?_)
        · --
          refine lv_iload_n hx hb dX11_goHour_211 rfl (lv_at hl 2 rfl) ?_
          rw [← hQ]
          exact o_ri cx rx hw dX11_goHour_212 fr
        · --
          have i10 : Iv v8 0 0 := iv_eq1 c9 i8 (⟨by decide, by decide⟩ : Iv 0 0 0) (by decide)
          refine lv_iconst (v := 0) hx hb dX11_goHour_154 (by decide) ?_
          refine lv_istore_n (lv' := [(3, .int 0), (0, .ref a0), (1, .ref a1), (2, .int j13_2)]) hx hb dX11_goHour_155 rfl hl (by decide) rfl (fun ls hl => ?_)
          have frE_156 := fr
          have J_156 : ∀ n156 : Nat, ∀ (j156_3 : Int32) (ij156_3 : Iv j156_3 0 64), ∀ (σ_156 : oSt) (H : Heap) (locs : List Loc), oI A L τ cy D s.heap σ_156 H locs → oFr τ fs_X11_goHour ts_X11_goHour σ σ_156 → (64 - j156_3.toInt).toNat < n156 → ∀ (ls : Array Slot), lv_has ls 6 [(0, .ref a0), (1, .ref a1), (2, .int j13_2), (3, .int j156_3)] → W p l e ({ frames := 340, cells := 0, slots := 0, locals := 8548 } : Room) s m args below meth c H locs 0 0 Q (F0 m 156 ls []) := by
            intro n156
            induction n156 with
            | zero => intro j156_3 ij156_3 σ_156 H locs hw fr   hn_156   ls hl; exact absurd hn_156 (Nat.not_lt_zero _)
            | succ n156 ih_156 =>
              intro j156_3 ij156_3 σ_156 H locs hw fr   hn_156   ls hl
              have fr_156 := fr
              refine lv_iload_n hx hb dX11_goHour_156 rfl (lv_at hl 3 rfl) ?_
              refine lv_bipush (v := 64) hx hb dX11_goHour_157 (by decide) ?_
              refine lv_icmp_ge (tgt := 211) hx hb dX11_goHour_159 (by decide) (fun c11 => ?_) (fun c11 => ?_)
              · --
                have i12 : Iv j156_3 64 64 := iv_le2 c11 (⟨by decide, by decide⟩ : Iv 64 64 64) ij156_3 (by decide)
                refine lv_iload_n hx hb dX11_goHour_211 rfl (lv_at hl 2 rfl) ?_
                rw [← hQ]
                exact o_ri cx rx hw dX11_goHour_212 fr
              · --
                have i13 : Iv j156_3 0 63 := iv_lt1 (iv_nle c11) ij156_3 (⟨by decide, by decide⟩ : Iv 64 64 64) (by decide)
                refine lv_aload_n hx hb dX11_goHour_162 rfl (lv_at hl 0 rfl) ?_
                refine lv_iload_n hx hb dX11_goHour_163 rfl (lv_at hl 3 rfl) ?_
                have i14 : Iv (σ_156.1 641 a0) 0 8 := o_fb (j := 641) hw ha0 rfl
                have i15 : Iv (σ_156.1 642 a0) 0 8 := o_fb (j := 642) hw ha0 rfl
                refine o_ci hw (oRunV cx hA hw q_X11_isCell k_m_X11_157 rfl ha0 (by decide) (As := [.int j156_3]) (c_X11_isCell a0 ha0 j156_3) (by decide) rfl hl.1 rfl (Nat.le_of_ble_eq_true rfl) dX11_goHour_164 (by decide)) (fun v17 σ16 H locs hp hw => ?_)
                obtain ⟨p17_0, p17_1, p17_2, p17_3⟩ := hp
                rw [p17_0] at hw
                have frE_205 := fr
                have J_205 : ∀ (σ_205 : oSt) (H : Heap) (locs : List Loc), oI A L τ cy D s.heap σ_205 H locs → oFr τ fs_X11_goHour ts_X11_goHour σ σ_205 → ∀ (ls : Array Slot), lv_has ls 6 [(0, .ref a0), (1, .ref a1), (2, .int j13_2), (3, .int j156_3)] → W p l e ({ frames := 340, cells := 0, slots := 0, locals := 8548 } : Room) s m args below meth c H locs 0 0 Q (F0 m 205 ls []) := by
                  intro  σ_205 H locs hw fr      ls hl
                  have fr_205 := fr
                  obtain ⟨v18, e18⟩ : ∃ y : Int32, y = j156_3 + 1 := ⟨_, rfl⟩
                  have i18 : Iv v18 1 64 := iv_add e18 i13 (⟨by decide, by decide⟩ : Iv 1 1 1) (by decide)
                  have x18 : v18.toInt = j156_3.toInt + 1 := ex_add e18 i13 (⟨by decide, by decide⟩ : Iv 1 1 1) (by decide)
                  refine lv_iinc (v := v18) (lv' := [(3, .int v18), (0, .ref a0), (1, .ref a1), (2, .int j13_2)]) hx hb dX11_goHour_205 hl (k := 3) rfl (by rw [e18]; rfl) (by decide) rfl (fun ls hl => ?_)
                  refine lv_goto (tgt := 156) hx hb dX11_goHour_208 (by decide) ?_
                  exact ih_156 v18 (iv_w i18 (by decide)) σ_205 _ _ hw fr (ms_up x18 (by decide) (iv_w (a' := 0) (b' := 64) i18 (by decide)).2 hn_156) _ (lv_sub hl [1, 2, 3, 0] rfl)
                refine lv_if_eq (tgt := 205) hx hb dX11_goHour_167 (by decide) (fun c19 => ?_) (fun c19 => ?_)
                · --
                  have i20 : Iv v17 0 0 := iv_eq1 c19 p17_1 (⟨by decide, by decide⟩ : Iv 0 0 0) (by decide)
                  exact J_205 σ_156 _ _ hw fr _ (lv_sub hl [0, 1, 2, 3] rfl)
                · --
                  have i21 : Iv v17 1 1 := iv_ne1 c19 p17_1 (⟨by decide, by decide⟩ : Iv 0 0 0) (by decide)
                  have i22 : Iv j156_3 0 63 := p17_2 c19
                  refine lv_aload_n hx hb dX11_goHour_170 rfl (lv_at hl 0 rfl) ?_
                  refine g_643 cx hw ha0 k_f_X11_13 dX11_goHour_171 (fun v23 e23 h23 => ?_)
                  refine lv_iload_n hx hb dX11_goHour_174 rfl (lv_at hl 3 rfl) ?_
                  refine o_iald cx hw h23 (by decide) rfl (iv_in i22 (by decide)) dX11_goHour_175 (fun v24 e24 b24 => ?_)
                  refine lv_if_ne (tgt := 205) hx hb dX11_goHour_176 (by decide) (fun c25 => ?_) (fun c25 => ?_)
                  · --
                    exact J_205 σ_156 _ _ hw fr _ (lv_sub hl [0, 1, 2, 3] rfl)
                  · --
                    have i26 : Iv v24 0 0 := iv_eq1 c25 (iv_top v24) (⟨by decide, by decide⟩ : Iv 0 0 0) (by decide)
                    refine lv_aload_n hx hb dX11_goHour_179 rfl (lv_at hl 0 rfl) ?_
                    refine lv_aload_n hx hb dX11_goHour_180 rfl (lv_at hl 1 rfl) ?_
                    refine lv_iload_n hx hb dX11_goHour_181 rfl (lv_at hl 3 rfl) ?_
                    have z27 : (σ_156.1 647 a0).toInt = (v4 : Int32).toInt := congrArg Int32.toInt (show σ_156.1 647 a0 = v4 from ((kp_c fr_156 (by decide)).trans ((kp_c frE_156 (by decide)).symm.trans (e4.symm))))
                    refine o_ci hw (oRunV cx hA hw q_X11_herdsAt k_m_X11_233 rfl ha0 (by decide) (As := [.ref a1, .int j156_3]) (c_X11_herdsAt a0 ha0 a1 ha1 j156_3) (by decide) rfl hl.1 rfl (Nat.le_of_ble_eq_true rfl) dX11_goHour_182 (by decide)) (fun v29 σ28 H locs hp hw => ?_)
                    obtain ⟨p29_0, p29_1, p29_2⟩ := hp
                    rw [p29_0] at hw
                    refine lv_if_ne (tgt := 205) hx hb dX11_goHour_185 (by decide) (fun c30 => ?_) (fun c30 => ?_)
                    · --
                      have i31 : Iv v29 1 63 := iv_ne1 c30 p29_1 (⟨by decide, by decide⟩ : Iv 0 0 0) (by decide)
                      exact J_205 σ_156 _ _ hw fr _ (lv_sub hl [0, 1, 2, 3] rfl)
                    · --
                      have i32 : Iv v29 0 0 := iv_eq1 c30 p29_1 (⟨by decide, by decide⟩ : Iv 0 0 0) (by decide)
                      refine lv_aload_n hx hb dX11_goHour_188 rfl (lv_at hl 1 rfl) ?_
                      refine lv_iconst (v := 0) hx hb dX11_goHour_189 (by decide) ?_
                      refine lv_iload_n hx hb dX11_goHour_190 rfl (lv_at hl 3 rfl) ?_
                      refine lv_iadd hx hb dX11_goHour_191 ?_
                      refine lv_topi (fun v33 e33 => ?_)
                      have i33 : Iv v33 0 63 := iv_add e33 (⟨by decide, by decide⟩ : Iv 0 0 0) i22 (by decide)
                      have x33 : v33.toInt = j156_3.toInt + 0 := (ex_add e33 (⟨by decide, by decide⟩ : Iv 0 0 0) i22 (by decide)).trans (Int.add_comm _ _)
                      refine lv_bipush (v := 9) hx hb dX11_goHour_192 (by decide) ?_
                      refine lv_aload_n hx hb dX11_goHour_194 rfl (lv_at hl 1 rfl) ?_
                      refine lv_iconst (v := 0) hx hb dX11_goHour_195 (by decide) ?_
                      refine lv_iload_n hx hb dX11_goHour_196 rfl (lv_at hl 3 rfl) ?_
                      refine lv_iadd hx hb dX11_goHour_197 ?_
                      refine lv_topi (fun v34 e34 => ?_)
                      have i34 : Iv v34 0 63 := iv_add e34 (⟨by decide, by decide⟩ : Iv 0 0 0) i22 (by decide)
                      have x34 : v34.toInt = j156_3.toInt + 0 := (ex_add e34 (⟨by decide, by decide⟩ : Iv 0 0 0) i22 (by decide)).trans (Int.add_comm _ _)
                      refine o_iald cx hw ha1 (by decide) rfl (iv_in i34 (by decide)) dX11_goHour_198 (fun v35 e35 b35 => ?_)
                      refine lv_iconst (v := 1) hx hb dX11_goHour_199 (by decide) ?_
                      refine lv_iadd hx hb dX11_goHour_200 ?_
                      refine lv_topi (fun v36 e36 => ?_)
                      refine va_mmin hx hb (hml.trans hl.1.symm) hown (hts _ k_m_X11_243) (hts _ k_s_J9_min_7cf53) (hts _ k_i_J9) (hts _ k_code_J9_min_7cf53) (by decide) (Nat.le_of_ble_eq_true rfl) (by decide) (by decide) dX11_goHour_201 ?_
                      refine lv_topi (fun v37 e37 => ?_)
                      have i37 : Iv v37 (-2147483648) 9 := iv_min e37 (⟨by decide, by decide⟩ : Iv 9 9 9) (iv_top v36) (by decide)
                      refine o_iast cx hw ha1 (by decide) rfl (iv_in i33 (by decide)) (rb_lo i33 (by decide)) dX11_goHour_204 (fun σ38 H locs eσ38 hw => ?_)
                      have fr := oFr_p fr eσ38 ha1 (by decide)
                      exact J_205 σ38 _ _ hw fr _ (lv_sub hl [0, 1, 2, 3] rfl)
          exact J_156 _ 0 (iv_w (⟨by decide, by decide⟩ : Iv 0 0 0) (by decide)) σ_13 _ _ hw fr (Nat.lt_succ_self _) _ (lv_sub hl [1, 2, 3, 0] rfl)
      · --
        have i39 : Iv j13_3 0 5 := iv_lt1 (iv_nle c5) ij13_3 i4 (by decide)
        have i40 : Iv v4 1 6 := iv_lt2 (iv_nle c5) ij13_3 i4 (by decide)
        refine lv_aload_n hx hb dX11_goHour_21 rfl (lv_at hl 0 rfl) ?_
        refine lv_aload_n hx hb dX11_goHour_22 rfl (lv_at hl 1 rfl) ?_
        refine lv_iload_n hx hb dX11_goHour_23 rfl (lv_at hl 3 rfl) ?_
        refine o_ci hw (oRunV cx hA hw q_X11_goesTo k_m_X11_240 rfl ha0 (by decide) (As := [.ref a1, .int j13_3]) (c_X11_goesTo a0 ha0 a1 ha1 j13_3 (iv_w i39 (by decide))) (by decide) rfl hl.1 rfl (Nat.le_of_ble_eq_true rfl) dX11_goHour_24 (by decide)) (fun v42 σ41 H locs hp hw => ?_)
        obtain ⟨p42_0, p42_1⟩ := hp
        have fr := oFr_tr fr p42_0 (by decide)
        refine lv_istore (lv' := [(4, .int v42), (0, .ref a0), (1, .ref a1), (2, .int j13_2), (3, .int j13_3)]) hx hb dX11_goHour_27 hl (by decide) rfl (fun ls hl => ?_)
        refine lv_iload hx hb dX11_goHour_29 (lv_at hl 0 rfl) ?_
        refine lv_aload_n hx hb dX11_goHour_31 rfl (lv_at hl 2 rfl) ?_
        refine lv_sipush (v := 320) hx hb dX11_goHour_32 (by decide) ?_
        refine lv_iload_n hx hb dX11_goHour_35 rfl (lv_at hl 4 rfl) ?_
        refine lv_iadd hx hb dX11_goHour_36 ?_
        refine lv_topi (fun v43 e43 => ?_)
        have i43 : Iv v43 320 325 := iv_add e43 (⟨by decide, by decide⟩ : Iv 320 320 320) i39 (by decide)
        have x43 : v43.toInt = j13_3.toInt + 320 := (ex_add e43 (⟨by decide, by decide⟩ : Iv 320 320 320) i39 (by decide)).trans (Int.add_comm _ _)
        refine o_iald cx hw ha1 (by decide) rfl (iv_in i43 (by decide)) dX11_goHour_37 (fun v44 e44 b44 => ?_)
        have i44 : Iv v44 0 63 := rb_now b44 i43 (by decide)
        have J_46 : ∀ (k46_0 : Int32) (ik46_0 : Iv k46_0 0 1), ∀ (H : Heap) (locs : List Loc), oI A L τ cy D s.heap σ41 H locs → ∀ (ls : Array Slot), lv_has ls 6 [(0, .ref a0), (1, .ref a1), (2, .int j13_2), (3, .int j13_3), (4, .int v42)] → W p l e ({ frames := 340, cells := 0, slots := 0, locals := 8548 } : Room) s m args below meth c H locs 0 0 Q (F0 m 46 ls [.int k46_0]) := by
          intro k46_0 ik46_0 H locs hw     ls hl
          refine lv_istore (lv' := [(5, .int k46_0), (0, .ref a0), (1, .ref a1), (2, .int j13_2), (3, .int j13_3), (4, .int v42)]) hx hb dX11_goHour_46 hl (by decide) rfl (fun ls hl => ?_)
          refine lv_iload_n hx hb dX11_goHour_48 rfl (lv_at hl 3 rfl) ?_
          refine lv_iload hx hb dX11_goHour_49 (lv_at hl 0 rfl) ?_
          have J_59 : ∀ (k59_1 : Int32) (ik59_1 : Iv k59_1 0 1), ∀ (H : Heap) (locs : List Loc), oI A L τ cy D s.heap σ41 H locs → ∀ (ls : Array Slot), lv_has ls 6 [(0, .ref a0), (1, .ref a1), (2, .int j13_2), (3, .int j13_3), (4, .int v42), (5, .int k46_0)] → W p l e ({ frames := 340, cells := 0, slots := 0, locals := 8548 } : Room) s m args below meth c H locs 0 0 Q (F0 m 59 ls [.int k59_1, .int j13_2]) := by
            intro k59_1 ik59_1 H locs hw     ls hl
            refine lv_iadd hx hb dX11_goHour_59 ?_
            refine lv_topi (fun v45 e45 => ?_)
            refine lv_istore_n (lv' := [(2, .int v45), (0, .ref a0), (1, .ref a1), (3, .int j13_3), (4, .int v42), (5, .int k46_0)]) hx hb dX11_goHour_60 rfl hl (by decide) rfl (fun ls hl => ?_)
            refine lv_aload_n hx hb dX11_goHour_61 rfl (lv_at hl 2 rfl) ?_
            refine lv_sipush (v := 320) hx hb dX11_goHour_62 (by decide) ?_
            refine lv_iload_n hx hb dX11_goHour_65 rfl (lv_at hl 3 rfl) ?_
            refine lv_iadd hx hb dX11_goHour_66 ?_
            refine lv_topi (fun v46 e46 => ?_)
            have i46 : Iv v46 320 325 := iv_add e46 (⟨by decide, by decide⟩ : Iv 320 320 320) i39 (by decide)
            have x46 : v46.toInt = j13_3.toInt + 320 := (ex_add e46 (⟨by decide, by decide⟩ : Iv 320 320 320) i39 (by decide)).trans (Int.add_comm _ _)
            refine lv_iload hx hb dX11_goHour_67 (lv_at hl 4 rfl) ?_
            refine o_iast cx hw ha1 (by decide) rfl (iv_in i46 (by decide)) (fun _ _ => iv_w p42_1 (by decide)) dX11_goHour_69 (fun σ47 H locs eσ47 hw => ?_)
            have fr := oFr_p fr eσ47 ha1 (by decide)
            refine lv_aload_n hx hb dX11_goHour_70 rfl (lv_at hl 2 rfl) ?_
            refine lv_sipush (v := 326) hx hb dX11_goHour_71 (by decide) ?_
            refine lv_iload_n hx hb dX11_goHour_74 rfl (lv_at hl 3 rfl) ?_
            refine lv_iadd hx hb dX11_goHour_75 ?_
            refine lv_topi (fun v48 e48 => ?_)
            have i48 : Iv v48 326 331 := iv_add e48 (⟨by decide, by decide⟩ : Iv 326 326 326) i39 (by decide)
            have x48 : v48.toInt = j13_3.toInt + 326 := (ex_add e48 (⟨by decide, by decide⟩ : Iv 326 326 326) i39 (by decide)).trans (Int.add_comm _ _)
            refine lv_iload hx hb dX11_goHour_76 (lv_at hl 5 rfl) ?_
            have J_86 : ∀ (k86_2 : Int32) (ik86_2 : Iv k86_2 0 1), ∀ (H : Heap) (locs : List Loc), oI A L τ cy D s.heap σ47 H locs → ∀ (ls : Array Slot), lv_has ls 6 [(0, .ref a0), (1, .ref a1), (2, .int v45), (3, .int j13_3), (4, .int v42), (5, .int k46_0)] → W p l e ({ frames := 340, cells := 0, slots := 0, locals := 8548 } : Room) s m args below meth c H locs 0 0 Q (F0 m 86 ls [.int k86_2, .int v48, .ref a1]) := by
              intro k86_2 ik86_2 H locs hw     ls hl
              refine o_iast cx hw ha1 (by decide) rfl (iv_in i48 (by decide)) (fun _ _ => iv_w ik86_2 (by decide)) dX11_goHour_86 (fun σ49 H locs eσ49 hw => ?_)
              have fr := oFr_p fr eσ49 ha1 (by decide)
              refine lv_aload_n hx hb dX11_goHour_87 rfl (lv_at hl 1 rfl) ?_
              refine lv_iload_n hx hb dX11_goHour_88 rfl (lv_at hl 3 rfl) ?_
              refine o_cv hw (oRunS cx hA hw q_X11_tread k_m_X11_178 (As := [.ref a1, .int j13_3]) (c_X11_tread a1 ha1 j13_3 (iv_w i39 (by decide))) (by decide) rfl hl.1 rfl (Nat.le_of_ble_eq_true rfl) dX11_goHour_89 (by decide)) (fun σ50 H locs hp hw => ?_)
              have p51_0 := hp
              have fr := oFr_tr fr p51_0 (by decide)
              refine lv_aload_n hx hb dX11_goHour_92 rfl (lv_at hl 1 rfl) ?_
              refine lv_iconst (v := 0) hx hb dX11_goHour_93 (by decide) ?_
              refine lv_iload hx hb dX11_goHour_94 (lv_at hl 4 rfl) ?_
              refine lv_iadd hx hb dX11_goHour_96 ?_
              refine lv_topi (fun v52 e52 => ?_)
              have i52 : Iv v52 0 63 := iv_add e52 (⟨by decide, by decide⟩ : Iv 0 0 0) p42_1 (by decide)
              have x52 : v52.toInt = v42.toInt + 0 := (ex_add e52 (⟨by decide, by decide⟩ : Iv 0 0 0) p42_1 (by decide)).trans (Int.add_comm _ _)
              refine o_iald cx hw ha1 (by decide) rfl (iv_in i52 (by decide)) dX11_goHour_97 (fun v53 e53 b53 => ?_)
              have frE_135 := fr
              have J_135 : ∀ (σ_135 : oSt) (H : Heap) (locs : List Loc), oI A L τ cy D s.heap σ_135 H locs → oFr τ fs_X11_goHour ts_X11_goHour σ σ_135 → ∀ (ls : Array Slot), lv_has ls 6 [(0, .ref a0), (1, .ref a1), (2, .int v45), (3, .int j13_3), (4, .int v42), (5, .int k46_0)] → W p l e ({ frames := 340, cells := 0, slots := 0, locals := 8548 } : Room) s m args below meth c H locs 0 0 Q (F0 m 135 ls []) := by
                intro  σ_135 H locs hw fr      ls hl
                have fr_135 := fr
                obtain ⟨v54, e54⟩ : ∃ y : Int32, y = j13_3 + 1 := ⟨_, rfl⟩
                have i54 : Iv v54 1 6 := iv_add e54 i39 (⟨by decide, by decide⟩ : Iv 1 1 1) (by decide)
                have x54 : v54.toInt = j13_3.toInt + 1 := ex_add e54 i39 (⟨by decide, by decide⟩ : Iv 1 1 1) (by decide)
                refine lv_iinc (v := v54) (lv' := [(3, .int v54), (0, .ref a0), (1, .ref a1), (2, .int v45), (4, .int v42), (5, .int k46_0)]) hx hb dX11_goHour_135 hl (k := 3) rfl (by rw [e54]; rfl) (by decide) rfl (fun ls hl => ?_)
                refine lv_goto (tgt := 13) hx hb dX11_goHour_138 (by decide) ?_
                exact ih_13 v45 v54 (iv_w i54 (by decide)) σ_135 _ _ hw fr (ms_up x54 (by decide) (iv_w (a' := 0) (b' := 6) i54 (by decide)).2 hn_13) _ (lv_sub hl [1, 2, 3, 0] rfl)
              refine lv_if_le (tgt := 114) hx hb dX11_goHour_98 (by decide) (fun c55 => ?_) (fun c55 => ?_)
              · --
                have i56 : Iv v53 (-2147483648) 0 := iv_le1 c55 (iv_top v53) (⟨by decide, by decide⟩ : Iv 0 0 0) (by decide)
                refine lv_aload_n hx hb dX11_goHour_114 rfl (lv_at hl 1 rfl) ?_
                refine lv_bipush (v := 64) hx hb dX11_goHour_115 (by decide) ?_
                refine lv_iload hx hb dX11_goHour_117 (lv_at hl 4 rfl) ?_
                refine lv_iadd hx hb dX11_goHour_119 ?_
                refine lv_topi (fun v57 e57 => ?_)
                have i57 : Iv v57 64 127 := iv_add e57 (⟨by decide, by decide⟩ : Iv 64 64 64) p42_1 (by decide)
                have x57 : v57.toInt = v42.toInt + 64 := (ex_add e57 (⟨by decide, by decide⟩ : Iv 64 64 64) p42_1 (by decide)).trans (Int.add_comm _ _)
                refine o_iald cx hw ha1 (by decide) rfl (iv_in i57 (by decide)) dX11_goHour_120 (fun v58 e58 b58 => ?_)
                refine lv_if_le (tgt := 135) hx hb dX11_goHour_121 (by decide) (fun c59 => ?_) (fun c59 => ?_)
                · --
                  have i60 : Iv v58 (-2147483648) 0 := iv_le1 c59 (iv_top v58) (⟨by decide, by decide⟩ : Iv 0 0 0) (by decide)
                  exact J_135 σ50 _ _ hw fr _ (lv_sub hl [0, 1, 2, 3, 4, 5] rfl)
                · --
                  have i61 : Iv v58 1 2147483647 := iv_lt2 (iv_nle c59) (⟨by decide, by decide⟩ : Iv 0 0 0) (iv_top v58) (by decide)
                  refine lv_aload_n hx hb dX11_goHour_124 rfl (lv_at hl 1 rfl) ?_
                  refine lv_bipush (v := 64) hx hb dX11_goHour_125 (by decide) ?_
                  refine lv_iload hx hb dX11_goHour_127 (lv_at hl 4 rfl) ?_
                  refine lv_iadd hx hb dX11_goHour_129 ?_
                  refine lv_topi (fun v62 e62 => ?_)
                  have i62 : Iv v62 64 127 := iv_add e62 (⟨by decide, by decide⟩ : Iv 64 64 64) p42_1 (by decide)
                  have x62 : v62.toInt = v42.toInt + 64 := (ex_add e62 (⟨by decide, by decide⟩ : Iv 64 64 64) p42_1 (by decide)).trans (Int.add_comm _ _)
                  refine lv_dup2_11 hx hb dX11_goHour_130 rfl rfl ?_
                  refine o_iald cx hw ha1 (by decide) rfl (iv_in i62 (by decide)) dX11_goHour_131 (fun v63 e63 b63 => ?_)
                  refine lv_iconst (v := 1) hx hb dX11_goHour_132 (by decide) ?_
                  refine lv_isub hx hb dX11_goHour_133 ?_
                  refine lv_topi (fun v64 e64 => ?_)
                  refine o_iast cx hw ha1 (by decide) rfl (iv_in i62 (by decide)) (rb_lo i62 (by decide)) dX11_goHour_134 (fun σ65 H locs eσ65 hw => ?_)
                  have fr := oFr_p fr eσ65 ha1 (by decide)
                  exact J_135 σ65 _ _ hw fr _ (lv_sub hl [0, 1, 2, 3, 4, 5] rfl)
              · --
                have i66 : Iv v53 1 2147483647 := iv_lt2 (iv_nle c55) (⟨by decide, by decide⟩ : Iv 0 0 0) (iv_top v53) (by decide)
                refine lv_aload_n hx hb dX11_goHour_101 rfl (lv_at hl 1 rfl) ?_
                refine lv_iconst (v := 0) hx hb dX11_goHour_102 (by decide) ?_
                refine lv_iload hx hb dX11_goHour_103 (lv_at hl 4 rfl) ?_
                refine lv_iadd hx hb dX11_goHour_105 ?_
                refine lv_topi (fun v67 e67 => ?_)
                have i67 : Iv v67 0 63 := iv_add e67 (⟨by decide, by decide⟩ : Iv 0 0 0) p42_1 (by decide)
                have x67 : v67.toInt = v42.toInt + 0 := (ex_add e67 (⟨by decide, by decide⟩ : Iv 0 0 0) p42_1 (by decide)).trans (Int.add_comm _ _)
                refine lv_dup2_11 hx hb dX11_goHour_106 rfl rfl ?_
                refine o_iald cx hw ha1 (by decide) rfl (iv_in i67 (by decide)) dX11_goHour_107 (fun v68 e68 b68 => ?_)
                refine lv_iconst (v := 1) hx hb dX11_goHour_108 (by decide) ?_
                refine lv_isub hx hb dX11_goHour_109 ?_
                refine lv_topi (fun v69 e69 => ?_)
                refine o_iast cx hw ha1 (by decide) rfl (iv_in i67 (by decide)) (rb_lo i67 (by decide)) dX11_goHour_110 (fun σ70 H locs eσ70 hw => ?_)
                have fr := oFr_p fr eσ70 ha1 (by decide)
                refine lv_goto (tgt := 135) hx hb dX11_goHour_111 (by decide) ?_
                exact J_135 σ70 _ _ hw fr _ (lv_sub hl [0, 1, 2, 3, 4, 5] rfl)
            refine lv_if_eq (tgt := 85) hx hb dX11_goHour_78 (by decide) (fun c71 => ?_) (fun c71 => ?_)
            · --
              have i72 : Iv k46_0 0 0 := iv_eq1 c71 ik46_0 (⟨by decide, by decide⟩ : Iv 0 0 0) (by decide)
              refine lv_iconst (v := 0) hx hb dX11_goHour_85 (by decide) ?_
              exact J_86 0 (iv_w (⟨by decide, by decide⟩ : Iv 0 0 0) (by decide)) _ _ hw _ (lv_sub hl [1, 2, 0, 3, 4, 5] rfl)
            · --
              have i73 : Iv k46_0 1 1 := iv_ne1 c71 ik46_0 (⟨by decide, by decide⟩ : Iv 0 0 0) (by decide)
              refine lv_iconst (v := 1) hx hb dX11_goHour_81 (by decide) ?_
              refine lv_goto (tgt := 86) hx hb dX11_goHour_82 (by decide) ?_
              exact J_86 1 (iv_w (⟨by decide, by decide⟩ : Iv 1 1 1) (by decide)) _ _ hw _ (lv_sub hl [1, 2, 0, 3, 4, 5] rfl)
          refine lv_if_eq (tgt := 58) hx hb dX11_goHour_51 (by decide) (fun c74 => ?_) (fun c74 => ?_)
          · --
            have i75 : Iv k46_0 0 0 := iv_eq1 c74 ik46_0 (⟨by decide, by decide⟩ : Iv 0 0 0) (by decide)
            refine lv_iconst (v := 1) hx hb dX11_goHour_58 (by decide) ?_
            exact J_59 1 (iv_w (⟨by decide, by decide⟩ : Iv 1 1 1) (by decide)) _ _ hw _ (lv_sub hl [1, 2, 3, 4, 5, 0] rfl)
          · --
            have i76 : Iv k46_0 1 1 := iv_ne1 c74 ik46_0 (⟨by decide, by decide⟩ : Iv 0 0 0) (by decide)
            refine lv_iconst (v := 0) hx hb dX11_goHour_54 (by decide) ?_
            refine lv_goto (tgt := 59) hx hb dX11_goHour_55 (by decide) ?_
            exact J_59 0 (iv_w (⟨by decide, by decide⟩ : Iv 0 0 0) (by decide)) _ _ hw _ (lv_sub hl [1, 2, 3, 4, 5, 0] rfl)
        refine lv_icmp_ne (tgt := 45) hx hb dX11_goHour_38 (by decide) (fun c77 => ?_) (fun c77 => ?_)
        · --
          refine lv_iconst (v := 0) hx hb dX11_goHour_45 (by decide) ?_
          exact J_46 0 (iv_w (⟨by decide, by decide⟩ : Iv 0 0 0) (by decide)) _ _ hw _ (lv_sub hl [1, 2, 3, 4, 0] rfl)
        · --
          refine lv_iconst (v := 1) hx hb dX11_goHour_41 (by decide) ?_
          refine lv_goto (tgt := 46) hx hb dX11_goHour_42 (by decide) ?_
          exact J_46 1 (iv_w (⟨by decide, by decide⟩ : Iv 1 1 1) (by decide)) _ _ hw _ (lv_sub hl [1, 2, 3, 4, 0] rfl)
  exact J_13 _ 0 0 (iv_w (⟨by decide, by decide⟩ : Iv 0 0 0) (by decide)) σ3 _ _ hw fr (Nat.lt_succ_self _) _ (lv_sub hl [2, 3, 1, 0] rfl)
abbrev fs_X11_tellHerds : List Nat := [657]
abbrev ts_X11_tellHerds : List Nat := [52]
set_option maxHeartbeats 4000000 in
set_option maxRecDepth 100000 in
theorem c_X11_tellHerds (a0 : Nat) (ha0 : oA L τ a0 10) (a1 : Nat) (ha1 : oA L τ a1 48) : oMet l A L τ cy D K yX11_tellHerds cX11_tellHerds 3 none 1 22 [.ref a0, .ref a1] σ (va_Qv (fun σ1 => oFr τ fs_X11_tellHerds ts_X11_tellHerds σ σ1) (oPo A L τ cy D) A) := by
  refine oMk (by decide) (Nat.le_of_ble_eq_true rfl) rfl ?_
  intro p e s m args below meth c ls cx rx hA hw hl
  generalize hQ : MQ below _ args s 0 0 A = Q
  have hx := cx.1.1
  have hb := cx.1.2.1
  have hml := cx.1.2.2.1
  have hown := cx.1.2.2.2.1
  have hts := cx.1.2.2.2.2
  have hl : lv_has ls 3 [(0, .ref a0), (1, .ref a1)] := hl
  have fr : oFr τ fs_X11_tellHerds ts_X11_tellHerds σ σ := oFr_rf
  refine lv_aload_n hx hb dX11_tellHerds_0 rfl (lv_at hl 0 rfl) ?_
  refine lv_iconst (v := 0) hx hb dX11_tellHerds_1 (by decide) ?_
  refine p_657 cx hw ha0 (iv_w (⟨by decide, by decide⟩ : Iv 0 0 0) (by decide)) k_f_X11_92 dX11_tellHerds_2 (fun σ1 H locs eσ1 hw => ?_)
  have fr := oFr_i fr eσ1 (by decide)
  refine lv_iconst (v := 0) hx hb dX11_tellHerds_5 (by decide) ?_
  refine lv_istore_n (lv' := [(2, .int 0), (0, .ref a0), (1, .ref a1)]) hx hb dX11_tellHerds_6 rfl hl (by decide) rfl (fun ls hl => ?_)
  have frE_7 := fr
  have J_7 : ∀ n7 : Nat, ∀ (j7_2 : Int32) (ij7_2 : Iv j7_2 0 6), ∀ (σ_7 : oSt) (H : Heap) (locs : List Loc), oI A L τ cy D s.heap σ_7 H locs → oFr τ fs_X11_tellHerds ts_X11_tellHerds σ σ_7 → Iv (σ_7.1 657 a0) 0 6 → (6 - j7_2.toInt).toNat < n7 → (σ_7.1 657 a0).toInt ≤ j7_2.toInt + 0 → ∀ (ls : Array Slot), lv_has ls 3 [(0, .ref a0), (1, .ref a1), (2, .int j7_2)] → W p l e ({ frames := 1, cells := 0, slots := 0, locals := 22 } : Room) s m args below meth c H locs 0 0 Q (F0 m 7 ls []) := by
    intro n7
    induction n7 with
    | zero => intro j7_2 ij7_2 σ_7 H locs hw fr f7_657_a0  hn_7   le7_0 ls hl; exact absurd hn_7 (Nat.not_lt_zero _)
    | succ n7 ih_7 =>
      intro j7_2 ij7_2 σ_7 H locs hw fr f7_657_a0  hn_7   le7_0 ls hl
      have fr_7 := fr
      refine lv_iload_n hx hb dX11_tellHerds_7 rfl (lv_at hl 2 rfl) ?_
      refine lv_aload_n hx hb dX11_tellHerds_8 rfl (lv_at hl 0 rfl) ?_
      refine g_647 cx hw ha0 k_f_X11_105 dX11_tellHerds_9 (fun v2 e2 i2 => ?_)
      refine lv_icmp_ge (tgt := 33) hx hb dX11_tellHerds_12 (by decide) (fun c3 => ?_) (fun c3 => ?_)
      · --
        rw [← hQ]
        exact o_rv cx rx hw dX11_tellHerds_33 fr
      · --
        have i4 : Iv j7_2 0 5 := iv_lt1 (iv_nle c3) ij7_2 i2 (by decide)
        have i5 : Iv (σ_7.1 657 a0) 0 5 := iv_leh le7_0 f7_657_a0 i4 (by decide)
        have i6 : Iv v2 1 6 := iv_lt2 (iv_nle c3) ij7_2 i2 (by decide)
        refine lv_aload_n hx hb dX11_tellHerds_15 rfl (lv_at hl 0 rfl) ?_
        refine lv_aload_n hx hb dX11_tellHerds_16 rfl (lv_at hl 1 rfl) ?_
        refine lv_sipush (v := 320) hx hb dX11_tellHerds_17 (by decide) ?_
        refine lv_iload_n hx hb dX11_tellHerds_20 rfl (lv_at hl 2 rfl) ?_
        refine lv_iadd hx hb dX11_tellHerds_21 ?_
        refine lv_topi (fun v7 e7 => ?_)
        have i7 : Iv v7 320 325 := iv_add e7 (⟨by decide, by decide⟩ : Iv 320 320 320) i4 (by decide)
        have x7 : v7.toInt = j7_2.toInt + 320 := (ex_add e7 (⟨by decide, by decide⟩ : Iv 320 320 320) i4 (by decide)).trans (Int.add_comm _ _)
        refine o_iald cx hw ha1 (by decide) rfl (iv_in i7 (by decide)) dX11_tellHerds_22 (fun v8 e8 b8 => ?_)
        have i8 : Iv v8 0 63 := rb_now b8 i7 (by decide)
        refine lv_i2l hx hb dX11_tellHerds_23 rfl ?_
        refine lv_topl (fun v9 e9 => ?_)
        refine o_cv hw (oRunV cx hA hw q_X11_tell k_m_X11_278 rfl ha0 (by decide) (As := [.long v9]) (c_X11_tell a0 ha0 v9 (kn_iv (rfl) (iv_w i5 (by decide)))) (by decide) rfl hl.1 rfl (Nat.le_of_ble_eq_true rfl) dX11_tellHerds_24 (by decide)) (fun σ10 H locs hp hw => ?_)
        obtain ⟨p11_0, p11_1⟩ := hp
        have fr := oFr_tr fr p11_0 (by decide)
        have x13 : (σ10.1 657 a0).toInt = (σ_7.1 657 a0).toInt + 1 := fin_tr p11_1 (rfl)
        have i12 : Iv (σ10.1 657 a0) 1 6 := iv_fin x13 i5 (by decide)
        obtain ⟨v14, e14⟩ : ∃ y : Int32, y = j7_2 + 1 := ⟨_, rfl⟩
        have i14 : Iv v14 1 6 := iv_add e14 i4 (⟨by decide, by decide⟩ : Iv 1 1 1) (by decide)
        have x14 : v14.toInt = j7_2.toInt + 1 := ex_add e14 i4 (⟨by decide, by decide⟩ : Iv 1 1 1) (by decide)
        refine lv_iinc (v := v14) (lv' := [(2, .int v14), (0, .ref a0), (1, .ref a1)]) hx hb dX11_tellHerds_27 hl (k := 2) rfl (by rw [e14]; rfl) (by decide) rfl (fun ls hl => ?_)
        refine lv_goto (tgt := 7) hx hb dX11_tellHerds_30 (by decide) ?_
        exact ih_7 v14 (iv_w i14 (by decide)) σ10 _ _ hw fr (kn_iv (rfl) (iv_w i12 (by decide))) (ms_up x14 (by decide) (iv_w (a' := 0) (b' := 6) i14 (by decide)).2 hn_7) (le_lin x13 x14 le7_0 (by decide)) _ (lv_sub hl [1, 2, 0] rfl)
  exact J_7 _ 0 (iv_w (⟨by decide, by decide⟩ : Iv 0 0 0) (by decide)) σ1 _ _ hw fr (kn_iv ((kp_s eσ1)) (iv_w (⟨by decide, by decide⟩ : Iv 0 0 0) (by decide))) (Nat.lt_succ_self _) (le_cl ((kp_s eσ1)) (le_iv (⟨by decide, by decide⟩ : Iv 0 0 0) (⟨by decide, by decide⟩ : Iv 0 0 0) (by decide))) _ (lv_sub hl [1, 2, 0] rfl)
abbrev fs_X11_hours : List Nat := [657, 658, 659, 660, 661, 662, 663, 669, 672]
abbrev ts_X11_hours : List Nat := [48, 52, 55, 56]
set_option maxHeartbeats 4000000 in
set_option maxRecDepth 100000 in
theorem c_X11_hours (a0 : Nat) (ha0 : oA L τ a0 10) (a1 : Int32) : oMet l A L τ cy D K yX11_hours cX11_hours 4 (some .int) 341 8573 [.ref a0, .int a1] σ (va_Qi (fun r σ1 => oFr τ fs_X11_hours ts_X11_hours σ σ1) (oPo A L τ cy D) A) := by
  refine oMk (by decide) (Nat.le_of_ble_eq_true rfl) rfl ?_
  intro p e s m args below meth c ls cx rx hA hw hl
  generalize hQ : MQ below _ args s 0 0 A = Q
  have hx := cx.1.1
  have hb := cx.1.2.1
  have hml := cx.1.2.2.1
  have hown := cx.1.2.2.2.1
  have hts := cx.1.2.2.2.2
  have hl : lv_has ls 4 [(0, .ref a0), (1, .int a1)] := hl
  have fr : oFr τ fs_X11_hours ts_X11_hours σ σ := oFr_rf
  refine lv_aload_n hx hb dX11_hours_0 rfl (lv_at hl 0 rfl) ?_
  refine lv_iconst (v := 0) hx hb dX11_hours_1 (by decide) ?_
  refine p_658 cx hw ha0 k_f_X11_89 dX11_hours_2 (fun σ1 H locs eσ1 hw => ?_)
  have fr := oFr_i fr eσ1 (by decide)
  refine lv_iload_n hx hb dX11_hours_5 rfl (lv_at hl 1 rfl) ?_
  refine lv_iconst (v := 0) hx hb dX11_hours_6 (by decide) ?_
  refine lv_bipush (v := 60) hx hb dX11_hours_7 (by decide) ?_
  refine o_ci hw (oRunS cx hA hw q_X11_in k_m_X11_95 (As := [.int a1, .int 0, .int 60]) (c_X11_in a1 0 60) (by decide) rfl hl.1 rfl (Nat.le_of_ble_eq_true rfl) dX11_hours_9 (by decide)) (fun v3 σ2 H locs hp hw => ?_)
  obtain ⟨p3_0, p3_1, p3_2, p3_3, p3_4, p3_5⟩ := hp
  rw [p3_0] at hw
  refine lv_if_ne (tgt := 17) hx hb dX11_hours_12 (by decide) (fun c4 => ?_) (fun c4 => ?_)
  · --
    have i5 : Iv v3 1 1 := iv_ne1 c4 p3_1 (⟨by decide, by decide⟩ : Iv 0 0 0) (by decide)
    have i6 : Iv a1 0 60 := (fun h => iv_rel (p3_2 h) (⟨by decide, by decide⟩ : Iv 0 0 0) (⟨by decide, by decide⟩ : Iv 60 60 60)) c4
    refine lv_iload_n hx hb dX11_hours_17 rfl (lv_at hl 1 rfl) ?_
    have frE_29 := fr
    have J_29 : ∀ (σ_29 : oSt) (H : Heap) (locs : List Loc), oI A L τ cy D s.heap σ_29 H locs → oFr τ fs_X11_hours ts_X11_hours σ σ_29 → ∀ (ls : Array Slot), lv_has ls 4 [(0, .ref a0), (1, .int a1)] → W p l e ({ frames := 341, cells := 0, slots := 0, locals := 8573 } : Room) s m args below meth c H locs 0 0 Q (F0 m 29 ls []) := by
      intro  σ_29 H locs hw fr      ls hl
      have fr_29 := fr
      refine lv_iconst (v := 0) hx hb dX11_hours_29 (by decide) ?_
      refine lv_istore_n (lv' := [(2, .int 0), (0, .ref a0), (1, .int a1)]) hx hb dX11_hours_30 rfl hl (by decide) rfl (fun ls hl => ?_)
      refine lv_iconst (v := 0) hx hb dX11_hours_31 (by decide) ?_
      refine lv_istore_n (lv' := [(3, .int 0), (2, .int 0), (0, .ref a0), (1, .int a1)]) hx hb dX11_hours_32 rfl hl (by decide) rfl (fun ls hl => ?_)
      have frE_33 := fr
      have J_33 : ∀ n33 : Nat, ∀ (j33_2 : Int32) (j33_3 : Int32) (ij33_3 : Iv j33_3 0 60), ∀ (σ_33 : oSt) (H : Heap) (locs : List Loc), oI A L τ cy D s.heap σ_33 H locs → oFr τ fs_X11_hours ts_X11_hours σ σ_33 → (60 - j33_3.toInt).toNat < n33 → ∀ (ls : Array Slot), lv_has ls 4 [(0, .ref a0), (1, .int a1), (2, .int j33_2), (3, .int j33_3)] → W p l e ({ frames := 341, cells := 0, slots := 0, locals := 8573 } : Room) s m args below meth c H locs 0 0 Q (F0 m 33 ls []) := by
        intro n33
        induction n33 with
        | zero => intro j33_2 j33_3 ij33_3 σ_33 H locs hw fr   hn_33   ls hl; exact absurd hn_33 (Nat.not_lt_zero _)
        | succ n33 ih_33 =>
          intro j33_2 j33_3 ij33_3 σ_33 H locs hw fr   hn_33   ls hl
          have fr_33 := fr
          refine lv_iload_n hx hb dX11_hours_33 rfl (lv_at hl 3 rfl) ?_
          refine lv_iload_n hx hb dX11_hours_34 rfl (lv_at hl 1 rfl) ?_
          refine lv_icmp_ge (tgt := 55) hx hb dX11_hours_35 (by decide) (fun c7 => ?_) (fun c7 => ?_)
          · --
            refine lv_aload_n hx hb dX11_hours_55 rfl (lv_at hl 0 rfl) ?_
            refine lv_aload_n hx hb dX11_hours_56 rfl (lv_at hl 0 rfl) ?_
            refine g_640 cx hw ha0 k_f_X11_9 dX11_hours_57 (fun v8 e8 h8 => ?_)
            refine o_cv hw (oRunV cx hA hw q_X11_tellHerds k_m_X11_289 rfl ha0 (by decide) (As := [.ref v8]) (c_X11_tellHerds a0 ha0 v8 h8) (by decide) rfl hl.1 rfl (Nat.le_of_ble_eq_true rfl) dX11_hours_60 (by decide)) (fun σ9 H locs hp hw => ?_)
            have p10_0 := hp
            have fr := oFr_tr fr p10_0 (by decide)
            refine lv_iload_n hx hb dX11_hours_63 rfl (lv_at hl 2 rfl) ?_
            rw [← hQ]
            exact o_ri cx rx hw dX11_hours_64 fr
          · --
            have i11 : Iv j33_3 0 59 := iv_lt1 (iv_nle c7) ij33_3 i6 (by decide)
            have i12 : Iv a1 1 60 := iv_lt2 (iv_nle c7) ij33_3 i6 (by decide)
            refine lv_iload_n hx hb dX11_hours_38 rfl (lv_at hl 2 rfl) ?_
            refine lv_aload_n hx hb dX11_hours_39 rfl (lv_at hl 0 rfl) ?_
            refine lv_aload_n hx hb dX11_hours_40 rfl (lv_at hl 0 rfl) ?_
            refine g_640 cx hw ha0 k_f_X11_9 dX11_hours_41 (fun v13 e13 h13 => ?_)
            refine o_ci hw (oRunV cx hA hw q_X11_goHour k_m_X11_285 rfl ha0 (by decide) (As := [.ref v13]) (c_X11_goHour a0 ha0 v13 h13) (by decide) rfl hl.1 rfl (Nat.le_of_ble_eq_true rfl) dX11_hours_44 (by decide)) (fun v15 σ14 H locs hp hw => ?_)
            have p15_0 := hp
            have fr := oFr_tr fr p15_0 (by decide)
            refine lv_iadd hx hb dX11_hours_47 ?_
            refine lv_topi (fun v16 e16 => ?_)
            refine lv_istore_n (lv' := [(2, .int v16), (0, .ref a0), (1, .int a1), (3, .int j33_3)]) hx hb dX11_hours_48 rfl hl (by decide) rfl (fun ls hl => ?_)
            obtain ⟨v17, e17⟩ : ∃ y : Int32, y = j33_3 + 1 := ⟨_, rfl⟩
            have i17 : Iv v17 1 60 := iv_add e17 i11 (⟨by decide, by decide⟩ : Iv 1 1 1) (by decide)
            have x17 : v17.toInt = j33_3.toInt + 1 := ex_add e17 i11 (⟨by decide, by decide⟩ : Iv 1 1 1) (by decide)
            refine lv_iinc (v := v17) (lv' := [(3, .int v17), (2, .int v16), (0, .ref a0), (1, .int a1)]) hx hb dX11_hours_49 hl (k := 3) rfl (by rw [e17]; rfl) (by decide) rfl (fun ls hl => ?_)
            refine lv_goto (tgt := 33) hx hb dX11_hours_52 (by decide) ?_
            exact ih_33 v16 v17 (iv_w i17 (by decide)) σ14 _ _ hw fr (ms_up x17 (by decide) (iv_w (a' := 0) (b' := 60) i17 (by decide)).2 hn_33) _ (lv_sub hl [2, 3, 1, 0] rfl)
      exact J_33 _ 0 0 (iv_w (⟨by decide, by decide⟩ : Iv 0 0 0) (by decide)) σ_29 _ _ hw fr (Nat.lt_succ_self _) _ (lv_sub hl [2, 3, 1, 0] rfl)
    refine lv_if_le (tgt := 29) hx hb dX11_hours_18 (by decide) (fun c18 => ?_) (fun c18 => ?_)
    · --
      have i19 : Iv a1 0 0 := iv_le1 c18 i6 (⟨by decide, by decide⟩ : Iv 0 0 0) (by decide)
      exact J_29 σ1 _ _ hw fr _ (lv_sub hl [0, 1] rfl)
    · --
      have i20 : Iv a1 1 60 := iv_lt2 (iv_nle c18) (⟨by decide, by decide⟩ : Iv 0 0 0) i6 (by decide)
      refine lv_aload_n hx hb dX11_hours_21 rfl (lv_at hl 0 rfl) ?_
      refine lv_aload_n hx hb dX11_hours_22 rfl (lv_at hl 0 rfl) ?_
      refine g_640 cx hw ha0 k_f_X11_9 dX11_hours_23 (fun v21 e21 h21 => ?_)
      refine o_cv hw (oRunV cx hA hw q_X11_remember k_m_X11_258 rfl ha0 (by decide) (As := [.ref v21]) (c_X11_remember a0 ha0 v21 h21) (by decide) rfl hl.1 rfl (Nat.le_of_ble_eq_true rfl) dX11_hours_26 (by decide)) (fun σ22 H locs hp hw => ?_)
      have p23_0 := hp
      have fr := oFr_tr fr p23_0 (by decide)
      exact J_29 σ22 _ _ hw fr _ (lv_sub hl [0, 1] rfl)
  · --
    have i24 : Iv v3 0 0 := iv_eq1 c4 p3_1 (⟨by decide, by decide⟩ : Iv 0 0 0) (by decide)
    refine lv_iconst (v := (-1)) hx hb dX11_hours_15 (by decide) ?_
    rw [← hQ]
    exact o_ri cx rx hw dX11_hours_16 fr
abbrev fs_X11_readCell : List Nat := [662, 663]
abbrev ts_X11_readCell : List Nat := []
set_option maxHeartbeats 4000000 in
set_option maxRecDepth 100000 in
theorem c_X11_readCell (a0 : Nat) (ha0 : oA L τ a0 10) (b0 : Nat) (hF0 : σ.2.2.2.2 659 a0 = some b0) (hb0 : oA L τ b0 51) (hf660 : Iv (σ.1 660 a0) 0 80) : oMet l A L τ cy D K yX11_readCell cX11_readCell 2 (some .int) 3 63 [.ref a0] σ (va_Qi (fun r σ1 => oFr τ fs_X11_readCell ts_X11_readCell σ σ1 ∧ Iv r 0 63 ∧ ((σ.1 662 a0).toInt ≤ (σ1.1 662 a0).toInt)) (oPo A L τ cy D) A) := by
  refine oMk (by decide) (Nat.le_of_ble_eq_true rfl) rfl ?_
  intro p e s m args below meth c ls cx rx hA hw hl
  generalize hQ : MQ below _ args s 0 0 A = Q
  have hx := cx.1.1
  have hb := cx.1.2.1
  have hml := cx.1.2.2.1
  have hown := cx.1.2.2.2.1
  have hts := cx.1.2.2.2.2
  have hl : lv_has ls 2 [(0, .ref a0)] := hl
  have fr : oFr τ fs_X11_readCell ts_X11_readCell σ σ := oFr_rf
  refine lv_aload_n hx hb dX11_readCell_0 rfl (lv_at hl 0 rfl) ?_
  refine lv_bipush (v := 97) hx hb dX11_readCell_1 (by decide) ?_
  refine lv_bipush (v := 8) hx hb dX11_readCell_3 (by decide) ?_
  have i1 : Iv (σ.1 662 a0) 0 200 := o_fb (j := 662) hw ha0 rfl
  have i2 : Iv (σ.1 663 a0) (-1) 200 := o_fb (j := 663) hw ha0 rfl
  have i3 : Iv (σ.1 661 a0) 0 80 := o_fb (j := 661) hw ha0 rfl
  refine o_ci hw (oRunV cx hA hw q_X11_oneOf k_m_X11_171 rfl ha0 (by decide) (As := [.int 97, .int 8]) (c_X11_oneOfT a0 ha0 97 (iv_w (⟨by decide, by decide⟩ : Iv 97 97 97) (by decide)) 8 (iv_w (⟨by decide, by decide⟩ : Iv 8 8 8) (by decide)) b0 (hF0) hb0 (kn_iv (rfl) (iv_w hf660 (by decide)))) (by decide) rfl hl.1 rfl (Nat.le_of_ble_eq_true rfl) dX11_readCell_5 (by decide)) (fun v5 σ4 H locs hp hw => ?_)
  obtain ⟨p5_0, p5_1, p5_2, p5_3, p5_4, p5_5⟩ := hp
  have fr := oFr_tr fr p5_0 (by decide)
  have i6 : Iv (σ4.1 662 a0) 0 200 := o_fb (j := 662) hw ha0 rfl
  have i7 : Iv (σ4.1 663 a0) (-1) 200 := o_fb (j := 663) hw ha0 rfl
  have i8 : Iv v5 0 7 := iv_lt0 p5_2 (⟨by decide, by decide⟩ : Iv 8 8 8) (by decide)
  refine lv_istore_n (lv' := [(1, .int v5), (0, .ref a0)]) hx hb dX11_readCell_8 rfl hl (by decide) rfl (fun ls hl => ?_)
  refine lv_bipush (v := 8) hx hb dX11_readCell_9 (by decide) ?_
  refine lv_aload_n hx hb dX11_readCell_11 rfl (lv_at hl 1 rfl) ?_
  refine lv_bipush (v := 49) hx hb dX11_readCell_12 (by decide) ?_
  refine lv_bipush (v := 8) hx hb dX11_readCell_14 (by decide) ?_
  have z9 : (σ4.1 660 a0).toInt = ((σ.1 660 a0) : Int32).toInt := congrArg Int32.toInt (show σ4.1 660 a0 = (σ.1 660 a0) from ((kp_c p5_0 (by decide)).trans rfl))
  have z10 : (σ4.1 661 a0).toInt = ((σ.1 661 a0) : Int32).toInt := congrArg Int32.toInt (show σ4.1 661 a0 = (σ.1 661 a0) from ((kp_c p5_0 (by decide)).trans rfl))
  refine o_ci hw (oRunV cx hA hw q_X11_oneOf k_m_X11_171 rfl ha0 (by decide) (As := [.int 49, .int 8]) (c_X11_oneOfT a0 ha0 49 (iv_w (⟨by decide, by decide⟩ : Iv 49 49 49) (by decide)) 8 (iv_w (⟨by decide, by decide⟩ : Iv 8 8 8) (by decide)) b0 (((kr_c p5_0 (by decide)).trans hF0)) hb0 (kn_iv (((kp_c p5_0 (by decide)).trans rfl)) (iv_w hf660 (by decide)))) (by decide) rfl hl.1 rfl (Nat.le_of_ble_eq_true rfl) dX11_readCell_16 (by decide)) (fun v12 σ11 H locs hp hw => ?_)
  obtain ⟨p12_0, p12_1, p12_2, p12_3, p12_4, p12_5⟩ := hp
  have fr := oFr_tr fr p12_0 (by decide)
  have i13 : Iv (σ11.1 662 a0) 0 200 := o_fb (j := 662) hw ha0 rfl
  have i14 : Iv (σ11.1 663 a0) (-1) 200 := o_fb (j := 663) hw ha0 rfl
  have i15 : Iv v12 0 7 := iv_lt0 p12_2 (⟨by decide, by decide⟩ : Iv 8 8 8) (by decide)
  refine lv_imul hx hb dX11_readCell_19 ?_
  refine lv_topi (fun v16 e16 => ?_)
  have i16 : Iv v16 0 56 := iv_mul e16 (⟨by decide, by decide⟩ : Iv 8 8 8) i15 (by decide)
  refine lv_iload_n hx hb dX11_readCell_20 rfl (lv_at hl 0 rfl) ?_
  refine lv_iadd hx hb dX11_readCell_21 ?_
  refine lv_topi (fun v17 e17 => ?_)
  have i17 : Iv v17 0 63 := iv_add e17 i16 i8 (by decide)
  have x17 : v17.toInt = v16.toInt + v5.toInt := ex_add e17 i16 i8 (by decide)
  rw [← hQ]
  exact o_ri cx rx hw dX11_readCell_22 ⟨fr, (iv_w i17 (by decide)), (by exact (by have := (i8).1; have := (i8).2; have := (i17).1; have := (i17).2; have := (hf660).1; have := (hf660).2; have := (i3).1; have := (i3).2; have := (i13).1; have := (i13).2; have := (i14).1; have := (i14).2; have := (i1).1; have := (i1).2; have := (i2).1; have := (i2).2; have := (i6).1; have := (i6).2; have := (i7).1; have := (i7).2; have := (i15).1; have := (i15).2; have := (i16).1; have := (i16).2; have : (σ11.1 660 a0).toInt = ((σ.1 660 a0) : Int32).toInt := congrArg Int32.toInt (show σ11.1 660 a0 = (σ.1 660 a0) from ((kp_c p12_0 (by decide)).trans ((kp_c p5_0 (by decide)).trans rfl))); have : (σ11.1 661 a0).toInt = ((σ.1 661 a0) : Int32).toInt := congrArg Int32.toInt (show σ11.1 661 a0 = (σ.1 661 a0) from ((kp_c p12_0 (by decide)).trans ((kp_c p5_0 (by decide)).trans rfl))); have : (49 : Int32).toInt = 49 := (by decide); have : (8 : Int32).toInt = 8 := (by decide); have : (97 : Int32).toInt = 97 := (by decide); omega))⟩
abbrev fs_X11_readAct : List Nat := [662, 663]
abbrev ts_X11_readAct : List Nat := [57]
set_option maxHeartbeats 4000000 in
set_option maxRecDepth 100000 in
theorem c_X11_readAct (a0 : Nat) (ha0 : oA L τ a0 10) (a1 : Int32) (ia1 : Iv a1 0 316) (b0 : Nat) (hF0 : σ.2.2.2.2 659 a0 = some b0) (hb0 : oA L τ b0 51) (hf660 : Iv (σ.1 660 a0) 0 80) (hf662 : Iv (σ.1 662 a0) 0 80) : oMet l A L τ cy D K yX11_readAct cX11_readAct 3 none 4 84 [.ref a0, .int a1] σ (va_Qv (fun σ1 => oFr τ fs_X11_readAct ts_X11_readAct σ σ1 ∧ ((σ.1 662 a0).toInt + 1 ≤ (σ1.1 662 a0).toInt)) (oPo A L τ cy D) A) := by
  refine oMk (by decide) (Nat.le_of_ble_eq_true rfl) rfl ?_
  intro p e s m args below meth c ls cx rx hA hw hl
  generalize hQ : MQ below _ args s 0 0 A = Q
  have hx := cx.1.1
  have hb := cx.1.2.1
  have hml := cx.1.2.2.1
  have hown := cx.1.2.2.2.1
  have hts := cx.1.2.2.2.2
  have hl : lv_has ls 3 [(0, .ref a0), (1, .int a1)] := hl
  have fr : oFr τ fs_X11_readAct ts_X11_readAct σ σ := oFr_rf
  refine lv_aload_n hx hb dX11_readAct_0 rfl (lv_at hl 0 rfl) ?_
  have i1 : Iv (σ.1 661 a0) 0 80 := o_fb (j := 661) hw ha0 rfl
  refine o_ci hw (oRunV cx hA hw q_X11_here k_m_X11_130 rfl ha0 (by decide) (As := []) (c_X11_hereT a0 ha0 b0 (hF0) hb0 (kn_iv (rfl) (iv_w hf660 (by decide)))) (by decide) rfl hl.1 rfl (Nat.le_of_ble_eq_true rfl) dX11_readAct_1 (by decide)) (fun v3 σ2 H locs hp hw => ?_)
  obtain ⟨p3_0, p3_1, p3_2, p3_3, p3_4, p3_5, p3_6⟩ := hp
  rw [p3_0] at hw
  have hnv3 := congrArg Int32.toInt p3_6
  refine lv_istore_n (lv' := [(2, .int v3), (0, .ref a0), (1, .int a1)]) hx hb dX11_readAct_4 rfl hl (by decide) rfl (fun ls hl => ?_)
  refine lv_iload_n hx hb dX11_readAct_5 rfl (lv_at hl 0 rfl) ?_
  refine lv_bipush (v := 104) hx hb dX11_readAct_6 (by decide) ?_
  refine lv_icmp_eq (tgt := 49) hx hb dX11_readAct_8 (by decide) (fun c4 => ?_) (fun c4 => ?_)
  · --
    have i5 : Iv v3 104 104 := iv_eq1 c4 p3_1 (⟨by decide, by decide⟩ : Iv 104 104 104) (by decide)
    have i6 : Iv (σ.1 662 a0) 0 79 := (fun h => kn_iv2 (rfl) (p3_2 h)) (ge0_iv i5 (by decide))
    refine lv_aload_n hx hb dX11_readAct_49 rfl (lv_at hl 1 rfl) ?_
    refine lv_dup hx hb dX11_readAct_50 rfl ?_
    refine g_662 cx hw ha0 k_f_X11_120 dX11_readAct_51 (fun v7 e7 i7 => ?_)
    rw [show v7 = (σ.1 662 a0) from e7.trans rfl]
    refine lv_iconst (v := 1) hx hb dX11_readAct_54 (by decide) ?_
    refine lv_iadd hx hb dX11_readAct_55 ?_
    refine lv_topi (fun v8 e8 => ?_)
    have i8 : Iv v8 1 80 := iv_add e8 i6 (⟨by decide, by decide⟩ : Iv 1 1 1) (by decide)
    have x8 : v8.toInt = (σ.1 662 a0).toInt + 1 := ex_add e8 i6 (⟨by decide, by decide⟩ : Iv 1 1 1) (by decide)
    refine p_662 cx hw ha0 (iv_w i8 (by decide)) k_f_X11_120 dX11_readAct_56 (fun σ9 H locs eσ9 hw => ?_)
    have fr := oFr_i fr eσ9 (by decide)
    refine lv_aload_n hx hb dX11_readAct_59 rfl (lv_at hl 1 rfl) ?_
    refine g_674 cx hw ha0 k_f_X11_61 dX11_readAct_60 (fun v10 e10 h10 => ?_)
    refine lv_iload_n hx hb dX11_readAct_63 rfl (lv_at hl 2 rfl) ?_
    refine lv_iload_n hx hb dX11_readAct_64 rfl (lv_at hl 0 rfl) ?_
    refine o_iast cx hw h10 (by decide) rfl (iv_in ia1 (by decide)) trivial dX11_readAct_65 (fun σ11 H locs eσ11 hw => ?_)
    have fr := oFr_p fr eσ11 h10 (by decide)
    refine lv_iload_n hx hb dX11_readAct_66 rfl (lv_at hl 0 rfl) ?_
    have q12 : ¬ v3 = 100 := fun h => iv_no (iv_eq1 (lo := 104) (hi := 100) h i5 (⟨by decide, by decide⟩ : Iv 100 100 100) (by decide)) (by decide)
    by_cases q13 : v3 = 104
    · --
      refine lv_lookup (off := 41) (tgt := 108) hx hb dX11_readAct_67 (by decide) (by rw [q13] <;> decide) (by decide) ?_
      have i14 : Iv v3 104 104 := iv_eq1 q13 i5 (⟨by decide, by decide⟩ : Iv 104 104 104) (by decide)
      refine lv_aload_n hx hb dX11_readAct_108 rfl (lv_at hl 1 rfl) ?_
      refine g_674 cx hw ha0 k_f_X11_61 dX11_readAct_109 (fun v15 e15 h15 => ?_)
      rw [show v15 = v10 from Option.some.inj (e15.symm.trans (((kr_p eσ11).trans e10)))]
      refine lv_iload_n hx hb dX11_readAct_112 rfl (lv_at hl 2 rfl) ?_
      refine lv_iconst (v := 1) hx hb dX11_readAct_113 (by decide) ?_
      refine lv_iadd hx hb dX11_readAct_114 ?_
      refine lv_topi (fun v16 e16 => ?_)
      have i16 : Iv v16 1 317 := iv_add e16 ia1 (⟨by decide, by decide⟩ : Iv 1 1 1) (by decide)
      have x16 : v16.toInt = a1.toInt + 1 := ex_add e16 ia1 (⟨by decide, by decide⟩ : Iv 1 1 1) (by decide)
      refine lv_aload_n hx hb dX11_readAct_115 rfl (lv_at hl 1 rfl) ?_
      have z17 : (σ11.1 662 a0).toInt = (v8 : Int32).toInt := congrArg Int32.toInt (show σ11.1 662 a0 = v8 from ((kp_p eσ11).trans (kp_s eσ9)))
      have z18 : (σ11.1 660 a0).toInt = ((σ.1 660 a0) : Int32).toInt := congrArg Int32.toInt (show σ11.1 660 a0 = (σ.1 660 a0) from ((kp_p eσ11).trans ((kp_i eσ9 (by decide)).trans rfl)))
      have z19 : (σ11.1 661 a0).toInt = ((σ.1 661 a0) : Int32).toInt := congrArg Int32.toInt (show σ11.1 661 a0 = (σ.1 661 a0) from ((kp_p eσ11).trans ((kp_i eσ9 (by decide)).trans rfl)))
      refine o_ci hw (oRunV cx hA hw q_X11_here k_m_X11_130 rfl ha0 (by decide) (As := []) (c_X11_hereT a0 ha0 b0 (((kr_p eσ11).trans ((kr_i eσ9).trans hF0))) hb0 (kn_iv (((kp_p eσ11).trans ((kp_i eσ9 (by decide)).trans rfl))) (iv_w hf660 (by decide)))) (by decide) rfl hl.1 rfl (Nat.le_of_ble_eq_true rfl) dX11_readAct_116 (by decide)) (fun v21 σ20 H locs hp hw => ?_)
      obtain ⟨p21_0, p21_1, p21_2, p21_3, p21_4, p21_5, p21_6⟩ := hp
      rw [p21_0] at hw
      have hnv21 := congrArg Int32.toInt p21_6
      refine lv_bipush (v := 49) hx hb dX11_readAct_119 (by decide) ?_
      refine lv_bipush (v := 57) hx hb dX11_readAct_121 (by decide) ?_
      refine o_ci hw (oRunS cx hA hw q_X11_in k_m_X11_95 (As := [.int v21, .int 49, .int 57]) (c_X11_in v21 49 57) (by decide) rfl hl.1 rfl (Nat.le_of_ble_eq_true rfl) dX11_readAct_123 (by decide)) (fun v23 σ22 H locs hp hw => ?_)
      obtain ⟨p23_0, p23_1, p23_2, p23_3, p23_4, p23_5⟩ := hp
      rw [p23_0] at hw
      refine lv_if_eq (tgt := 142) hx hb dX11_readAct_126 (by decide) (fun c24 => ?_) (fun c24 => ?_)
      · --
        have i25 : Iv v23 0 0 := iv_eq1 c24 p23_1 (⟨by decide, by decide⟩ : Iv 0 0 0) (by decide)
        refine lv_iconst (v := 1) hx hb dX11_readAct_142 (by decide) ?_
        refine o_iast cx hw h10 (by decide) rfl (iv_in i16 (by decide)) trivial dX11_readAct_143 (fun σ26 H locs eσ26 hw => ?_)
        have fr := oFr_p fr eσ26 h10 (by decide)
        rw [← hQ]
        exact o_rv cx rx hw dX11_readAct_144 ⟨fr, (by exact (by have := (ia1).1; have := (ia1).2; have := (i14).1; have := (i14).2; have := (hf660).1; have := (hf660).2; have := (i1).1; have := (i1).2; have := (i8).1; have := (i8).2; have := (i6).1; have := (i6).2; have := (i16).1; have := (i16).2; have := (p21_1).1; have := (p21_1).2; have := (i25).1; have := (i25).2; have : (σ26.1 660 a0).toInt = ((σ.1 660 a0) : Int32).toInt := congrArg Int32.toInt (show σ26.1 660 a0 = (σ.1 660 a0) from ((kp_p eσ26).trans ((kp_p eσ11).trans ((kp_i eσ9 (by decide)).trans rfl)))); have : (σ26.1 661 a0).toInt = ((σ.1 661 a0) : Int32).toInt := congrArg Int32.toInt (show σ26.1 661 a0 = (σ.1 661 a0) from ((kp_p eσ26).trans ((kp_p eσ11).trans ((kp_i eσ9 (by decide)).trans rfl)))); have : (σ26.1 662 a0).toInt = (v8 : Int32).toInt := congrArg Int32.toInt (show σ26.1 662 a0 = v8 from ((kp_p eσ26).trans ((kp_p eσ11).trans (kp_s eσ9)))); have : (v3 : Int32).toInt = (104 : Int32).toInt := congrArg Int32.toInt c4; have : (v23 : Int32).toInt = (0 : Int32).toInt := congrArg Int32.toInt c24; have : (0 : Int32).toInt = 0 := (by decide); have : (104 : Int32).toInt = 104 := (by decide); have : (49 : Int32).toInt = 49 := (by decide); have : (57 : Int32).toInt = 57 := (by decide); omega))⟩
      · --
        have i27 : Iv v23 1 1 := iv_ne1 c24 p23_1 (⟨by decide, by decide⟩ : Iv 0 0 0) (by decide)
        have i28 : Iv v21 49 57 := (fun h => iv_rel (p23_2 h) (⟨by decide, by decide⟩ : Iv 49 49 49) (⟨by decide, by decide⟩ : Iv 57 57 57)) c24
        have i29 : Iv v8 0 79 := (fun h => kn_iv2 (((kp_p eσ11).trans (kp_s eσ9))) (p21_2 h)) (ge0_iv i28 (by decide))
        refine lv_aload_n hx hb dX11_readAct_129 rfl (lv_at hl 1 rfl) ?_
        refine lv_bipush (v := 49) hx hb dX11_readAct_130 (by decide) ?_
        refine lv_bipush (v := 9) hx hb dX11_readAct_132 (by decide) ?_
        have z30 : (σ11.1 662 a0).toInt = (v8 : Int32).toInt := congrArg Int32.toInt (show σ11.1 662 a0 = v8 from ((kp_p eσ11).trans (kp_s eσ9)))
        have z31 : (σ11.1 660 a0).toInt = ((σ.1 660 a0) : Int32).toInt := congrArg Int32.toInt (show σ11.1 660 a0 = (σ.1 660 a0) from ((kp_p eσ11).trans ((kp_i eσ9 (by decide)).trans rfl)))
        have i32 : Iv (σ11.1 663 a0) (-1) 200 := o_fb (j := 663) hw ha0 rfl
        have z33 : (σ11.1 661 a0).toInt = ((σ.1 661 a0) : Int32).toInt := congrArg Int32.toInt (show σ11.1 661 a0 = (σ.1 661 a0) from ((kp_p eσ11).trans ((kp_i eσ9 (by decide)).trans rfl)))
        refine o_ci hw (oRunV cx hA hw q_X11_oneOf k_m_X11_171 rfl ha0 (by decide) (As := [.int 49, .int 9]) (c_X11_oneOfT a0 ha0 49 (iv_w (⟨by decide, by decide⟩ : Iv 49 49 49) (by decide)) 9 (iv_w (⟨by decide, by decide⟩ : Iv 9 9 9) (by decide)) b0 (((kr_p eσ11).trans ((kr_i eσ9).trans hF0))) hb0 (kn_iv (((kp_p eσ11).trans ((kp_i eσ9 (by decide)).trans rfl))) (iv_w hf660 (by decide)))) (by decide) rfl hl.1 rfl (Nat.le_of_ble_eq_true rfl) dX11_readAct_134 (by decide)) (fun v35 σ34 H locs hp hw => ?_)
        obtain ⟨p35_0, p35_1, p35_2, p35_3, p35_4, p35_5⟩ := hp
        have fr := oFr_tr fr p35_0 (by decide)
        have i36 : Iv (σ34.1 662 a0) 0 200 := o_fb (j := 662) hw ha0 rfl
        have i37 : Iv (σ34.1 663 a0) (-1) 200 := o_fb (j := 663) hw ha0 rfl
        have i38 : Iv v35 0 8 := iv_lt0 p35_2 (⟨by decide, by decide⟩ : Iv 9 9 9) (by decide)
        refine lv_iconst (v := 1) hx hb dX11_readAct_137 (by decide) ?_
        refine lv_iadd hx hb dX11_readAct_138 ?_
        refine lv_topi (fun v39 e39 => ?_)
        have i39 : Iv v39 1 9 := iv_add e39 i38 (⟨by decide, by decide⟩ : Iv 1 1 1) (by decide)
        have x39 : v39.toInt = v35.toInt + 1 := ex_add e39 i38 (⟨by decide, by decide⟩ : Iv 1 1 1) (by decide)
        refine lv_goto (tgt := 143) hx hb dX11_readAct_139 (by decide) ?_
        refine o_iast cx hw h10 (by decide) rfl (iv_in i16 (by decide)) trivial dX11_readAct_143 (fun σ40 H locs eσ40 hw => ?_)
        have fr := oFr_p fr eσ40 h10 (by decide)
        rw [← hQ]
        exact o_rv cx rx hw dX11_readAct_144 ⟨fr, (by exact (by have := (ia1).1; have := (ia1).2; have := (i14).1; have := (i14).2; have := (hf660).1; have := (hf660).2; have := (i1).1; have := (i1).2; have := (i36).1; have := (i36).2; have := (i37).1; have := (i37).2; have := (i6).1; have := (i6).2; have := (i29).1; have := (i29).2; have := (i16).1; have := (i16).2; have := (i28).1; have := (i28).2; have := (i27).1; have := (i27).2; have := (i32).1; have := (i32).2; have := (i38).1; have := (i38).2; have := (i39).1; have := (i39).2; have : (σ40.1 660 a0).toInt = ((σ.1 660 a0) : Int32).toInt := congrArg Int32.toInt (show σ40.1 660 a0 = (σ.1 660 a0) from ((kp_p eσ40).trans ((kp_c p35_0 (by decide)).trans ((kp_p eσ11).trans ((kp_i eσ9 (by decide)).trans rfl))))); have : (σ40.1 661 a0).toInt = ((σ.1 661 a0) : Int32).toInt := congrArg Int32.toInt (show σ40.1 661 a0 = (σ.1 661 a0) from ((kp_p eσ40).trans ((kp_c p35_0 (by decide)).trans ((kp_p eσ11).trans ((kp_i eσ9 (by decide)).trans rfl))))); have : (σ40.1 662 a0).toInt = ((σ34.1 662 a0) : Int32).toInt := congrArg Int32.toInt (show σ40.1 662 a0 = (σ34.1 662 a0) from ((kp_p eσ40).trans rfl)); have : (σ40.1 663 a0).toInt = ((σ34.1 663 a0) : Int32).toInt := congrArg Int32.toInt (show σ40.1 663 a0 = (σ34.1 663 a0) from ((kp_p eσ40).trans rfl)); have : (v3 : Int32).toInt = (104 : Int32).toInt := congrArg Int32.toInt c4; have : (104 : Int32).toInt = 104 := (by decide); have : (49 : Int32).toInt = 49 := (by decide); have : (57 : Int32).toInt = 57 := (by decide); have : (9 : Int32).toInt = 9 := (by decide); omega))⟩
    have q41 : ¬ v3 = 115 := fun h => iv_no (iv_eq1 (lo := 115) (hi := 104) h i5 (⟨by decide, by decide⟩ : Iv 115 115 115) (by decide)) (by decide)
    have q42 : ¬ v3 = 116 := fun h => iv_no (iv_eq1 (lo := 116) (hi := 104) h i5 (⟨by decide, by decide⟩ : Iv 116 116 116) (by decide)) (by decide)
    have q12 := iv_nt q12 (k := 100) (by decide)
    have q13 := iv_nt q13 (k := 104) (by decide)
    have q41 := iv_nt q41 (k := 115) (by decide)
    have q42 := iv_nt q42 (k := 116) (by decide)
    refine lv_lookup (off := 136) (tgt := 203) hx hb dX11_readAct_67 (by decide) (by simp [Op.lookupswitch.offset, q12, Ne.symm q12, q13, Ne.symm q13, q41, Ne.symm q41, q42, Ne.symm q42]) (by decide) ?_
    refine lv_aload_n hx hb dX11_readAct_203 rfl (lv_at hl 1 rfl) ?_
    refine g_674 cx hw ha0 k_f_X11_61 dX11_readAct_204 (fun v43 e43 h43 => ?_)
    rw [show v43 = v10 from Option.some.inj (e43.symm.trans (((kr_p eσ11).trans e10)))]
    refine lv_iload_n hx hb dX11_readAct_207 rfl (lv_at hl 2 rfl) ?_
    refine lv_iconst (v := 1) hx hb dX11_readAct_208 (by decide) ?_
    refine lv_iadd hx hb dX11_readAct_209 ?_
    refine lv_topi (fun v44 e44 => ?_)
    have i44 : Iv v44 1 317 := iv_add e44 ia1 (⟨by decide, by decide⟩ : Iv 1 1 1) (by decide)
    have x44 : v44.toInt = a1.toInt + 1 := ex_add e44 ia1 (⟨by decide, by decide⟩ : Iv 1 1 1) (by decide)
    refine lv_aload_n hx hb dX11_readAct_210 rfl (lv_at hl 1 rfl) ?_
    refine lv_bipush (v := 48) hx hb dX11_readAct_211 (by decide) ?_
    refine lv_bipush (v := 10) hx hb dX11_readAct_213 (by decide) ?_
    have z45 : (σ11.1 662 a0).toInt = (v8 : Int32).toInt := congrArg Int32.toInt (show σ11.1 662 a0 = v8 from ((kp_p eσ11).trans (kp_s eσ9)))
    have z46 : (σ11.1 660 a0).toInt = ((σ.1 660 a0) : Int32).toInt := congrArg Int32.toInt (show σ11.1 660 a0 = (σ.1 660 a0) from ((kp_p eσ11).trans ((kp_i eσ9 (by decide)).trans rfl)))
    have i47 : Iv (σ11.1 663 a0) (-1) 200 := o_fb (j := 663) hw ha0 rfl
    have z48 : (σ11.1 661 a0).toInt = ((σ.1 661 a0) : Int32).toInt := congrArg Int32.toInt (show σ11.1 661 a0 = (σ.1 661 a0) from ((kp_p eσ11).trans ((kp_i eσ9 (by decide)).trans rfl)))
    refine o_ci hw (oRunV cx hA hw q_X11_oneOf k_m_X11_171 rfl ha0 (by decide) (As := [.int 48, .int 10]) (c_X11_oneOfT a0 ha0 48 (iv_w (⟨by decide, by decide⟩ : Iv 48 48 48) (by decide)) 10 (iv_w (⟨by decide, by decide⟩ : Iv 10 10 10) (by decide)) b0 (((kr_p eσ11).trans ((kr_i eσ9).trans hF0))) hb0 (kn_iv (((kp_p eσ11).trans ((kp_i eσ9 (by decide)).trans rfl))) (iv_w hf660 (by decide)))) (by decide) rfl hl.1 rfl (Nat.le_of_ble_eq_true rfl) dX11_readAct_215 (by decide)) (fun v50 σ49 H locs hp hw => ?_)
    obtain ⟨p50_0, p50_1, p50_2, p50_3, p50_4, p50_5⟩ := hp
    have fr := oFr_tr fr p50_0 (by decide)
    have i51 : Iv (σ49.1 662 a0) 0 200 := o_fb (j := 662) hw ha0 rfl
    have i52 : Iv (σ49.1 663 a0) (-1) 200 := o_fb (j := 663) hw ha0 rfl
    have i53 : Iv v50 0 9 := iv_lt0 p50_2 (⟨by decide, by decide⟩ : Iv 10 10 10) (by decide)
    refine o_iast cx hw h10 (by decide) rfl (iv_in i44 (by decide)) trivial dX11_readAct_218 (fun σ54 H locs eσ54 hw => ?_)
    have fr := oFr_p fr eσ54 h10 (by decide)
    rw [← hQ]
    exact o_rv cx rx hw dX11_readAct_219 ⟨fr, (by exact (by have := (ia1).1; have := (ia1).2; have := (i5).1; have := (i5).2; have := (hf660).1; have := (hf660).2; have := (i1).1; have := (i1).2; have := (i51).1; have := (i51).2; have := (i52).1; have := (i52).2; have := (i6).1; have := (i6).2; have := (i8).1; have := (i8).2; have := (i44).1; have := (i44).2; have := (i47).1; have := (i47).2; have := (i53).1; have := (i53).2; have : (σ54.1 660 a0).toInt = ((σ.1 660 a0) : Int32).toInt := congrArg Int32.toInt (show σ54.1 660 a0 = (σ.1 660 a0) from ((kp_p eσ54).trans ((kp_c p50_0 (by decide)).trans ((kp_p eσ11).trans ((kp_i eσ9 (by decide)).trans rfl))))); have : (σ54.1 661 a0).toInt = ((σ.1 661 a0) : Int32).toInt := congrArg Int32.toInt (show σ54.1 661 a0 = (σ.1 661 a0) from ((kp_p eσ54).trans ((kp_c p50_0 (by decide)).trans ((kp_p eσ11).trans ((kp_i eσ9 (by decide)).trans rfl))))); have : (σ54.1 662 a0).toInt = ((σ49.1 662 a0) : Int32).toInt := congrArg Int32.toInt (show σ54.1 662 a0 = (σ49.1 662 a0) from ((kp_p eσ54).trans rfl)); have : (σ54.1 663 a0).toInt = ((σ49.1 663 a0) : Int32).toInt := congrArg Int32.toInt (show σ54.1 663 a0 = (σ49.1 663 a0) from ((kp_p eσ54).trans rfl)); have : (v3 : Int32).toInt = (104 : Int32).toInt := congrArg Int32.toInt c4; have : (10 : Int32).toInt = 10 := (by decide); have : (104 : Int32).toInt = 104 := (by decide); have : (48 : Int32).toInt = 48 := (by decide); omega))⟩
  · --
    refine lv_iload_n hx hb dX11_readAct_11 rfl (lv_at hl 0 rfl) ?_
    refine lv_bipush (v := 115) hx hb dX11_readAct_12 (by decide) ?_
    refine lv_icmp_eq (tgt := 49) hx hb dX11_readAct_14 (by decide) (fun c55 => ?_) (fun c55 => ?_)
    · --
      have i56 : Iv v3 115 115 := iv_eq1 c55 p3_1 (⟨by decide, by decide⟩ : Iv 115 115 115) (by decide)
      have i57 : Iv (σ.1 662 a0) 0 79 := (fun h => kn_iv2 (rfl) (p3_2 h)) (ge0_iv i56 (by decide))
      refine lv_aload_n hx hb dX11_readAct_49 rfl (lv_at hl 1 rfl) ?_
      refine lv_dup hx hb dX11_readAct_50 rfl ?_
      refine g_662 cx hw ha0 k_f_X11_120 dX11_readAct_51 (fun v58 e58 i58 => ?_)
      rw [show v58 = (σ.1 662 a0) from e58.trans rfl]
      refine lv_iconst (v := 1) hx hb dX11_readAct_54 (by decide) ?_
      refine lv_iadd hx hb dX11_readAct_55 ?_
      refine lv_topi (fun v59 e59 => ?_)
      have i59 : Iv v59 1 80 := iv_add e59 i57 (⟨by decide, by decide⟩ : Iv 1 1 1) (by decide)
      have x59 : v59.toInt = (σ.1 662 a0).toInt + 1 := ex_add e59 i57 (⟨by decide, by decide⟩ : Iv 1 1 1) (by decide)
      refine p_662 cx hw ha0 (iv_w i59 (by decide)) k_f_X11_120 dX11_readAct_56 (fun σ60 H locs eσ60 hw => ?_)
      have fr := oFr_i fr eσ60 (by decide)
      refine lv_aload_n hx hb dX11_readAct_59 rfl (lv_at hl 1 rfl) ?_
      refine g_674 cx hw ha0 k_f_X11_61 dX11_readAct_60 (fun v61 e61 h61 => ?_)
      refine lv_iload_n hx hb dX11_readAct_63 rfl (lv_at hl 2 rfl) ?_
      refine lv_iload_n hx hb dX11_readAct_64 rfl (lv_at hl 0 rfl) ?_
      refine o_iast cx hw h61 (by decide) rfl (iv_in ia1 (by decide)) trivial dX11_readAct_65 (fun σ62 H locs eσ62 hw => ?_)
      have fr := oFr_p fr eσ62 h61 (by decide)
      refine lv_iload_n hx hb dX11_readAct_66 rfl (lv_at hl 0 rfl) ?_
      have q63 : ¬ v3 = 100 := fun h => iv_no (iv_eq1 (lo := 115) (hi := 100) h i56 (⟨by decide, by decide⟩ : Iv 100 100 100) (by decide)) (by decide)
      have q64 : ¬ v3 = 104 := fun h => iv_no (iv_eq1 (lo := 115) (hi := 104) h i56 (⟨by decide, by decide⟩ : Iv 104 104 104) (by decide)) (by decide)
      by_cases q65 : v3 = 115
      · --
        refine lv_lookup (off := 78) (tgt := 145) hx hb dX11_readAct_67 (by decide) (by rw [q65] <;> decide) (by decide) ?_
        have i66 : Iv v3 115 115 := iv_eq1 q65 i56 (⟨by decide, by decide⟩ : Iv 115 115 115) (by decide)
        refine lv_aload_n hx hb dX11_readAct_145 rfl (lv_at hl 1 rfl) ?_
        refine g_674 cx hw ha0 k_f_X11_61 dX11_readAct_146 (fun v67 e67 h67 => ?_)
        rw [show v67 = v61 from Option.some.inj (e67.symm.trans (((kr_p eσ62).trans e61)))]
        refine lv_iload_n hx hb dX11_readAct_149 rfl (lv_at hl 2 rfl) ?_
        refine lv_iconst (v := 1) hx hb dX11_readAct_150 (by decide) ?_
        refine lv_iadd hx hb dX11_readAct_151 ?_
        refine lv_topi (fun v68 e68 => ?_)
        have i68 : Iv v68 1 317 := iv_add e68 ia1 (⟨by decide, by decide⟩ : Iv 1 1 1) (by decide)
        have x68 : v68.toInt = a1.toInt + 1 := ex_add e68 ia1 (⟨by decide, by decide⟩ : Iv 1 1 1) (by decide)
        refine lv_aload_n hx hb dX11_readAct_152 rfl (lv_at hl 1 rfl) ?_
        have z69 : (σ62.1 662 a0).toInt = (v59 : Int32).toInt := congrArg Int32.toInt (show σ62.1 662 a0 = v59 from ((kp_p eσ62).trans (kp_s eσ60)))
        have z70 : (σ62.1 660 a0).toInt = ((σ.1 660 a0) : Int32).toInt := congrArg Int32.toInt (show σ62.1 660 a0 = (σ.1 660 a0) from ((kp_p eσ62).trans ((kp_i eσ60 (by decide)).trans rfl)))
        have i71 : Iv (σ62.1 663 a0) (-1) 200 := o_fb (j := 663) hw ha0 rfl
        have z72 : (σ62.1 661 a0).toInt = ((σ.1 661 a0) : Int32).toInt := congrArg Int32.toInt (show σ62.1 661 a0 = (σ.1 661 a0) from ((kp_p eσ62).trans ((kp_i eσ60 (by decide)).trans rfl)))
        refine o_ci hw (oRunV cx hA hw q_X11_readCell k_m_X11_302 rfl ha0 (by decide) (As := []) (c_X11_readCell a0 ha0 b0 (((kr_p eσ62).trans ((kr_i eσ60).trans hF0))) hb0 (kn_iv (((kp_p eσ62).trans ((kp_i eσ60 (by decide)).trans rfl))) (iv_w hf660 (by decide)))) (by decide) rfl hl.1 rfl (Nat.le_of_ble_eq_true rfl) dX11_readAct_153 (by decide)) (fun v74 σ73 H locs hp hw => ?_)
        obtain ⟨p74_0, p74_1, p74_2⟩ := hp
        have fr := oFr_tr fr p74_0 (by decide)
        have i75 : Iv (σ73.1 662 a0) 0 200 := o_fb (j := 662) hw ha0 rfl
        have i76 : Iv (σ73.1 663 a0) (-1) 200 := o_fb (j := 663) hw ha0 rfl
        refine o_iast cx hw h61 (by decide) rfl (iv_in i68 (by decide)) trivial dX11_readAct_156 (fun σ77 H locs eσ77 hw => ?_)
        have fr := oFr_p fr eσ77 h61 (by decide)
        refine lv_aload_n hx hb dX11_readAct_157 rfl (lv_at hl 1 rfl) ?_
        refine g_674 cx hw ha0 k_f_X11_61 dX11_readAct_158 (fun v78 e78 h78 => ?_)
        rw [show v78 = v61 from Option.some.inj (e78.symm.trans (((kr_p eσ77).trans ((kr_c p74_0 (by decide)).trans ((kr_p eσ62).trans e61)))))]
        refine lv_iload_n hx hb dX11_readAct_161 rfl (lv_at hl 2 rfl) ?_
        refine lv_iconst (v := 2) hx hb dX11_readAct_162 (by decide) ?_
        refine lv_iadd hx hb dX11_readAct_163 ?_
        refine lv_topi (fun v79 e79 => ?_)
        have i79 : Iv v79 2 318 := iv_add e79 ia1 (⟨by decide, by decide⟩ : Iv 2 2 2) (by decide)
        have x79 : v79.toInt = a1.toInt + 2 := ex_add e79 ia1 (⟨by decide, by decide⟩ : Iv 2 2 2) (by decide)
        refine lv_aload_n hx hb dX11_readAct_164 rfl (lv_at hl 1 rfl) ?_
        refine lv_bipush (v := 48) hx hb dX11_readAct_165 (by decide) ?_
        refine lv_bipush (v := 10) hx hb dX11_readAct_167 (by decide) ?_
        have z80 : (σ77.1 662 a0).toInt = ((σ73.1 662 a0) : Int32).toInt := congrArg Int32.toInt (show σ77.1 662 a0 = (σ73.1 662 a0) from ((kp_p eσ77).trans rfl))
        have z81 : (σ77.1 660 a0).toInt = ((σ.1 660 a0) : Int32).toInt := congrArg Int32.toInt (show σ77.1 660 a0 = (σ.1 660 a0) from ((kp_p eσ77).trans ((kp_c p74_0 (by decide)).trans ((kp_p eσ62).trans ((kp_i eσ60 (by decide)).trans rfl)))))
        have z82 : (σ77.1 663 a0).toInt = ((σ73.1 663 a0) : Int32).toInt := congrArg Int32.toInt (show σ77.1 663 a0 = (σ73.1 663 a0) from ((kp_p eσ77).trans rfl))
        have z83 : (σ77.1 661 a0).toInt = ((σ.1 661 a0) : Int32).toInt := congrArg Int32.toInt (show σ77.1 661 a0 = (σ.1 661 a0) from ((kp_p eσ77).trans ((kp_c p74_0 (by decide)).trans ((kp_p eσ62).trans ((kp_i eσ60 (by decide)).trans rfl)))))
        refine o_ci hw (oRunV cx hA hw q_X11_oneOf k_m_X11_171 rfl ha0 (by decide) (As := [.int 48, .int 10]) (c_X11_oneOfT a0 ha0 48 (iv_w (⟨by decide, by decide⟩ : Iv 48 48 48) (by decide)) 10 (iv_w (⟨by decide, by decide⟩ : Iv 10 10 10) (by decide)) b0 (((kr_p eσ77).trans ((kr_c p74_0 (by decide)).trans ((kr_p eσ62).trans ((kr_i eσ60).trans hF0))))) hb0 (kn_iv (((kp_p eσ77).trans ((kp_c p74_0 (by decide)).trans ((kp_p eσ62).trans ((kp_i eσ60 (by decide)).trans rfl))))) (iv_w hf660 (by decide)))) (by decide) rfl hl.1 rfl (Nat.le_of_ble_eq_true rfl) dX11_readAct_169 (by decide)) (fun v85 σ84 H locs hp hw => ?_)
        obtain ⟨p85_0, p85_1, p85_2, p85_3, p85_4, p85_5⟩ := hp
        have fr := oFr_tr fr p85_0 (by decide)
        have i86 : Iv (σ84.1 662 a0) 0 200 := o_fb (j := 662) hw ha0 rfl
        have i87 : Iv (σ84.1 663 a0) (-1) 200 := o_fb (j := 663) hw ha0 rfl
        have i88 : Iv v85 0 9 := iv_lt0 p85_2 (⟨by decide, by decide⟩ : Iv 10 10 10) (by decide)
        refine o_iast cx hw h61 (by decide) rfl (iv_in i79 (by decide)) trivial dX11_readAct_172 (fun σ89 H locs eσ89 hw => ?_)
        have fr := oFr_p fr eσ89 h61 (by decide)
        rw [← hQ]
        exact o_rv cx rx hw dX11_readAct_173 ⟨fr, (by exact (by have := (ia1).1; have := (ia1).2; have := (i66).1; have := (i66).2; have := (hf660).1; have := (hf660).2; have := (i1).1; have := (i1).2; have := (i86).1; have := (i86).2; have := (i87).1; have := (i87).2; have := (i57).1; have := (i57).2; have := (i59).1; have := (i59).2; have := (i68).1; have := (i68).2; have := (i71).1; have := (i71).2; have := (i75).1; have := (i75).2; have := (i76).1; have := (i76).2; have := (p74_1).1; have := (p74_1).2; have := (i79).1; have := (i79).2; have := (i88).1; have := (i88).2; have : (σ89.1 660 a0).toInt = ((σ.1 660 a0) : Int32).toInt := congrArg Int32.toInt (show σ89.1 660 a0 = (σ.1 660 a0) from ((kp_p eσ89).trans ((kp_c p85_0 (by decide)).trans ((kp_p eσ77).trans ((kp_c p74_0 (by decide)).trans ((kp_p eσ62).trans ((kp_i eσ60 (by decide)).trans rfl))))))); have : (σ89.1 661 a0).toInt = ((σ.1 661 a0) : Int32).toInt := congrArg Int32.toInt (show σ89.1 661 a0 = (σ.1 661 a0) from ((kp_p eσ89).trans ((kp_c p85_0 (by decide)).trans ((kp_p eσ77).trans ((kp_c p74_0 (by decide)).trans ((kp_p eσ62).trans ((kp_i eσ60 (by decide)).trans rfl))))))); have : (σ89.1 662 a0).toInt = ((σ84.1 662 a0) : Int32).toInt := congrArg Int32.toInt (show σ89.1 662 a0 = (σ84.1 662 a0) from ((kp_p eσ89).trans rfl)); have : (σ89.1 663 a0).toInt = ((σ84.1 663 a0) : Int32).toInt := congrArg Int32.toInt (show σ89.1 663 a0 = (σ84.1 663 a0) from ((kp_p eσ89).trans rfl)); have : (v3 : Int32).toInt ≠ (104 : Int32).toInt := fun q => c4 (Int32.toInt_inj.mp q); have : (v3 : Int32).toInt = (115 : Int32).toInt := congrArg Int32.toInt c55; have : (10 : Int32).toInt = 10 := (by decide); have : (104 : Int32).toInt = 104 := (by decide); have : (115 : Int32).toInt = 115 := (by decide); have : (48 : Int32).toInt = 48 := (by decide); omega))⟩
      have q90 : ¬ v3 = 116 := fun h => iv_no (iv_eq1 (lo := 116) (hi := 115) h i56 (⟨by decide, by decide⟩ : Iv 116 116 116) (by decide)) (by decide)
      have q63 := iv_nt q63 (k := 100) (by decide)
      have q64 := iv_nt q64 (k := 104) (by decide)
      have q65 := iv_nt q65 (k := 115) (by decide)
      have q90 := iv_nt q90 (k := 116) (by decide)
      refine lv_lookup (off := 136) (tgt := 203) hx hb dX11_readAct_67 (by decide) (by simp [Op.lookupswitch.offset, q63, Ne.symm q63, q64, Ne.symm q64, q65, Ne.symm q65, q90, Ne.symm q90]) (by decide) ?_
      refine lv_aload_n hx hb dX11_readAct_203 rfl (lv_at hl 1 rfl) ?_
      refine g_674 cx hw ha0 k_f_X11_61 dX11_readAct_204 (fun v91 e91 h91 => ?_)
      rw [show v91 = v61 from Option.some.inj (e91.symm.trans (((kr_p eσ62).trans e61)))]
      refine lv_iload_n hx hb dX11_readAct_207 rfl (lv_at hl 2 rfl) ?_
      refine lv_iconst (v := 1) hx hb dX11_readAct_208 (by decide) ?_
      refine lv_iadd hx hb dX11_readAct_209 ?_
      refine lv_topi (fun v92 e92 => ?_)
      have i92 : Iv v92 1 317 := iv_add e92 ia1 (⟨by decide, by decide⟩ : Iv 1 1 1) (by decide)
      have x92 : v92.toInt = a1.toInt + 1 := ex_add e92 ia1 (⟨by decide, by decide⟩ : Iv 1 1 1) (by decide)
      refine lv_aload_n hx hb dX11_readAct_210 rfl (lv_at hl 1 rfl) ?_
      refine lv_bipush (v := 48) hx hb dX11_readAct_211 (by decide) ?_
      refine lv_bipush (v := 10) hx hb dX11_readAct_213 (by decide) ?_
      have z93 : (σ62.1 662 a0).toInt = (v59 : Int32).toInt := congrArg Int32.toInt (show σ62.1 662 a0 = v59 from ((kp_p eσ62).trans (kp_s eσ60)))
      have z94 : (σ62.1 660 a0).toInt = ((σ.1 660 a0) : Int32).toInt := congrArg Int32.toInt (show σ62.1 660 a0 = (σ.1 660 a0) from ((kp_p eσ62).trans ((kp_i eσ60 (by decide)).trans rfl)))
      have i95 : Iv (σ62.1 663 a0) (-1) 200 := o_fb (j := 663) hw ha0 rfl
      have z96 : (σ62.1 661 a0).toInt = ((σ.1 661 a0) : Int32).toInt := congrArg Int32.toInt (show σ62.1 661 a0 = (σ.1 661 a0) from ((kp_p eσ62).trans ((kp_i eσ60 (by decide)).trans rfl)))
      refine o_ci hw (oRunV cx hA hw q_X11_oneOf k_m_X11_171 rfl ha0 (by decide) (As := [.int 48, .int 10]) (c_X11_oneOfT a0 ha0 48 (iv_w (⟨by decide, by decide⟩ : Iv 48 48 48) (by decide)) 10 (iv_w (⟨by decide, by decide⟩ : Iv 10 10 10) (by decide)) b0 (((kr_p eσ62).trans ((kr_i eσ60).trans hF0))) hb0 (kn_iv (((kp_p eσ62).trans ((kp_i eσ60 (by decide)).trans rfl))) (iv_w hf660 (by decide)))) (by decide) rfl hl.1 rfl (Nat.le_of_ble_eq_true rfl) dX11_readAct_215 (by decide)) (fun v98 σ97 H locs hp hw => ?_)
      obtain ⟨p98_0, p98_1, p98_2, p98_3, p98_4, p98_5⟩ := hp
      have fr := oFr_tr fr p98_0 (by decide)
      have i99 : Iv (σ97.1 662 a0) 0 200 := o_fb (j := 662) hw ha0 rfl
      have i100 : Iv (σ97.1 663 a0) (-1) 200 := o_fb (j := 663) hw ha0 rfl
      have i101 : Iv v98 0 9 := iv_lt0 p98_2 (⟨by decide, by decide⟩ : Iv 10 10 10) (by decide)
      refine o_iast cx hw h61 (by decide) rfl (iv_in i92 (by decide)) trivial dX11_readAct_218 (fun σ102 H locs eσ102 hw => ?_)
      have fr := oFr_p fr eσ102 h61 (by decide)
      rw [← hQ]
      exact o_rv cx rx hw dX11_readAct_219 ⟨fr, (by exact (by have := (ia1).1; have := (ia1).2; have := (i56).1; have := (i56).2; have := (hf660).1; have := (hf660).2; have := (i1).1; have := (i1).2; have := (i99).1; have := (i99).2; have := (i100).1; have := (i100).2; have := (i57).1; have := (i57).2; have := (i59).1; have := (i59).2; have := (i92).1; have := (i92).2; have := (i95).1; have := (i95).2; have := (i101).1; have := (i101).2; have : (σ102.1 660 a0).toInt = ((σ.1 660 a0) : Int32).toInt := congrArg Int32.toInt (show σ102.1 660 a0 = (σ.1 660 a0) from ((kp_p eσ102).trans ((kp_c p98_0 (by decide)).trans ((kp_p eσ62).trans ((kp_i eσ60 (by decide)).trans rfl))))); have : (σ102.1 661 a0).toInt = ((σ.1 661 a0) : Int32).toInt := congrArg Int32.toInt (show σ102.1 661 a0 = (σ.1 661 a0) from ((kp_p eσ102).trans ((kp_c p98_0 (by decide)).trans ((kp_p eσ62).trans ((kp_i eσ60 (by decide)).trans rfl))))); have : (σ102.1 662 a0).toInt = ((σ97.1 662 a0) : Int32).toInt := congrArg Int32.toInt (show σ102.1 662 a0 = (σ97.1 662 a0) from ((kp_p eσ102).trans rfl)); have : (σ102.1 663 a0).toInt = ((σ97.1 663 a0) : Int32).toInt := congrArg Int32.toInt (show σ102.1 663 a0 = (σ97.1 663 a0) from ((kp_p eσ102).trans rfl)); have : (v3 : Int32).toInt ≠ (104 : Int32).toInt := fun q => c4 (Int32.toInt_inj.mp q); have : (v3 : Int32).toInt = (115 : Int32).toInt := congrArg Int32.toInt c55; have : (10 : Int32).toInt = 10 := (by decide); have : (104 : Int32).toInt = 104 := (by decide); have : (115 : Int32).toInt = 115 := (by decide); have : (48 : Int32).toInt = 48 := (by decide); omega))⟩
    · --
      refine lv_iload_n hx hb dX11_readAct_17 rfl (lv_at hl 0 rfl) ?_
      refine lv_bipush (v := 116) hx hb dX11_readAct_18 (by decide) ?_
      refine lv_icmp_eq (tgt := 49) hx hb dX11_readAct_20 (by decide) (fun c103 => ?_) (fun c103 => ?_)
      · --
        have i104 : Iv v3 116 116 := iv_eq1 c103 p3_1 (⟨by decide, by decide⟩ : Iv 116 116 116) (by decide)
        have i105 : Iv (σ.1 662 a0) 0 79 := (fun h => kn_iv2 (rfl) (p3_2 h)) (ge0_iv i104 (by decide))
        refine lv_aload_n hx hb dX11_readAct_49 rfl (lv_at hl 1 rfl) ?_
        refine lv_dup hx hb dX11_readAct_50 rfl ?_
        refine g_662 cx hw ha0 k_f_X11_120 dX11_readAct_51 (fun v106 e106 i106 => ?_)
        rw [show v106 = (σ.1 662 a0) from e106.trans rfl]
        refine lv_iconst (v := 1) hx hb dX11_readAct_54 (by decide) ?_
        refine lv_iadd hx hb dX11_readAct_55 ?_
        refine lv_topi (fun v107 e107 => ?_)
        have i107 : Iv v107 1 80 := iv_add e107 i105 (⟨by decide, by decide⟩ : Iv 1 1 1) (by decide)
        have x107 : v107.toInt = (σ.1 662 a0).toInt + 1 := ex_add e107 i105 (⟨by decide, by decide⟩ : Iv 1 1 1) (by decide)
        refine p_662 cx hw ha0 (iv_w i107 (by decide)) k_f_X11_120 dX11_readAct_56 (fun σ108 H locs eσ108 hw => ?_)
        have fr := oFr_i fr eσ108 (by decide)
        refine lv_aload_n hx hb dX11_readAct_59 rfl (lv_at hl 1 rfl) ?_
        refine g_674 cx hw ha0 k_f_X11_61 dX11_readAct_60 (fun v109 e109 h109 => ?_)
        refine lv_iload_n hx hb dX11_readAct_63 rfl (lv_at hl 2 rfl) ?_
        refine lv_iload_n hx hb dX11_readAct_64 rfl (lv_at hl 0 rfl) ?_
        refine o_iast cx hw h109 (by decide) rfl (iv_in ia1 (by decide)) trivial dX11_readAct_65 (fun σ110 H locs eσ110 hw => ?_)
        have fr := oFr_p fr eσ110 h109 (by decide)
        refine lv_iload_n hx hb dX11_readAct_66 rfl (lv_at hl 0 rfl) ?_
        have q111 : ¬ v3 = 100 := fun h => iv_no (iv_eq1 (lo := 116) (hi := 100) h i104 (⟨by decide, by decide⟩ : Iv 100 100 100) (by decide)) (by decide)
        have q112 : ¬ v3 = 104 := fun h => iv_no (iv_eq1 (lo := 116) (hi := 104) h i104 (⟨by decide, by decide⟩ : Iv 104 104 104) (by decide)) (by decide)
        have q113 : ¬ v3 = 115 := fun h => iv_no (iv_eq1 (lo := 116) (hi := 115) h i104 (⟨by decide, by decide⟩ : Iv 115 115 115) (by decide)) (by decide)
        by_cases q114 : v3 = 116
        · --
          refine lv_lookup (off := 78) (tgt := 145) hx hb dX11_readAct_67 (by decide) (by rw [q114] <;> decide) (by decide) ?_
          have i115 : Iv v3 116 116 := iv_eq1 q114 i104 (⟨by decide, by decide⟩ : Iv 116 116 116) (by decide)
          refine lv_aload_n hx hb dX11_readAct_145 rfl (lv_at hl 1 rfl) ?_
          refine g_674 cx hw ha0 k_f_X11_61 dX11_readAct_146 (fun v116 e116 h116 => ?_)
          rw [show v116 = v109 from Option.some.inj (e116.symm.trans (((kr_p eσ110).trans e109)))]
          refine lv_iload_n hx hb dX11_readAct_149 rfl (lv_at hl 2 rfl) ?_
          refine lv_iconst (v := 1) hx hb dX11_readAct_150 (by decide) ?_
          refine lv_iadd hx hb dX11_readAct_151 ?_
          refine lv_topi (fun v117 e117 => ?_)
          have i117 : Iv v117 1 317 := iv_add e117 ia1 (⟨by decide, by decide⟩ : Iv 1 1 1) (by decide)
          have x117 : v117.toInt = a1.toInt + 1 := ex_add e117 ia1 (⟨by decide, by decide⟩ : Iv 1 1 1) (by decide)
          refine lv_aload_n hx hb dX11_readAct_152 rfl (lv_at hl 1 rfl) ?_
          have z118 : (σ110.1 662 a0).toInt = (v107 : Int32).toInt := congrArg Int32.toInt (show σ110.1 662 a0 = v107 from ((kp_p eσ110).trans (kp_s eσ108)))
          have z119 : (σ110.1 660 a0).toInt = ((σ.1 660 a0) : Int32).toInt := congrArg Int32.toInt (show σ110.1 660 a0 = (σ.1 660 a0) from ((kp_p eσ110).trans ((kp_i eσ108 (by decide)).trans rfl)))
          have i120 : Iv (σ110.1 663 a0) (-1) 200 := o_fb (j := 663) hw ha0 rfl
          have z121 : (σ110.1 661 a0).toInt = ((σ.1 661 a0) : Int32).toInt := congrArg Int32.toInt (show σ110.1 661 a0 = (σ.1 661 a0) from ((kp_p eσ110).trans ((kp_i eσ108 (by decide)).trans rfl)))
          refine o_ci hw (oRunV cx hA hw q_X11_readCell k_m_X11_302 rfl ha0 (by decide) (As := []) (c_X11_readCell a0 ha0 b0 (((kr_p eσ110).trans ((kr_i eσ108).trans hF0))) hb0 (kn_iv (((kp_p eσ110).trans ((kp_i eσ108 (by decide)).trans rfl))) (iv_w hf660 (by decide)))) (by decide) rfl hl.1 rfl (Nat.le_of_ble_eq_true rfl) dX11_readAct_153 (by decide)) (fun v123 σ122 H locs hp hw => ?_)
          obtain ⟨p123_0, p123_1, p123_2⟩ := hp
          have fr := oFr_tr fr p123_0 (by decide)
          have i124 : Iv (σ122.1 662 a0) 0 200 := o_fb (j := 662) hw ha0 rfl
          have i125 : Iv (σ122.1 663 a0) (-1) 200 := o_fb (j := 663) hw ha0 rfl
          refine o_iast cx hw h109 (by decide) rfl (iv_in i117 (by decide)) trivial dX11_readAct_156 (fun σ126 H locs eσ126 hw => ?_)
          have fr := oFr_p fr eσ126 h109 (by decide)
          refine lv_aload_n hx hb dX11_readAct_157 rfl (lv_at hl 1 rfl) ?_
          refine g_674 cx hw ha0 k_f_X11_61 dX11_readAct_158 (fun v127 e127 h127 => ?_)
          rw [show v127 = v109 from Option.some.inj (e127.symm.trans (((kr_p eσ126).trans ((kr_c p123_0 (by decide)).trans ((kr_p eσ110).trans e109)))))]
          refine lv_iload_n hx hb dX11_readAct_161 rfl (lv_at hl 2 rfl) ?_
          refine lv_iconst (v := 2) hx hb dX11_readAct_162 (by decide) ?_
          refine lv_iadd hx hb dX11_readAct_163 ?_
          refine lv_topi (fun v128 e128 => ?_)
          have i128 : Iv v128 2 318 := iv_add e128 ia1 (⟨by decide, by decide⟩ : Iv 2 2 2) (by decide)
          have x128 : v128.toInt = a1.toInt + 2 := ex_add e128 ia1 (⟨by decide, by decide⟩ : Iv 2 2 2) (by decide)
          refine lv_aload_n hx hb dX11_readAct_164 rfl (lv_at hl 1 rfl) ?_
          refine lv_bipush (v := 48) hx hb dX11_readAct_165 (by decide) ?_
          refine lv_bipush (v := 10) hx hb dX11_readAct_167 (by decide) ?_
          have z129 : (σ126.1 662 a0).toInt = ((σ122.1 662 a0) : Int32).toInt := congrArg Int32.toInt (show σ126.1 662 a0 = (σ122.1 662 a0) from ((kp_p eσ126).trans rfl))
          have z130 : (σ126.1 660 a0).toInt = ((σ.1 660 a0) : Int32).toInt := congrArg Int32.toInt (show σ126.1 660 a0 = (σ.1 660 a0) from ((kp_p eσ126).trans ((kp_c p123_0 (by decide)).trans ((kp_p eσ110).trans ((kp_i eσ108 (by decide)).trans rfl)))))
          have z131 : (σ126.1 663 a0).toInt = ((σ122.1 663 a0) : Int32).toInt := congrArg Int32.toInt (show σ126.1 663 a0 = (σ122.1 663 a0) from ((kp_p eσ126).trans rfl))
          have z132 : (σ126.1 661 a0).toInt = ((σ.1 661 a0) : Int32).toInt := congrArg Int32.toInt (show σ126.1 661 a0 = (σ.1 661 a0) from ((kp_p eσ126).trans ((kp_c p123_0 (by decide)).trans ((kp_p eσ110).trans ((kp_i eσ108 (by decide)).trans rfl)))))
          refine o_ci hw (oRunV cx hA hw q_X11_oneOf k_m_X11_171 rfl ha0 (by decide) (As := [.int 48, .int 10]) (c_X11_oneOfT a0 ha0 48 (iv_w (⟨by decide, by decide⟩ : Iv 48 48 48) (by decide)) 10 (iv_w (⟨by decide, by decide⟩ : Iv 10 10 10) (by decide)) b0 (((kr_p eσ126).trans ((kr_c p123_0 (by decide)).trans ((kr_p eσ110).trans ((kr_i eσ108).trans hF0))))) hb0 (kn_iv (((kp_p eσ126).trans ((kp_c p123_0 (by decide)).trans ((kp_p eσ110).trans ((kp_i eσ108 (by decide)).trans rfl))))) (iv_w hf660 (by decide)))) (by decide) rfl hl.1 rfl (Nat.le_of_ble_eq_true rfl) dX11_readAct_169 (by decide)) (fun v134 σ133 H locs hp hw => ?_)
          obtain ⟨p134_0, p134_1, p134_2, p134_3, p134_4, p134_5⟩ := hp
          have fr := oFr_tr fr p134_0 (by decide)
          have i135 : Iv (σ133.1 662 a0) 0 200 := o_fb (j := 662) hw ha0 rfl
          have i136 : Iv (σ133.1 663 a0) (-1) 200 := o_fb (j := 663) hw ha0 rfl
          have i137 : Iv v134 0 9 := iv_lt0 p134_2 (⟨by decide, by decide⟩ : Iv 10 10 10) (by decide)
          refine o_iast cx hw h109 (by decide) rfl (iv_in i128 (by decide)) trivial dX11_readAct_172 (fun σ138 H locs eσ138 hw => ?_)
          have fr := oFr_p fr eσ138 h109 (by decide)
          rw [← hQ]
          exact o_rv cx rx hw dX11_readAct_173 ⟨fr, (by exact (by have := (ia1).1; have := (ia1).2; have := (i115).1; have := (i115).2; have := (hf660).1; have := (hf660).2; have := (i1).1; have := (i1).2; have := (i135).1; have := (i135).2; have := (i136).1; have := (i136).2; have := (i105).1; have := (i105).2; have := (i107).1; have := (i107).2; have := (i117).1; have := (i117).2; have := (i120).1; have := (i120).2; have := (i124).1; have := (i124).2; have := (i125).1; have := (i125).2; have := (p123_1).1; have := (p123_1).2; have := (i128).1; have := (i128).2; have := (i137).1; have := (i137).2; have : (σ138.1 660 a0).toInt = ((σ.1 660 a0) : Int32).toInt := congrArg Int32.toInt (show σ138.1 660 a0 = (σ.1 660 a0) from ((kp_p eσ138).trans ((kp_c p134_0 (by decide)).trans ((kp_p eσ126).trans ((kp_c p123_0 (by decide)).trans ((kp_p eσ110).trans ((kp_i eσ108 (by decide)).trans rfl))))))); have : (σ138.1 661 a0).toInt = ((σ.1 661 a0) : Int32).toInt := congrArg Int32.toInt (show σ138.1 661 a0 = (σ.1 661 a0) from ((kp_p eσ138).trans ((kp_c p134_0 (by decide)).trans ((kp_p eσ126).trans ((kp_c p123_0 (by decide)).trans ((kp_p eσ110).trans ((kp_i eσ108 (by decide)).trans rfl))))))); have : (σ138.1 662 a0).toInt = ((σ133.1 662 a0) : Int32).toInt := congrArg Int32.toInt (show σ138.1 662 a0 = (σ133.1 662 a0) from ((kp_p eσ138).trans rfl)); have : (σ138.1 663 a0).toInt = ((σ133.1 663 a0) : Int32).toInt := congrArg Int32.toInt (show σ138.1 663 a0 = (σ133.1 663 a0) from ((kp_p eσ138).trans rfl)); have : (v3 : Int32).toInt ≠ (104 : Int32).toInt := fun q => c4 (Int32.toInt_inj.mp q); have : (v3 : Int32).toInt ≠ (115 : Int32).toInt := fun q => c55 (Int32.toInt_inj.mp q); have : (v3 : Int32).toInt = (116 : Int32).toInt := congrArg Int32.toInt c103; have : (10 : Int32).toInt = 10 := (by decide); have : (104 : Int32).toInt = 104 := (by decide); have : (115 : Int32).toInt = 115 := (by decide); have : (116 : Int32).toInt = 116 := (by decide); have : (48 : Int32).toInt = 48 := (by decide); omega))⟩
        have q111 := iv_nt q111 (k := 100) (by decide)
        have q112 := iv_nt q112 (k := 104) (by decide)
        have q113 := iv_nt q113 (k := 115) (by decide)
        have q114 := iv_nt q114 (k := 116) (by decide)
        refine lv_lookup (off := 136) (tgt := 203) hx hb dX11_readAct_67 (by decide) (by simp [Op.lookupswitch.offset, q111, Ne.symm q111, q112, Ne.symm q112, q113, Ne.symm q113, q114, Ne.symm q114]) (by decide) ?_
        refine lv_aload_n hx hb dX11_readAct_203 rfl (lv_at hl 1 rfl) ?_
        refine g_674 cx hw ha0 k_f_X11_61 dX11_readAct_204 (fun v139 e139 h139 => ?_)
        rw [show v139 = v109 from Option.some.inj (e139.symm.trans (((kr_p eσ110).trans e109)))]
        refine lv_iload_n hx hb dX11_readAct_207 rfl (lv_at hl 2 rfl) ?_
        refine lv_iconst (v := 1) hx hb dX11_readAct_208 (by decide) ?_
        refine lv_iadd hx hb dX11_readAct_209 ?_
        refine lv_topi (fun v140 e140 => ?_)
        have i140 : Iv v140 1 317 := iv_add e140 ia1 (⟨by decide, by decide⟩ : Iv 1 1 1) (by decide)
        have x140 : v140.toInt = a1.toInt + 1 := ex_add e140 ia1 (⟨by decide, by decide⟩ : Iv 1 1 1) (by decide)
        refine lv_aload_n hx hb dX11_readAct_210 rfl (lv_at hl 1 rfl) ?_
        refine lv_bipush (v := 48) hx hb dX11_readAct_211 (by decide) ?_
        refine lv_bipush (v := 10) hx hb dX11_readAct_213 (by decide) ?_
        have z141 : (σ110.1 662 a0).toInt = (v107 : Int32).toInt := congrArg Int32.toInt (show σ110.1 662 a0 = v107 from ((kp_p eσ110).trans (kp_s eσ108)))
        have z142 : (σ110.1 660 a0).toInt = ((σ.1 660 a0) : Int32).toInt := congrArg Int32.toInt (show σ110.1 660 a0 = (σ.1 660 a0) from ((kp_p eσ110).trans ((kp_i eσ108 (by decide)).trans rfl)))
        have i143 : Iv (σ110.1 663 a0) (-1) 200 := o_fb (j := 663) hw ha0 rfl
        have z144 : (σ110.1 661 a0).toInt = ((σ.1 661 a0) : Int32).toInt := congrArg Int32.toInt (show σ110.1 661 a0 = (σ.1 661 a0) from ((kp_p eσ110).trans ((kp_i eσ108 (by decide)).trans rfl)))
        refine o_ci hw (oRunV cx hA hw q_X11_oneOf k_m_X11_171 rfl ha0 (by decide) (As := [.int 48, .int 10]) (c_X11_oneOfT a0 ha0 48 (iv_w (⟨by decide, by decide⟩ : Iv 48 48 48) (by decide)) 10 (iv_w (⟨by decide, by decide⟩ : Iv 10 10 10) (by decide)) b0 (((kr_p eσ110).trans ((kr_i eσ108).trans hF0))) hb0 (kn_iv (((kp_p eσ110).trans ((kp_i eσ108 (by decide)).trans rfl))) (iv_w hf660 (by decide)))) (by decide) rfl hl.1 rfl (Nat.le_of_ble_eq_true rfl) dX11_readAct_215 (by decide)) (fun v146 σ145 H locs hp hw => ?_)
        obtain ⟨p146_0, p146_1, p146_2, p146_3, p146_4, p146_5⟩ := hp
        have fr := oFr_tr fr p146_0 (by decide)
        have i147 : Iv (σ145.1 662 a0) 0 200 := o_fb (j := 662) hw ha0 rfl
        have i148 : Iv (σ145.1 663 a0) (-1) 200 := o_fb (j := 663) hw ha0 rfl
        have i149 : Iv v146 0 9 := iv_lt0 p146_2 (⟨by decide, by decide⟩ : Iv 10 10 10) (by decide)
        refine o_iast cx hw h109 (by decide) rfl (iv_in i140 (by decide)) trivial dX11_readAct_218 (fun σ150 H locs eσ150 hw => ?_)
        have fr := oFr_p fr eσ150 h109 (by decide)
        rw [← hQ]
        exact o_rv cx rx hw dX11_readAct_219 ⟨fr, (by exact (by have := (ia1).1; have := (ia1).2; have := (i104).1; have := (i104).2; have := (hf660).1; have := (hf660).2; have := (i1).1; have := (i1).2; have := (i147).1; have := (i147).2; have := (i148).1; have := (i148).2; have := (i105).1; have := (i105).2; have := (i107).1; have := (i107).2; have := (i140).1; have := (i140).2; have := (i143).1; have := (i143).2; have := (i149).1; have := (i149).2; have : (σ150.1 660 a0).toInt = ((σ.1 660 a0) : Int32).toInt := congrArg Int32.toInt (show σ150.1 660 a0 = (σ.1 660 a0) from ((kp_p eσ150).trans ((kp_c p146_0 (by decide)).trans ((kp_p eσ110).trans ((kp_i eσ108 (by decide)).trans rfl))))); have : (σ150.1 661 a0).toInt = ((σ.1 661 a0) : Int32).toInt := congrArg Int32.toInt (show σ150.1 661 a0 = (σ.1 661 a0) from ((kp_p eσ150).trans ((kp_c p146_0 (by decide)).trans ((kp_p eσ110).trans ((kp_i eσ108 (by decide)).trans rfl))))); have : (σ150.1 662 a0).toInt = ((σ145.1 662 a0) : Int32).toInt := congrArg Int32.toInt (show σ150.1 662 a0 = (σ145.1 662 a0) from ((kp_p eσ150).trans rfl)); have : (σ150.1 663 a0).toInt = ((σ145.1 663 a0) : Int32).toInt := congrArg Int32.toInt (show σ150.1 663 a0 = (σ145.1 663 a0) from ((kp_p eσ150).trans rfl)); have : (v3 : Int32).toInt ≠ (104 : Int32).toInt := fun q => c4 (Int32.toInt_inj.mp q); have : (v3 : Int32).toInt ≠ (115 : Int32).toInt := fun q => c55 (Int32.toInt_inj.mp q); have : (v3 : Int32).toInt = (116 : Int32).toInt := congrArg Int32.toInt c103; have : (10 : Int32).toInt = 10 := (by decide); have : (104 : Int32).toInt = 104 := (by decide); have : (115 : Int32).toInt = 115 := (by decide); have : (116 : Int32).toInt = 116 := (by decide); have : (48 : Int32).toInt = 48 := (by decide); omega))⟩
      · --
        refine lv_iload_n hx hb dX11_readAct_23 rfl (lv_at hl 0 rfl) ?_
        refine lv_bipush (v := 111) hx hb dX11_readAct_24 (by decide) ?_
        refine lv_icmp_eq (tgt := 49) hx hb dX11_readAct_26 (by decide) (fun c151 => ?_) (fun c151 => ?_)
        · --
          have i152 : Iv v3 111 111 := iv_eq1 c151 p3_1 (⟨by decide, by decide⟩ : Iv 111 111 111) (by decide)
          have i153 : Iv (σ.1 662 a0) 0 79 := (fun h => kn_iv2 (rfl) (p3_2 h)) (ge0_iv i152 (by decide))
          refine lv_aload_n hx hb dX11_readAct_49 rfl (lv_at hl 1 rfl) ?_
          refine lv_dup hx hb dX11_readAct_50 rfl ?_
          refine g_662 cx hw ha0 k_f_X11_120 dX11_readAct_51 (fun v154 e154 i154 => ?_)
          rw [show v154 = (σ.1 662 a0) from e154.trans rfl]
          refine lv_iconst (v := 1) hx hb dX11_readAct_54 (by decide) ?_
          refine lv_iadd hx hb dX11_readAct_55 ?_
          refine lv_topi (fun v155 e155 => ?_)
          have i155 : Iv v155 1 80 := iv_add e155 i153 (⟨by decide, by decide⟩ : Iv 1 1 1) (by decide)
          have x155 : v155.toInt = (σ.1 662 a0).toInt + 1 := ex_add e155 i153 (⟨by decide, by decide⟩ : Iv 1 1 1) (by decide)
          refine p_662 cx hw ha0 (iv_w i155 (by decide)) k_f_X11_120 dX11_readAct_56 (fun σ156 H locs eσ156 hw => ?_)
          have fr := oFr_i fr eσ156 (by decide)
          refine lv_aload_n hx hb dX11_readAct_59 rfl (lv_at hl 1 rfl) ?_
          refine g_674 cx hw ha0 k_f_X11_61 dX11_readAct_60 (fun v157 e157 h157 => ?_)
          refine lv_iload_n hx hb dX11_readAct_63 rfl (lv_at hl 2 rfl) ?_
          refine lv_iload_n hx hb dX11_readAct_64 rfl (lv_at hl 0 rfl) ?_
          refine o_iast cx hw h157 (by decide) rfl (iv_in ia1 (by decide)) trivial dX11_readAct_65 (fun σ158 H locs eσ158 hw => ?_)
          have fr := oFr_p fr eσ158 h157 (by decide)
          refine lv_iload_n hx hb dX11_readAct_66 rfl (lv_at hl 0 rfl) ?_
          have q159 : ¬ v3 = 100 := fun h => iv_no (iv_eq1 (lo := 111) (hi := 100) h i152 (⟨by decide, by decide⟩ : Iv 100 100 100) (by decide)) (by decide)
          have q160 : ¬ v3 = 104 := fun h => iv_no (iv_eq1 (lo := 111) (hi := 104) h i152 (⟨by decide, by decide⟩ : Iv 104 104 104) (by decide)) (by decide)
          have q161 : ¬ v3 = 115 := fun h => iv_no (iv_eq1 (lo := 115) (hi := 111) h i152 (⟨by decide, by decide⟩ : Iv 115 115 115) (by decide)) (by decide)
          have q162 : ¬ v3 = 116 := fun h => iv_no (iv_eq1 (lo := 116) (hi := 111) h i152 (⟨by decide, by decide⟩ : Iv 116 116 116) (by decide)) (by decide)
          have q159 := iv_nt q159 (k := 100) (by decide)
          have q160 := iv_nt q160 (k := 104) (by decide)
          have q161 := iv_nt q161 (k := 115) (by decide)
          have q162 := iv_nt q162 (k := 116) (by decide)
          refine lv_lookup (off := 136) (tgt := 203) hx hb dX11_readAct_67 (by decide) (by simp [Op.lookupswitch.offset, q159, Ne.symm q159, q160, Ne.symm q160, q161, Ne.symm q161, q162, Ne.symm q162]) (by decide) ?_
          refine lv_aload_n hx hb dX11_readAct_203 rfl (lv_at hl 1 rfl) ?_
          refine g_674 cx hw ha0 k_f_X11_61 dX11_readAct_204 (fun v163 e163 h163 => ?_)
          rw [show v163 = v157 from Option.some.inj (e163.symm.trans (((kr_p eσ158).trans e157)))]
          refine lv_iload_n hx hb dX11_readAct_207 rfl (lv_at hl 2 rfl) ?_
          refine lv_iconst (v := 1) hx hb dX11_readAct_208 (by decide) ?_
          refine lv_iadd hx hb dX11_readAct_209 ?_
          refine lv_topi (fun v164 e164 => ?_)
          have i164 : Iv v164 1 317 := iv_add e164 ia1 (⟨by decide, by decide⟩ : Iv 1 1 1) (by decide)
          have x164 : v164.toInt = a1.toInt + 1 := ex_add e164 ia1 (⟨by decide, by decide⟩ : Iv 1 1 1) (by decide)
          refine lv_aload_n hx hb dX11_readAct_210 rfl (lv_at hl 1 rfl) ?_
          refine lv_bipush (v := 48) hx hb dX11_readAct_211 (by decide) ?_
          refine lv_bipush (v := 10) hx hb dX11_readAct_213 (by decide) ?_
          have z165 : (σ158.1 662 a0).toInt = (v155 : Int32).toInt := congrArg Int32.toInt (show σ158.1 662 a0 = v155 from ((kp_p eσ158).trans (kp_s eσ156)))
          have z166 : (σ158.1 660 a0).toInt = ((σ.1 660 a0) : Int32).toInt := congrArg Int32.toInt (show σ158.1 660 a0 = (σ.1 660 a0) from ((kp_p eσ158).trans ((kp_i eσ156 (by decide)).trans rfl)))
          have i167 : Iv (σ158.1 663 a0) (-1) 200 := o_fb (j := 663) hw ha0 rfl
          have z168 : (σ158.1 661 a0).toInt = ((σ.1 661 a0) : Int32).toInt := congrArg Int32.toInt (show σ158.1 661 a0 = (σ.1 661 a0) from ((kp_p eσ158).trans ((kp_i eσ156 (by decide)).trans rfl)))
          refine o_ci hw (oRunV cx hA hw q_X11_oneOf k_m_X11_171 rfl ha0 (by decide) (As := [.int 48, .int 10]) (c_X11_oneOfT a0 ha0 48 (iv_w (⟨by decide, by decide⟩ : Iv 48 48 48) (by decide)) 10 (iv_w (⟨by decide, by decide⟩ : Iv 10 10 10) (by decide)) b0 (((kr_p eσ158).trans ((kr_i eσ156).trans hF0))) hb0 (kn_iv (((kp_p eσ158).trans ((kp_i eσ156 (by decide)).trans rfl))) (iv_w hf660 (by decide)))) (by decide) rfl hl.1 rfl (Nat.le_of_ble_eq_true rfl) dX11_readAct_215 (by decide)) (fun v170 σ169 H locs hp hw => ?_)
          obtain ⟨p170_0, p170_1, p170_2, p170_3, p170_4, p170_5⟩ := hp
          have fr := oFr_tr fr p170_0 (by decide)
          have i171 : Iv (σ169.1 662 a0) 0 200 := o_fb (j := 662) hw ha0 rfl
          have i172 : Iv (σ169.1 663 a0) (-1) 200 := o_fb (j := 663) hw ha0 rfl
          have i173 : Iv v170 0 9 := iv_lt0 p170_2 (⟨by decide, by decide⟩ : Iv 10 10 10) (by decide)
          refine o_iast cx hw h157 (by decide) rfl (iv_in i164 (by decide)) trivial dX11_readAct_218 (fun σ174 H locs eσ174 hw => ?_)
          have fr := oFr_p fr eσ174 h157 (by decide)
          rw [← hQ]
          exact o_rv cx rx hw dX11_readAct_219 ⟨fr, (by exact (by have := (ia1).1; have := (ia1).2; have := (i152).1; have := (i152).2; have := (hf660).1; have := (hf660).2; have := (i1).1; have := (i1).2; have := (i171).1; have := (i171).2; have := (i172).1; have := (i172).2; have := (i153).1; have := (i153).2; have := (i155).1; have := (i155).2; have := (i164).1; have := (i164).2; have := (i167).1; have := (i167).2; have := (i173).1; have := (i173).2; have : (σ174.1 660 a0).toInt = ((σ.1 660 a0) : Int32).toInt := congrArg Int32.toInt (show σ174.1 660 a0 = (σ.1 660 a0) from ((kp_p eσ174).trans ((kp_c p170_0 (by decide)).trans ((kp_p eσ158).trans ((kp_i eσ156 (by decide)).trans rfl))))); have : (σ174.1 661 a0).toInt = ((σ.1 661 a0) : Int32).toInt := congrArg Int32.toInt (show σ174.1 661 a0 = (σ.1 661 a0) from ((kp_p eσ174).trans ((kp_c p170_0 (by decide)).trans ((kp_p eσ158).trans ((kp_i eσ156 (by decide)).trans rfl))))); have : (σ174.1 662 a0).toInt = ((σ169.1 662 a0) : Int32).toInt := congrArg Int32.toInt (show σ174.1 662 a0 = (σ169.1 662 a0) from ((kp_p eσ174).trans rfl)); have : (σ174.1 663 a0).toInt = ((σ169.1 663 a0) : Int32).toInt := congrArg Int32.toInt (show σ174.1 663 a0 = (σ169.1 663 a0) from ((kp_p eσ174).trans rfl)); have : (v3 : Int32).toInt ≠ (104 : Int32).toInt := fun q => c4 (Int32.toInt_inj.mp q); have : (v3 : Int32).toInt ≠ (115 : Int32).toInt := fun q => c55 (Int32.toInt_inj.mp q); have : (v3 : Int32).toInt ≠ (116 : Int32).toInt := fun q => c103 (Int32.toInt_inj.mp q); have : (v3 : Int32).toInt = (111 : Int32).toInt := congrArg Int32.toInt c151; have : (10 : Int32).toInt = 10 := (by decide); have : (104 : Int32).toInt = 104 := (by decide); have : (111 : Int32).toInt = 111 := (by decide); have : (115 : Int32).toInt = 115 := (by decide); have : (116 : Int32).toInt = 116 := (by decide); have : (48 : Int32).toInt = 48 := (by decide); omega))⟩
        · --
          refine lv_iload_n hx hb dX11_readAct_29 rfl (lv_at hl 0 rfl) ?_
          refine lv_bipush (v := 99) hx hb dX11_readAct_30 (by decide) ?_
          refine lv_icmp_eq (tgt := 49) hx hb dX11_readAct_32 (by decide) (fun c175 => ?_) (fun c175 => ?_)
          · --
            have i176 : Iv v3 99 99 := iv_eq1 c175 p3_1 (⟨by decide, by decide⟩ : Iv 99 99 99) (by decide)
            have i177 : Iv (σ.1 662 a0) 0 79 := (fun h => kn_iv2 (rfl) (p3_2 h)) (ge0_iv i176 (by decide))
            refine lv_aload_n hx hb dX11_readAct_49 rfl (lv_at hl 1 rfl) ?_
            refine lv_dup hx hb dX11_readAct_50 rfl ?_
            refine g_662 cx hw ha0 k_f_X11_120 dX11_readAct_51 (fun v178 e178 i178 => ?_)
            rw [show v178 = (σ.1 662 a0) from e178.trans rfl]
            refine lv_iconst (v := 1) hx hb dX11_readAct_54 (by decide) ?_
            refine lv_iadd hx hb dX11_readAct_55 ?_
            refine lv_topi (fun v179 e179 => ?_)
            have i179 : Iv v179 1 80 := iv_add e179 i177 (⟨by decide, by decide⟩ : Iv 1 1 1) (by decide)
            have x179 : v179.toInt = (σ.1 662 a0).toInt + 1 := ex_add e179 i177 (⟨by decide, by decide⟩ : Iv 1 1 1) (by decide)
            refine p_662 cx hw ha0 (iv_w i179 (by decide)) k_f_X11_120 dX11_readAct_56 (fun σ180 H locs eσ180 hw => ?_)
            have fr := oFr_i fr eσ180 (by decide)
            refine lv_aload_n hx hb dX11_readAct_59 rfl (lv_at hl 1 rfl) ?_
            refine g_674 cx hw ha0 k_f_X11_61 dX11_readAct_60 (fun v181 e181 h181 => ?_)
            refine lv_iload_n hx hb dX11_readAct_63 rfl (lv_at hl 2 rfl) ?_
            refine lv_iload_n hx hb dX11_readAct_64 rfl (lv_at hl 0 rfl) ?_
            refine o_iast cx hw h181 (by decide) rfl (iv_in ia1 (by decide)) trivial dX11_readAct_65 (fun σ182 H locs eσ182 hw => ?_)
            have fr := oFr_p fr eσ182 h181 (by decide)
            refine lv_iload_n hx hb dX11_readAct_66 rfl (lv_at hl 0 rfl) ?_
            have q183 : ¬ v3 = 100 := fun h => iv_no (iv_eq1 (lo := 100) (hi := 99) h i176 (⟨by decide, by decide⟩ : Iv 100 100 100) (by decide)) (by decide)
            have q184 : ¬ v3 = 104 := fun h => iv_no (iv_eq1 (lo := 104) (hi := 99) h i176 (⟨by decide, by decide⟩ : Iv 104 104 104) (by decide)) (by decide)
            have q185 : ¬ v3 = 115 := fun h => iv_no (iv_eq1 (lo := 115) (hi := 99) h i176 (⟨by decide, by decide⟩ : Iv 115 115 115) (by decide)) (by decide)
            have q186 : ¬ v3 = 116 := fun h => iv_no (iv_eq1 (lo := 116) (hi := 99) h i176 (⟨by decide, by decide⟩ : Iv 116 116 116) (by decide)) (by decide)
            have q183 := iv_nt q183 (k := 100) (by decide)
            have q184 := iv_nt q184 (k := 104) (by decide)
            have q185 := iv_nt q185 (k := 115) (by decide)
            have q186 := iv_nt q186 (k := 116) (by decide)
            refine lv_lookup (off := 136) (tgt := 203) hx hb dX11_readAct_67 (by decide) (by simp [Op.lookupswitch.offset, q183, Ne.symm q183, q184, Ne.symm q184, q185, Ne.symm q185, q186, Ne.symm q186]) (by decide) ?_
            refine lv_aload_n hx hb dX11_readAct_203 rfl (lv_at hl 1 rfl) ?_
            refine g_674 cx hw ha0 k_f_X11_61 dX11_readAct_204 (fun v187 e187 h187 => ?_)
            rw [show v187 = v181 from Option.some.inj (e187.symm.trans (((kr_p eσ182).trans e181)))]
            refine lv_iload_n hx hb dX11_readAct_207 rfl (lv_at hl 2 rfl) ?_
            refine lv_iconst (v := 1) hx hb dX11_readAct_208 (by decide) ?_
            refine lv_iadd hx hb dX11_readAct_209 ?_
            refine lv_topi (fun v188 e188 => ?_)
            have i188 : Iv v188 1 317 := iv_add e188 ia1 (⟨by decide, by decide⟩ : Iv 1 1 1) (by decide)
            have x188 : v188.toInt = a1.toInt + 1 := ex_add e188 ia1 (⟨by decide, by decide⟩ : Iv 1 1 1) (by decide)
            refine lv_aload_n hx hb dX11_readAct_210 rfl (lv_at hl 1 rfl) ?_
            refine lv_bipush (v := 48) hx hb dX11_readAct_211 (by decide) ?_
            refine lv_bipush (v := 10) hx hb dX11_readAct_213 (by decide) ?_
            have z189 : (σ182.1 662 a0).toInt = (v179 : Int32).toInt := congrArg Int32.toInt (show σ182.1 662 a0 = v179 from ((kp_p eσ182).trans (kp_s eσ180)))
            have z190 : (σ182.1 660 a0).toInt = ((σ.1 660 a0) : Int32).toInt := congrArg Int32.toInt (show σ182.1 660 a0 = (σ.1 660 a0) from ((kp_p eσ182).trans ((kp_i eσ180 (by decide)).trans rfl)))
            have i191 : Iv (σ182.1 663 a0) (-1) 200 := o_fb (j := 663) hw ha0 rfl
            have z192 : (σ182.1 661 a0).toInt = ((σ.1 661 a0) : Int32).toInt := congrArg Int32.toInt (show σ182.1 661 a0 = (σ.1 661 a0) from ((kp_p eσ182).trans ((kp_i eσ180 (by decide)).trans rfl)))
            refine o_ci hw (oRunV cx hA hw q_X11_oneOf k_m_X11_171 rfl ha0 (by decide) (As := [.int 48, .int 10]) (c_X11_oneOfT a0 ha0 48 (iv_w (⟨by decide, by decide⟩ : Iv 48 48 48) (by decide)) 10 (iv_w (⟨by decide, by decide⟩ : Iv 10 10 10) (by decide)) b0 (((kr_p eσ182).trans ((kr_i eσ180).trans hF0))) hb0 (kn_iv (((kp_p eσ182).trans ((kp_i eσ180 (by decide)).trans rfl))) (iv_w hf660 (by decide)))) (by decide) rfl hl.1 rfl (Nat.le_of_ble_eq_true rfl) dX11_readAct_215 (by decide)) (fun v194 σ193 H locs hp hw => ?_)
            obtain ⟨p194_0, p194_1, p194_2, p194_3, p194_4, p194_5⟩ := hp
            have fr := oFr_tr fr p194_0 (by decide)
            have i195 : Iv (σ193.1 662 a0) 0 200 := o_fb (j := 662) hw ha0 rfl
            have i196 : Iv (σ193.1 663 a0) (-1) 200 := o_fb (j := 663) hw ha0 rfl
            have i197 : Iv v194 0 9 := iv_lt0 p194_2 (⟨by decide, by decide⟩ : Iv 10 10 10) (by decide)
            refine o_iast cx hw h181 (by decide) rfl (iv_in i188 (by decide)) trivial dX11_readAct_218 (fun σ198 H locs eσ198 hw => ?_)
            have fr := oFr_p fr eσ198 h181 (by decide)
            rw [← hQ]
            exact o_rv cx rx hw dX11_readAct_219 ⟨fr, (by exact (by have := (ia1).1; have := (ia1).2; have := (i176).1; have := (i176).2; have := (hf660).1; have := (hf660).2; have := (i1).1; have := (i1).2; have := (i195).1; have := (i195).2; have := (i196).1; have := (i196).2; have := (i177).1; have := (i177).2; have := (i179).1; have := (i179).2; have := (i188).1; have := (i188).2; have := (i191).1; have := (i191).2; have := (i197).1; have := (i197).2; have : (σ198.1 660 a0).toInt = ((σ.1 660 a0) : Int32).toInt := congrArg Int32.toInt (show σ198.1 660 a0 = (σ.1 660 a0) from ((kp_p eσ198).trans ((kp_c p194_0 (by decide)).trans ((kp_p eσ182).trans ((kp_i eσ180 (by decide)).trans rfl))))); have : (σ198.1 661 a0).toInt = ((σ.1 661 a0) : Int32).toInt := congrArg Int32.toInt (show σ198.1 661 a0 = (σ.1 661 a0) from ((kp_p eσ198).trans ((kp_c p194_0 (by decide)).trans ((kp_p eσ182).trans ((kp_i eσ180 (by decide)).trans rfl))))); have : (σ198.1 662 a0).toInt = ((σ193.1 662 a0) : Int32).toInt := congrArg Int32.toInt (show σ198.1 662 a0 = (σ193.1 662 a0) from ((kp_p eσ198).trans rfl)); have : (σ198.1 663 a0).toInt = ((σ193.1 663 a0) : Int32).toInt := congrArg Int32.toInt (show σ198.1 663 a0 = (σ193.1 663 a0) from ((kp_p eσ198).trans rfl)); have : (v3 : Int32).toInt ≠ (104 : Int32).toInt := fun q => c4 (Int32.toInt_inj.mp q); have : (v3 : Int32).toInt ≠ (115 : Int32).toInt := fun q => c55 (Int32.toInt_inj.mp q); have : (v3 : Int32).toInt ≠ (116 : Int32).toInt := fun q => c103 (Int32.toInt_inj.mp q); have : (v3 : Int32).toInt ≠ (111 : Int32).toInt := fun q => c151 (Int32.toInt_inj.mp q); have : (v3 : Int32).toInt = (99 : Int32).toInt := congrArg Int32.toInt c175; have : (10 : Int32).toInt = 10 := (by decide); have : (104 : Int32).toInt = 104 := (by decide); have : (111 : Int32).toInt = 111 := (by decide); have : (115 : Int32).toInt = 115 := (by decide); have : (116 : Int32).toInt = 116 := (by decide); have : (48 : Int32).toInt = 48 := (by decide); have : (99 : Int32).toInt = 99 := (by decide); omega))⟩
          · --
            refine lv_iload_n hx hb dX11_readAct_35 rfl (lv_at hl 0 rfl) ?_
            refine lv_bipush (v := 100) hx hb dX11_readAct_36 (by decide) ?_
            refine lv_icmp_eq (tgt := 49) hx hb dX11_readAct_38 (by decide) (fun c199 => ?_) (fun c199 => ?_)
            · --
              have i200 : Iv v3 100 100 := iv_eq1 c199 p3_1 (⟨by decide, by decide⟩ : Iv 100 100 100) (by decide)
              have i201 : Iv (σ.1 662 a0) 0 79 := (fun h => kn_iv2 (rfl) (p3_2 h)) (ge0_iv i200 (by decide))
              refine lv_aload_n hx hb dX11_readAct_49 rfl (lv_at hl 1 rfl) ?_
              refine lv_dup hx hb dX11_readAct_50 rfl ?_
              refine g_662 cx hw ha0 k_f_X11_120 dX11_readAct_51 (fun v202 e202 i202 => ?_)
              rw [show v202 = (σ.1 662 a0) from e202.trans rfl]
              refine lv_iconst (v := 1) hx hb dX11_readAct_54 (by decide) ?_
              refine lv_iadd hx hb dX11_readAct_55 ?_
              refine lv_topi (fun v203 e203 => ?_)
              have i203 : Iv v203 1 80 := iv_add e203 i201 (⟨by decide, by decide⟩ : Iv 1 1 1) (by decide)
              have x203 : v203.toInt = (σ.1 662 a0).toInt + 1 := ex_add e203 i201 (⟨by decide, by decide⟩ : Iv 1 1 1) (by decide)
              refine p_662 cx hw ha0 (iv_w i203 (by decide)) k_f_X11_120 dX11_readAct_56 (fun σ204 H locs eσ204 hw => ?_)
              have fr := oFr_i fr eσ204 (by decide)
              refine lv_aload_n hx hb dX11_readAct_59 rfl (lv_at hl 1 rfl) ?_
              refine g_674 cx hw ha0 k_f_X11_61 dX11_readAct_60 (fun v205 e205 h205 => ?_)
              refine lv_iload_n hx hb dX11_readAct_63 rfl (lv_at hl 2 rfl) ?_
              refine lv_iload_n hx hb dX11_readAct_64 rfl (lv_at hl 0 rfl) ?_
              refine o_iast cx hw h205 (by decide) rfl (iv_in ia1 (by decide)) trivial dX11_readAct_65 (fun σ206 H locs eσ206 hw => ?_)
              have fr := oFr_p fr eσ206 h205 (by decide)
              refine lv_iload_n hx hb dX11_readAct_66 rfl (lv_at hl 0 rfl) ?_
              by_cases q207 : v3 = 100
              · --
                refine lv_lookup (off := 107) (tgt := 174) hx hb dX11_readAct_67 (by decide) (by rw [q207] <;> decide) (by decide) ?_
                have i208 : Iv v3 100 100 := iv_eq1 q207 i200 (⟨by decide, by decide⟩ : Iv 100 100 100) (by decide)
                refine lv_aload_n hx hb dX11_readAct_174 rfl (lv_at hl 1 rfl) ?_
                refine g_674 cx hw ha0 k_f_X11_61 dX11_readAct_175 (fun v209 e209 h209 => ?_)
                rw [show v209 = v205 from Option.some.inj (e209.symm.trans (((kr_p eσ206).trans e205)))]
                refine lv_iload_n hx hb dX11_readAct_178 rfl (lv_at hl 2 rfl) ?_
                refine lv_iconst (v := 1) hx hb dX11_readAct_179 (by decide) ?_
                refine lv_iadd hx hb dX11_readAct_180 ?_
                refine lv_topi (fun v210 e210 => ?_)
                have i210 : Iv v210 1 317 := iv_add e210 ia1 (⟨by decide, by decide⟩ : Iv 1 1 1) (by decide)
                have x210 : v210.toInt = a1.toInt + 1 := ex_add e210 ia1 (⟨by decide, by decide⟩ : Iv 1 1 1) (by decide)
                refine lv_aload_n hx hb dX11_readAct_181 rfl (lv_at hl 1 rfl) ?_
                refine lv_bipush (v := 48) hx hb dX11_readAct_182 (by decide) ?_
                refine lv_bipush (v := 10) hx hb dX11_readAct_184 (by decide) ?_
                have z211 : (σ206.1 662 a0).toInt = (v203 : Int32).toInt := congrArg Int32.toInt (show σ206.1 662 a0 = v203 from ((kp_p eσ206).trans (kp_s eσ204)))
                have z212 : (σ206.1 660 a0).toInt = ((σ.1 660 a0) : Int32).toInt := congrArg Int32.toInt (show σ206.1 660 a0 = (σ.1 660 a0) from ((kp_p eσ206).trans ((kp_i eσ204 (by decide)).trans rfl)))
                have i213 : Iv (σ206.1 663 a0) (-1) 200 := o_fb (j := 663) hw ha0 rfl
                have z214 : (σ206.1 661 a0).toInt = ((σ.1 661 a0) : Int32).toInt := congrArg Int32.toInt (show σ206.1 661 a0 = (σ.1 661 a0) from ((kp_p eσ206).trans ((kp_i eσ204 (by decide)).trans rfl)))
                refine o_ci hw (oRunV cx hA hw q_X11_oneOf k_m_X11_171 rfl ha0 (by decide) (As := [.int 48, .int 10]) (c_X11_oneOfT a0 ha0 48 (iv_w (⟨by decide, by decide⟩ : Iv 48 48 48) (by decide)) 10 (iv_w (⟨by decide, by decide⟩ : Iv 10 10 10) (by decide)) b0 (((kr_p eσ206).trans ((kr_i eσ204).trans hF0))) hb0 (kn_iv (((kp_p eσ206).trans ((kp_i eσ204 (by decide)).trans rfl))) (iv_w hf660 (by decide)))) (by decide) rfl hl.1 rfl (Nat.le_of_ble_eq_true rfl) dX11_readAct_186 (by decide)) (fun v216 σ215 H locs hp hw => ?_)
                obtain ⟨p216_0, p216_1, p216_2, p216_3, p216_4, p216_5⟩ := hp
                have fr := oFr_tr fr p216_0 (by decide)
                have i217 : Iv (σ215.1 662 a0) 0 200 := o_fb (j := 662) hw ha0 rfl
                have i218 : Iv (σ215.1 663 a0) (-1) 200 := o_fb (j := 663) hw ha0 rfl
                have i219 : Iv v216 0 9 := iv_lt0 p216_2 (⟨by decide, by decide⟩ : Iv 10 10 10) (by decide)
                refine o_iast cx hw h205 (by decide) rfl (iv_in i210 (by decide)) trivial dX11_readAct_189 (fun σ220 H locs eσ220 hw => ?_)
                have fr := oFr_p fr eσ220 h205 (by decide)
                refine lv_aload_n hx hb dX11_readAct_190 rfl (lv_at hl 1 rfl) ?_
                refine g_674 cx hw ha0 k_f_X11_61 dX11_readAct_191 (fun v221 e221 h221 => ?_)
                rw [show v221 = v205 from Option.some.inj (e221.symm.trans (((kr_p eσ220).trans ((kr_c p216_0 (by decide)).trans ((kr_p eσ206).trans e205)))))]
                refine lv_iload_n hx hb dX11_readAct_194 rfl (lv_at hl 2 rfl) ?_
                refine lv_iconst (v := 2) hx hb dX11_readAct_195 (by decide) ?_
                refine lv_iadd hx hb dX11_readAct_196 ?_
                refine lv_topi (fun v222 e222 => ?_)
                have i222 : Iv v222 2 318 := iv_add e222 ia1 (⟨by decide, by decide⟩ : Iv 2 2 2) (by decide)
                have x222 : v222.toInt = a1.toInt + 2 := ex_add e222 ia1 (⟨by decide, by decide⟩ : Iv 2 2 2) (by decide)
                refine lv_aload_n hx hb dX11_readAct_197 rfl (lv_at hl 1 rfl) ?_
                have z223 : (σ220.1 662 a0).toInt = ((σ215.1 662 a0) : Int32).toInt := congrArg Int32.toInt (show σ220.1 662 a0 = (σ215.1 662 a0) from ((kp_p eσ220).trans rfl))
                have z224 : (σ220.1 660 a0).toInt = ((σ.1 660 a0) : Int32).toInt := congrArg Int32.toInt (show σ220.1 660 a0 = (σ.1 660 a0) from ((kp_p eσ220).trans ((kp_c p216_0 (by decide)).trans ((kp_p eσ206).trans ((kp_i eσ204 (by decide)).trans rfl)))))
                have z225 : (σ220.1 663 a0).toInt = ((σ215.1 663 a0) : Int32).toInt := congrArg Int32.toInt (show σ220.1 663 a0 = (σ215.1 663 a0) from ((kp_p eσ220).trans rfl))
                have z226 : (σ220.1 661 a0).toInt = ((σ.1 661 a0) : Int32).toInt := congrArg Int32.toInt (show σ220.1 661 a0 = (σ.1 661 a0) from ((kp_p eσ220).trans ((kp_c p216_0 (by decide)).trans ((kp_p eσ206).trans ((kp_i eσ204 (by decide)).trans rfl)))))
                refine o_ci hw (oRunV cx hA hw q_X11_readCell k_m_X11_302 rfl ha0 (by decide) (As := []) (c_X11_readCell a0 ha0 b0 (((kr_p eσ220).trans ((kr_c p216_0 (by decide)).trans ((kr_p eσ206).trans ((kr_i eσ204).trans hF0))))) hb0 (kn_iv (((kp_p eσ220).trans ((kp_c p216_0 (by decide)).trans ((kp_p eσ206).trans ((kp_i eσ204 (by decide)).trans rfl))))) (iv_w hf660 (by decide)))) (by decide) rfl hl.1 rfl (Nat.le_of_ble_eq_true rfl) dX11_readAct_198 (by decide)) (fun v228 σ227 H locs hp hw => ?_)
                obtain ⟨p228_0, p228_1, p228_2⟩ := hp
                have fr := oFr_tr fr p228_0 (by decide)
                have i229 : Iv (σ227.1 662 a0) 0 200 := o_fb (j := 662) hw ha0 rfl
                have i230 : Iv (σ227.1 663 a0) (-1) 200 := o_fb (j := 663) hw ha0 rfl
                refine o_iast cx hw h205 (by decide) rfl (iv_in i222 (by decide)) trivial dX11_readAct_201 (fun σ231 H locs eσ231 hw => ?_)
                have fr := oFr_p fr eσ231 h205 (by decide)
                rw [← hQ]
                exact o_rv cx rx hw dX11_readAct_202 ⟨fr, (by exact (by have := (ia1).1; have := (ia1).2; have := (i208).1; have := (i208).2; have := (hf660).1; have := (hf660).2; have := (i1).1; have := (i1).2; have := (i229).1; have := (i229).2; have := (i230).1; have := (i230).2; have := (i201).1; have := (i201).2; have := (i203).1; have := (i203).2; have := (i210).1; have := (i210).2; have := (i213).1; have := (i213).2; have := (i217).1; have := (i217).2; have := (i218).1; have := (i218).2; have := (i219).1; have := (i219).2; have := (i222).1; have := (i222).2; have := (p228_1).1; have := (p228_1).2; have : (σ231.1 660 a0).toInt = ((σ.1 660 a0) : Int32).toInt := congrArg Int32.toInt (show σ231.1 660 a0 = (σ.1 660 a0) from ((kp_p eσ231).trans ((kp_c p228_0 (by decide)).trans ((kp_p eσ220).trans ((kp_c p216_0 (by decide)).trans ((kp_p eσ206).trans ((kp_i eσ204 (by decide)).trans rfl))))))); have : (σ231.1 661 a0).toInt = ((σ.1 661 a0) : Int32).toInt := congrArg Int32.toInt (show σ231.1 661 a0 = (σ.1 661 a0) from ((kp_p eσ231).trans ((kp_c p228_0 (by decide)).trans ((kp_p eσ220).trans ((kp_c p216_0 (by decide)).trans ((kp_p eσ206).trans ((kp_i eσ204 (by decide)).trans rfl))))))); have : (σ231.1 662 a0).toInt = ((σ227.1 662 a0) : Int32).toInt := congrArg Int32.toInt (show σ231.1 662 a0 = (σ227.1 662 a0) from ((kp_p eσ231).trans rfl)); have : (σ231.1 663 a0).toInt = ((σ227.1 663 a0) : Int32).toInt := congrArg Int32.toInt (show σ231.1 663 a0 = (σ227.1 663 a0) from ((kp_p eσ231).trans rfl)); have : (v3 : Int32).toInt ≠ (104 : Int32).toInt := fun q => c4 (Int32.toInt_inj.mp q); have : (v3 : Int32).toInt ≠ (115 : Int32).toInt := fun q => c55 (Int32.toInt_inj.mp q); have : (v3 : Int32).toInt ≠ (116 : Int32).toInt := fun q => c103 (Int32.toInt_inj.mp q); have : (v3 : Int32).toInt ≠ (111 : Int32).toInt := fun q => c151 (Int32.toInt_inj.mp q); have : (v3 : Int32).toInt ≠ (99 : Int32).toInt := fun q => c175 (Int32.toInt_inj.mp q); have : (v3 : Int32).toInt = (100 : Int32).toInt := congrArg Int32.toInt c199; have : (10 : Int32).toInt = 10 := (by decide); have : (100 : Int32).toInt = 100 := (by decide); have : (104 : Int32).toInt = 104 := (by decide); have : (111 : Int32).toInt = 111 := (by decide); have : (115 : Int32).toInt = 115 := (by decide); have : (116 : Int32).toInt = 116 := (by decide); have : (48 : Int32).toInt = 48 := (by decide); have : (99 : Int32).toInt = 99 := (by decide); omega))⟩
              have q232 : ¬ v3 = 104 := fun h => iv_no (iv_eq1 (lo := 104) (hi := 100) h i200 (⟨by decide, by decide⟩ : Iv 104 104 104) (by decide)) (by decide)
              have q233 : ¬ v3 = 115 := fun h => iv_no (iv_eq1 (lo := 115) (hi := 100) h i200 (⟨by decide, by decide⟩ : Iv 115 115 115) (by decide)) (by decide)
              have q234 : ¬ v3 = 116 := fun h => iv_no (iv_eq1 (lo := 116) (hi := 100) h i200 (⟨by decide, by decide⟩ : Iv 116 116 116) (by decide)) (by decide)
              have q207 := iv_nt q207 (k := 100) (by decide)
              have q232 := iv_nt q232 (k := 104) (by decide)
              have q233 := iv_nt q233 (k := 115) (by decide)
              have q234 := iv_nt q234 (k := 116) (by decide)
              refine lv_lookup (off := 136) (tgt := 203) hx hb dX11_readAct_67 (by decide) (by simp [Op.lookupswitch.offset, q207, Ne.symm q207, q232, Ne.symm q232, q233, Ne.symm q233, q234, Ne.symm q234]) (by decide) ?_
              refine lv_aload_n hx hb dX11_readAct_203 rfl (lv_at hl 1 rfl) ?_
              refine g_674 cx hw ha0 k_f_X11_61 dX11_readAct_204 (fun v235 e235 h235 => ?_)
              rw [show v235 = v205 from Option.some.inj (e235.symm.trans (((kr_p eσ206).trans e205)))]
              refine lv_iload_n hx hb dX11_readAct_207 rfl (lv_at hl 2 rfl) ?_
              refine lv_iconst (v := 1) hx hb dX11_readAct_208 (by decide) ?_
              refine lv_iadd hx hb dX11_readAct_209 ?_
              refine lv_topi (fun v236 e236 => ?_)
              have i236 : Iv v236 1 317 := iv_add e236 ia1 (⟨by decide, by decide⟩ : Iv 1 1 1) (by decide)
              have x236 : v236.toInt = a1.toInt + 1 := ex_add e236 ia1 (⟨by decide, by decide⟩ : Iv 1 1 1) (by decide)
              refine lv_aload_n hx hb dX11_readAct_210 rfl (lv_at hl 1 rfl) ?_
              refine lv_bipush (v := 48) hx hb dX11_readAct_211 (by decide) ?_
              refine lv_bipush (v := 10) hx hb dX11_readAct_213 (by decide) ?_
              have z237 : (σ206.1 662 a0).toInt = (v203 : Int32).toInt := congrArg Int32.toInt (show σ206.1 662 a0 = v203 from ((kp_p eσ206).trans (kp_s eσ204)))
              have z238 : (σ206.1 660 a0).toInt = ((σ.1 660 a0) : Int32).toInt := congrArg Int32.toInt (show σ206.1 660 a0 = (σ.1 660 a0) from ((kp_p eσ206).trans ((kp_i eσ204 (by decide)).trans rfl)))
              have i239 : Iv (σ206.1 663 a0) (-1) 200 := o_fb (j := 663) hw ha0 rfl
              have z240 : (σ206.1 661 a0).toInt = ((σ.1 661 a0) : Int32).toInt := congrArg Int32.toInt (show σ206.1 661 a0 = (σ.1 661 a0) from ((kp_p eσ206).trans ((kp_i eσ204 (by decide)).trans rfl)))
              refine o_ci hw (oRunV cx hA hw q_X11_oneOf k_m_X11_171 rfl ha0 (by decide) (As := [.int 48, .int 10]) (c_X11_oneOfT a0 ha0 48 (iv_w (⟨by decide, by decide⟩ : Iv 48 48 48) (by decide)) 10 (iv_w (⟨by decide, by decide⟩ : Iv 10 10 10) (by decide)) b0 (((kr_p eσ206).trans ((kr_i eσ204).trans hF0))) hb0 (kn_iv (((kp_p eσ206).trans ((kp_i eσ204 (by decide)).trans rfl))) (iv_w hf660 (by decide)))) (by decide) rfl hl.1 rfl (Nat.le_of_ble_eq_true rfl) dX11_readAct_215 (by decide)) (fun v242 σ241 H locs hp hw => ?_)
              obtain ⟨p242_0, p242_1, p242_2, p242_3, p242_4, p242_5⟩ := hp
              have fr := oFr_tr fr p242_0 (by decide)
              have i243 : Iv (σ241.1 662 a0) 0 200 := o_fb (j := 662) hw ha0 rfl
              have i244 : Iv (σ241.1 663 a0) (-1) 200 := o_fb (j := 663) hw ha0 rfl
              have i245 : Iv v242 0 9 := iv_lt0 p242_2 (⟨by decide, by decide⟩ : Iv 10 10 10) (by decide)
              refine o_iast cx hw h205 (by decide) rfl (iv_in i236 (by decide)) trivial dX11_readAct_218 (fun σ246 H locs eσ246 hw => ?_)
              have fr := oFr_p fr eσ246 h205 (by decide)
              rw [← hQ]
              exact o_rv cx rx hw dX11_readAct_219 ⟨fr, (by exact (by have := (ia1).1; have := (ia1).2; have := (i200).1; have := (i200).2; have := (hf660).1; have := (hf660).2; have := (i1).1; have := (i1).2; have := (i243).1; have := (i243).2; have := (i244).1; have := (i244).2; have := (i201).1; have := (i201).2; have := (i203).1; have := (i203).2; have := (i236).1; have := (i236).2; have := (i239).1; have := (i239).2; have := (i245).1; have := (i245).2; have : (σ246.1 660 a0).toInt = ((σ.1 660 a0) : Int32).toInt := congrArg Int32.toInt (show σ246.1 660 a0 = (σ.1 660 a0) from ((kp_p eσ246).trans ((kp_c p242_0 (by decide)).trans ((kp_p eσ206).trans ((kp_i eσ204 (by decide)).trans rfl))))); have : (σ246.1 661 a0).toInt = ((σ.1 661 a0) : Int32).toInt := congrArg Int32.toInt (show σ246.1 661 a0 = (σ.1 661 a0) from ((kp_p eσ246).trans ((kp_c p242_0 (by decide)).trans ((kp_p eσ206).trans ((kp_i eσ204 (by decide)).trans rfl))))); have : (σ246.1 662 a0).toInt = ((σ241.1 662 a0) : Int32).toInt := congrArg Int32.toInt (show σ246.1 662 a0 = (σ241.1 662 a0) from ((kp_p eσ246).trans rfl)); have : (σ246.1 663 a0).toInt = ((σ241.1 663 a0) : Int32).toInt := congrArg Int32.toInt (show σ246.1 663 a0 = (σ241.1 663 a0) from ((kp_p eσ246).trans rfl)); have : (v3 : Int32).toInt ≠ (104 : Int32).toInt := fun q => c4 (Int32.toInt_inj.mp q); have : (v3 : Int32).toInt ≠ (115 : Int32).toInt := fun q => c55 (Int32.toInt_inj.mp q); have : (v3 : Int32).toInt ≠ (116 : Int32).toInt := fun q => c103 (Int32.toInt_inj.mp q); have : (v3 : Int32).toInt ≠ (111 : Int32).toInt := fun q => c151 (Int32.toInt_inj.mp q); have : (v3 : Int32).toInt ≠ (99 : Int32).toInt := fun q => c175 (Int32.toInt_inj.mp q); have : (v3 : Int32).toInt = (100 : Int32).toInt := congrArg Int32.toInt c199; have : (10 : Int32).toInt = 10 := (by decide); have : (100 : Int32).toInt = 100 := (by decide); have : (104 : Int32).toInt = 104 := (by decide); have : (111 : Int32).toInt = 111 := (by decide); have : (115 : Int32).toInt = 115 := (by decide); have : (116 : Int32).toInt = 116 := (by decide); have : (48 : Int32).toInt = 48 := (by decide); have : (99 : Int32).toInt = 99 := (by decide); omega))⟩
            · --
              refine lv_aload_n hx hb dX11_readAct_41 rfl (lv_at hl 1 rfl) ?_
              refine lv_aload_n hx hb dX11_readAct_42 rfl (lv_at hl 1 rfl) ?_
              refine g_662 cx hw ha0 k_f_X11_120 dX11_readAct_43 (fun v247 e247 i247 => ?_)
              rw [show v247 = (σ.1 662 a0) from e247.trans rfl]
              have i248 : Iv (σ.1 663 a0) (-1) 200 := o_fb (j := 663) hw ha0 rfl
              refine o_cv hw (oRunV cx hA hw q_X11_fault k_m_X11_138 rfl ha0 (by decide) (As := [.int (σ.1 662 a0)]) (c_X11_fault a0 ha0 (σ.1 662 a0) (iv_w hf662 (by decide))) (by decide) rfl hl.1 rfl (Nat.le_of_ble_eq_true rfl) dX11_readAct_46 (by decide)) (fun σ249 H locs hp hw => ?_)
              obtain ⟨p250_0, p250_1⟩ := hp
              have fr := oFr_tr fr p250_0 (by decide)
              have i251 : Iv (σ249.1 663 a0) (-1) 200 := o_fb (j := 663) hw ha0 rfl
              have i252 : Iv (σ249.1 663 a0) 0 200 := (by have := (ia1).1; have := (ia1).2; have := (p3_1).1; have := (p3_1).2; have := (hf660).1; have := (hf660).2; have := (hf662).1; have := (hf662).2; have := (i1).1; have := (i1).2; have := (i251).1; have := (i251).2; have := (i248).1; have := (i248).2; have : (σ249.1 660 a0).toInt = ((σ.1 660 a0) : Int32).toInt := congrArg Int32.toInt (show σ249.1 660 a0 = (σ.1 660 a0) from ((kp_c p250_0 (by decide)).trans rfl)); have : (σ249.1 662 a0).toInt = ((σ.1 662 a0) : Int32).toInt := congrArg Int32.toInt (show σ249.1 662 a0 = (σ.1 662 a0) from ((kp_c p250_0 (by decide)).trans rfl)); have : (σ249.1 661 a0).toInt = ((σ.1 661 a0) : Int32).toInt := congrArg Int32.toInt (show σ249.1 661 a0 = (σ.1 661 a0) from ((kp_c p250_0 (by decide)).trans rfl)); have : (v3 : Int32).toInt ≠ (104 : Int32).toInt := fun q => c4 (Int32.toInt_inj.mp q); have : (v3 : Int32).toInt ≠ (115 : Int32).toInt := fun q => c55 (Int32.toInt_inj.mp q); have : (v3 : Int32).toInt ≠ (116 : Int32).toInt := fun q => c103 (Int32.toInt_inj.mp q); have : (v3 : Int32).toInt ≠ (111 : Int32).toInt := fun q => c151 (Int32.toInt_inj.mp q); have : (v3 : Int32).toInt ≠ (99 : Int32).toInt := fun q => c175 (Int32.toInt_inj.mp q); have : (v3 : Int32).toInt ≠ (100 : Int32).toInt := fun q => c199 (Int32.toInt_inj.mp q); have : (100 : Int32).toInt = 100 := (by decide); have : (104 : Int32).toInt = 104 := (by decide); have : (111 : Int32).toInt = 111 := (by decide); have : (115 : Int32).toInt = 115 := (by decide); have : (116 : Int32).toInt = 116 := (by decide); have : (99 : Int32).toInt = 99 := (by decide); exact ⟨by omega, by omega⟩)
              refine lv_aload_n hx hb dX11_readAct_49 rfl (lv_at hl 1 rfl) ?_
              refine lv_dup hx hb dX11_readAct_50 rfl ?_
              refine g_662 cx hw ha0 k_f_X11_120 dX11_readAct_51 (fun v253 e253 i253 => ?_)
              rw [show v253 = (σ.1 662 a0) from e253.trans ((kp_c p250_0 (by decide)).trans rfl)]
              refine lv_iconst (v := 1) hx hb dX11_readAct_54 (by decide) ?_
              refine lv_iadd hx hb dX11_readAct_55 ?_
              refine lv_topi (fun v254 e254 => ?_)
              have i254 : Iv v254 1 81 := iv_add e254 hf662 (⟨by decide, by decide⟩ : Iv 1 1 1) (by decide)
              have x254 : v254.toInt = (σ.1 662 a0).toInt + 1 := ex_add e254 hf662 (⟨by decide, by decide⟩ : Iv 1 1 1) (by decide)
              refine p_662 cx hw ha0 (iv_w i254 (by decide)) k_f_X11_120 dX11_readAct_56 (fun σ255 H locs eσ255 hw => ?_)
              have fr := oFr_i fr eσ255 (by decide)
              refine lv_aload_n hx hb dX11_readAct_59 rfl (lv_at hl 1 rfl) ?_
              refine g_674 cx hw ha0 k_f_X11_61 dX11_readAct_60 (fun v256 e256 h256 => ?_)
              refine lv_iload_n hx hb dX11_readAct_63 rfl (lv_at hl 2 rfl) ?_
              refine lv_iload_n hx hb dX11_readAct_64 rfl (lv_at hl 0 rfl) ?_
              refine o_iast cx hw h256 (by decide) rfl (iv_in ia1 (by decide)) trivial dX11_readAct_65 (fun σ257 H locs eσ257 hw => ?_)
              have fr := oFr_p fr eσ257 h256 (by decide)
              refine lv_iload_n hx hb dX11_readAct_66 rfl (lv_at hl 0 rfl) ?_
              by_cases q258 : v3 = 100
              · --
                refine lv_lookup (off := 107) (tgt := 174) hx hb dX11_readAct_67 (by decide) (by rw [q258] <;> decide) (by decide) ?_
                have i259 : Iv v3 100 100 := iv_eq1 q258 p3_1 (⟨by decide, by decide⟩ : Iv 100 100 100) (by decide)
                refine lv_aload_n hx hb dX11_readAct_174 rfl (lv_at hl 1 rfl) ?_
                refine g_674 cx hw ha0 k_f_X11_61 dX11_readAct_175 (fun v260 e260 h260 => ?_)
                rw [show v260 = v256 from Option.some.inj (e260.symm.trans (((kr_p eσ257).trans e256)))]
                refine lv_iload_n hx hb dX11_readAct_178 rfl (lv_at hl 2 rfl) ?_
                refine lv_iconst (v := 1) hx hb dX11_readAct_179 (by decide) ?_
                refine lv_iadd hx hb dX11_readAct_180 ?_
                refine lv_topi (fun v261 e261 => ?_)
                have i261 : Iv v261 1 317 := iv_add e261 ia1 (⟨by decide, by decide⟩ : Iv 1 1 1) (by decide)
                have x261 : v261.toInt = a1.toInt + 1 := ex_add e261 ia1 (⟨by decide, by decide⟩ : Iv 1 1 1) (by decide)
                refine lv_aload_n hx hb dX11_readAct_181 rfl (lv_at hl 1 rfl) ?_
                refine lv_bipush (v := 48) hx hb dX11_readAct_182 (by decide) ?_
                refine lv_bipush (v := 10) hx hb dX11_readAct_184 (by decide) ?_
                have z262 : (σ257.1 662 a0).toInt = (v254 : Int32).toInt := congrArg Int32.toInt (show σ257.1 662 a0 = v254 from ((kp_p eσ257).trans (kp_s eσ255)))
                have z263 : (σ257.1 660 a0).toInt = ((σ.1 660 a0) : Int32).toInt := congrArg Int32.toInt (show σ257.1 660 a0 = (σ.1 660 a0) from ((kp_p eσ257).trans ((kp_i eσ255 (by decide)).trans ((kp_c p250_0 (by decide)).trans rfl))))
                have z264 : (σ257.1 663 a0).toInt = ((σ249.1 663 a0) : Int32).toInt := congrArg Int32.toInt (show σ257.1 663 a0 = (σ249.1 663 a0) from ((kp_p eσ257).trans ((kp_i eσ255 (by decide)).trans rfl)))
                have z265 : (σ257.1 661 a0).toInt = ((σ.1 661 a0) : Int32).toInt := congrArg Int32.toInt (show σ257.1 661 a0 = (σ.1 661 a0) from ((kp_p eσ257).trans ((kp_i eσ255 (by decide)).trans ((kp_c p250_0 (by decide)).trans rfl))))
                refine o_ci hw (oRunV cx hA hw q_X11_oneOf k_m_X11_171 rfl ha0 (by decide) (As := [.int 48, .int 10]) (c_X11_oneOfT a0 ha0 48 (iv_w (⟨by decide, by decide⟩ : Iv 48 48 48) (by decide)) 10 (iv_w (⟨by decide, by decide⟩ : Iv 10 10 10) (by decide)) b0 (((kr_p eσ257).trans ((kr_i eσ255).trans ((kr_c p250_0 (by decide)).trans hF0)))) hb0 (kn_iv (((kp_p eσ257).trans ((kp_i eσ255 (by decide)).trans ((kp_c p250_0 (by decide)).trans rfl)))) (iv_w hf660 (by decide)))) (by decide) rfl hl.1 rfl (Nat.le_of_ble_eq_true rfl) dX11_readAct_186 (by decide)) (fun v267 σ266 H locs hp hw => ?_)
                obtain ⟨p267_0, p267_1, p267_2, p267_3, p267_4, p267_5⟩ := hp
                have fr := oFr_tr fr p267_0 (by decide)
                have i268 : Iv (σ266.1 662 a0) 0 200 := o_fb (j := 662) hw ha0 rfl
                have i269 : Iv (σ266.1 663 a0) (-1) 200 := o_fb (j := 663) hw ha0 rfl
                have i270 : Iv v267 0 9 := iv_lt0 p267_2 (⟨by decide, by decide⟩ : Iv 10 10 10) (by decide)
                refine o_iast cx hw h256 (by decide) rfl (iv_in i261 (by decide)) trivial dX11_readAct_189 (fun σ271 H locs eσ271 hw => ?_)
                have fr := oFr_p fr eσ271 h256 (by decide)
                refine lv_aload_n hx hb dX11_readAct_190 rfl (lv_at hl 1 rfl) ?_
                refine g_674 cx hw ha0 k_f_X11_61 dX11_readAct_191 (fun v272 e272 h272 => ?_)
                rw [show v272 = v256 from Option.some.inj (e272.symm.trans (((kr_p eσ271).trans ((kr_c p267_0 (by decide)).trans ((kr_p eσ257).trans e256)))))]
                refine lv_iload_n hx hb dX11_readAct_194 rfl (lv_at hl 2 rfl) ?_
                refine lv_iconst (v := 2) hx hb dX11_readAct_195 (by decide) ?_
                refine lv_iadd hx hb dX11_readAct_196 ?_
                refine lv_topi (fun v273 e273 => ?_)
                have i273 : Iv v273 2 318 := iv_add e273 ia1 (⟨by decide, by decide⟩ : Iv 2 2 2) (by decide)
                have x273 : v273.toInt = a1.toInt + 2 := ex_add e273 ia1 (⟨by decide, by decide⟩ : Iv 2 2 2) (by decide)
                refine lv_aload_n hx hb dX11_readAct_197 rfl (lv_at hl 1 rfl) ?_
                have z274 : (σ271.1 662 a0).toInt = ((σ266.1 662 a0) : Int32).toInt := congrArg Int32.toInt (show σ271.1 662 a0 = (σ266.1 662 a0) from ((kp_p eσ271).trans rfl))
                have z275 : (σ271.1 660 a0).toInt = ((σ.1 660 a0) : Int32).toInt := congrArg Int32.toInt (show σ271.1 660 a0 = (σ.1 660 a0) from ((kp_p eσ271).trans ((kp_c p267_0 (by decide)).trans ((kp_p eσ257).trans ((kp_i eσ255 (by decide)).trans ((kp_c p250_0 (by decide)).trans rfl))))))
                have z276 : (σ271.1 663 a0).toInt = ((σ266.1 663 a0) : Int32).toInt := congrArg Int32.toInt (show σ271.1 663 a0 = (σ266.1 663 a0) from ((kp_p eσ271).trans rfl))
                have z277 : (σ271.1 661 a0).toInt = ((σ.1 661 a0) : Int32).toInt := congrArg Int32.toInt (show σ271.1 661 a0 = (σ.1 661 a0) from ((kp_p eσ271).trans ((kp_c p267_0 (by decide)).trans ((kp_p eσ257).trans ((kp_i eσ255 (by decide)).trans ((kp_c p250_0 (by decide)).trans rfl))))))
                refine o_ci hw (oRunV cx hA hw q_X11_readCell k_m_X11_302 rfl ha0 (by decide) (As := []) (c_X11_readCell a0 ha0 b0 (((kr_p eσ271).trans ((kr_c p267_0 (by decide)).trans ((kr_p eσ257).trans ((kr_i eσ255).trans ((kr_c p250_0 (by decide)).trans hF0)))))) hb0 (kn_iv (((kp_p eσ271).trans ((kp_c p267_0 (by decide)).trans ((kp_p eσ257).trans ((kp_i eσ255 (by decide)).trans ((kp_c p250_0 (by decide)).trans rfl)))))) (iv_w hf660 (by decide)))) (by decide) rfl hl.1 rfl (Nat.le_of_ble_eq_true rfl) dX11_readAct_198 (by decide)) (fun v279 σ278 H locs hp hw => ?_)
                obtain ⟨p279_0, p279_1, p279_2⟩ := hp
                have fr := oFr_tr fr p279_0 (by decide)
                have i280 : Iv (σ278.1 662 a0) 0 200 := o_fb (j := 662) hw ha0 rfl
                have i281 : Iv (σ278.1 663 a0) (-1) 200 := o_fb (j := 663) hw ha0 rfl
                refine o_iast cx hw h256 (by decide) rfl (iv_in i273 (by decide)) trivial dX11_readAct_201 (fun σ282 H locs eσ282 hw => ?_)
                have fr := oFr_p fr eσ282 h256 (by decide)
                rw [← hQ]
                exact o_rv cx rx hw dX11_readAct_202 ⟨fr, (by exact (by have := (ia1).1; have := (ia1).2; have := (i259).1; have := (i259).2; have := (hf660).1; have := (hf660).2; have := (i1).1; have := (i1).2; have := (i280).1; have := (i280).2; have := (i281).1; have := (i281).2; have := (hf662).1; have := (hf662).2; have := (i248).1; have := (i248).2; have := (i252).1; have := (i252).2; have := (i254).1; have := (i254).2; have := (i261).1; have := (i261).2; have := (i268).1; have := (i268).2; have := (i269).1; have := (i269).2; have := (i270).1; have := (i270).2; have := (i273).1; have := (i273).2; have := (p279_1).1; have := (p279_1).2; have : (σ282.1 660 a0).toInt = ((σ.1 660 a0) : Int32).toInt := congrArg Int32.toInt (show σ282.1 660 a0 = (σ.1 660 a0) from ((kp_p eσ282).trans ((kp_c p279_0 (by decide)).trans ((kp_p eσ271).trans ((kp_c p267_0 (by decide)).trans ((kp_p eσ257).trans ((kp_i eσ255 (by decide)).trans ((kp_c p250_0 (by decide)).trans rfl)))))))); have : (σ282.1 661 a0).toInt = ((σ.1 661 a0) : Int32).toInt := congrArg Int32.toInt (show σ282.1 661 a0 = (σ.1 661 a0) from ((kp_p eσ282).trans ((kp_c p279_0 (by decide)).trans ((kp_p eσ271).trans ((kp_c p267_0 (by decide)).trans ((kp_p eσ257).trans ((kp_i eσ255 (by decide)).trans ((kp_c p250_0 (by decide)).trans rfl)))))))); have : (σ282.1 662 a0).toInt = ((σ278.1 662 a0) : Int32).toInt := congrArg Int32.toInt (show σ282.1 662 a0 = (σ278.1 662 a0) from ((kp_p eσ282).trans rfl)); have : (σ282.1 663 a0).toInt = ((σ278.1 663 a0) : Int32).toInt := congrArg Int32.toInt (show σ282.1 663 a0 = (σ278.1 663 a0) from ((kp_p eσ282).trans rfl)); have : (v3 : Int32).toInt ≠ (104 : Int32).toInt := fun q => c4 (Int32.toInt_inj.mp q); have : (v3 : Int32).toInt ≠ (115 : Int32).toInt := fun q => c55 (Int32.toInt_inj.mp q); have : (v3 : Int32).toInt ≠ (116 : Int32).toInt := fun q => c103 (Int32.toInt_inj.mp q); have : (v3 : Int32).toInt ≠ (111 : Int32).toInt := fun q => c151 (Int32.toInt_inj.mp q); have : (v3 : Int32).toInt ≠ (99 : Int32).toInt := fun q => c175 (Int32.toInt_inj.mp q); have : (v3 : Int32).toInt ≠ (100 : Int32).toInt := fun q => c199 (Int32.toInt_inj.mp q); have : (10 : Int32).toInt = 10 := (by decide); have : (100 : Int32).toInt = 100 := (by decide); have : (104 : Int32).toInt = 104 := (by decide); have : (111 : Int32).toInt = 111 := (by decide); have : (115 : Int32).toInt = 115 := (by decide); have : (116 : Int32).toInt = 116 := (by decide); have : (48 : Int32).toInt = 48 := (by decide); have : (99 : Int32).toInt = 99 := (by decide); omega))⟩
              by_cases q283 : v3 = 104
              · --
                refine lv_lookup (off := 41) (tgt := 108) hx hb dX11_readAct_67 (by decide) (by rw [q283] <;> decide) (by decide) ?_
                have i284 : Iv v3 104 104 := iv_eq1 q283 p3_1 (⟨by decide, by decide⟩ : Iv 104 104 104) (by decide)
                refine lv_aload_n hx hb dX11_readAct_108 rfl (lv_at hl 1 rfl) ?_
                refine g_674 cx hw ha0 k_f_X11_61 dX11_readAct_109 (fun v285 e285 h285 => ?_)
                rw [show v285 = v256 from Option.some.inj (e285.symm.trans (((kr_p eσ257).trans e256)))]
                refine lv_iload_n hx hb dX11_readAct_112 rfl (lv_at hl 2 rfl) ?_
                refine lv_iconst (v := 1) hx hb dX11_readAct_113 (by decide) ?_
                refine lv_iadd hx hb dX11_readAct_114 ?_
                refine lv_topi (fun v286 e286 => ?_)
                have i286 : Iv v286 1 317 := iv_add e286 ia1 (⟨by decide, by decide⟩ : Iv 1 1 1) (by decide)
                have x286 : v286.toInt = a1.toInt + 1 := ex_add e286 ia1 (⟨by decide, by decide⟩ : Iv 1 1 1) (by decide)
                refine lv_aload_n hx hb dX11_readAct_115 rfl (lv_at hl 1 rfl) ?_
                have z287 : (σ257.1 662 a0).toInt = (v254 : Int32).toInt := congrArg Int32.toInt (show σ257.1 662 a0 = v254 from ((kp_p eσ257).trans (kp_s eσ255)))
                have z288 : (σ257.1 660 a0).toInt = ((σ.1 660 a0) : Int32).toInt := congrArg Int32.toInt (show σ257.1 660 a0 = (σ.1 660 a0) from ((kp_p eσ257).trans ((kp_i eσ255 (by decide)).trans ((kp_c p250_0 (by decide)).trans rfl))))
                have z289 : (σ257.1 661 a0).toInt = ((σ.1 661 a0) : Int32).toInt := congrArg Int32.toInt (show σ257.1 661 a0 = (σ.1 661 a0) from ((kp_p eσ257).trans ((kp_i eσ255 (by decide)).trans ((kp_c p250_0 (by decide)).trans rfl))))
                refine o_ci hw (oRunV cx hA hw q_X11_here k_m_X11_130 rfl ha0 (by decide) (As := []) (c_X11_hereT a0 ha0 b0 (((kr_p eσ257).trans ((kr_i eσ255).trans ((kr_c p250_0 (by decide)).trans hF0)))) hb0 (kn_iv (((kp_p eσ257).trans ((kp_i eσ255 (by decide)).trans ((kp_c p250_0 (by decide)).trans rfl)))) (iv_w hf660 (by decide)))) (by decide) rfl hl.1 rfl (Nat.le_of_ble_eq_true rfl) dX11_readAct_116 (by decide)) (fun v291 σ290 H locs hp hw => ?_)
                obtain ⟨p291_0, p291_1, p291_2, p291_3, p291_4, p291_5, p291_6⟩ := hp
                rw [p291_0] at hw
                have hnv291 := congrArg Int32.toInt p291_6
                refine lv_bipush (v := 49) hx hb dX11_readAct_119 (by decide) ?_
                refine lv_bipush (v := 57) hx hb dX11_readAct_121 (by decide) ?_
                refine o_ci hw (oRunS cx hA hw q_X11_in k_m_X11_95 (As := [.int v291, .int 49, .int 57]) (c_X11_in v291 49 57) (by decide) rfl hl.1 rfl (Nat.le_of_ble_eq_true rfl) dX11_readAct_123 (by decide)) (fun v293 σ292 H locs hp hw => ?_)
                obtain ⟨p293_0, p293_1, p293_2, p293_3, p293_4, p293_5⟩ := hp
                rw [p293_0] at hw
                refine lv_if_eq (tgt := 142) hx hb dX11_readAct_126 (by decide) (fun c294 => ?_) (fun c294 => ?_)
                · --
                  have i295 : Iv v293 0 0 := iv_eq1 c294 p293_1 (⟨by decide, by decide⟩ : Iv 0 0 0) (by decide)
                  refine lv_iconst (v := 1) hx hb dX11_readAct_142 (by decide) ?_
                  refine o_iast cx hw h256 (by decide) rfl (iv_in i286 (by decide)) trivial dX11_readAct_143 (fun σ296 H locs eσ296 hw => ?_)
                  have fr := oFr_p fr eσ296 h256 (by decide)
                  rw [← hQ]
                  exact o_rv cx rx hw dX11_readAct_144 ⟨fr, (by exact (by have := (ia1).1; have := (ia1).2; have := (i284).1; have := (i284).2; have := (hf660).1; have := (hf660).2; have := (i1).1; have := (i1).2; have := (i252).1; have := (i252).2; have := (i254).1; have := (i254).2; have := (hf662).1; have := (hf662).2; have := (i248).1; have := (i248).2; have := (i286).1; have := (i286).2; have := (p291_1).1; have := (p291_1).2; have := (i295).1; have := (i295).2; have : (σ296.1 660 a0).toInt = ((σ.1 660 a0) : Int32).toInt := congrArg Int32.toInt (show σ296.1 660 a0 = (σ.1 660 a0) from ((kp_p eσ296).trans ((kp_p eσ257).trans ((kp_i eσ255 (by decide)).trans ((kp_c p250_0 (by decide)).trans rfl))))); have : (σ296.1 661 a0).toInt = ((σ.1 661 a0) : Int32).toInt := congrArg Int32.toInt (show σ296.1 661 a0 = (σ.1 661 a0) from ((kp_p eσ296).trans ((kp_p eσ257).trans ((kp_i eσ255 (by decide)).trans ((kp_c p250_0 (by decide)).trans rfl))))); have : (σ296.1 663 a0).toInt = ((σ249.1 663 a0) : Int32).toInt := congrArg Int32.toInt (show σ296.1 663 a0 = (σ249.1 663 a0) from ((kp_p eσ296).trans ((kp_p eσ257).trans ((kp_i eσ255 (by decide)).trans rfl)))); have : (σ296.1 662 a0).toInt = (v254 : Int32).toInt := congrArg Int32.toInt (show σ296.1 662 a0 = v254 from ((kp_p eσ296).trans ((kp_p eσ257).trans (kp_s eσ255)))); have : (v3 : Int32).toInt ≠ (104 : Int32).toInt := fun q => c4 (Int32.toInt_inj.mp q); have : (v3 : Int32).toInt ≠ (115 : Int32).toInt := fun q => c55 (Int32.toInt_inj.mp q); have : (v3 : Int32).toInt ≠ (116 : Int32).toInt := fun q => c103 (Int32.toInt_inj.mp q); have : (v3 : Int32).toInt ≠ (111 : Int32).toInt := fun q => c151 (Int32.toInt_inj.mp q); have : (v3 : Int32).toInt ≠ (99 : Int32).toInt := fun q => c175 (Int32.toInt_inj.mp q); have : (v3 : Int32).toInt ≠ (100 : Int32).toInt := fun q => c199 (Int32.toInt_inj.mp q); have : (v293 : Int32).toInt = (0 : Int32).toInt := congrArg Int32.toInt c294; have : (0 : Int32).toInt = 0 := (by decide); have : (100 : Int32).toInt = 100 := (by decide); have : (104 : Int32).toInt = 104 := (by decide); have : (111 : Int32).toInt = 111 := (by decide); have : (115 : Int32).toInt = 115 := (by decide); have : (116 : Int32).toInt = 116 := (by decide); have : (49 : Int32).toInt = 49 := (by decide); have : (57 : Int32).toInt = 57 := (by decide); have : (99 : Int32).toInt = 99 := (by decide); omega))⟩
                · --
                  have i297 : Iv v293 1 1 := iv_ne1 c294 p293_1 (⟨by decide, by decide⟩ : Iv 0 0 0) (by decide)
                  have i298 : Iv v291 49 57 := (fun h => iv_rel (p293_2 h) (⟨by decide, by decide⟩ : Iv 49 49 49) (⟨by decide, by decide⟩ : Iv 57 57 57)) c294
                  have i299 : Iv v254 0 79 := (fun h => kn_iv2 (((kp_p eσ257).trans (kp_s eσ255))) (p291_2 h)) (ge0_iv i298 (by decide))
                  refine lv_aload_n hx hb dX11_readAct_129 rfl (lv_at hl 1 rfl) ?_
                  refine lv_bipush (v := 49) hx hb dX11_readAct_130 (by decide) ?_
                  refine lv_bipush (v := 9) hx hb dX11_readAct_132 (by decide) ?_
                  have z300 : (σ257.1 662 a0).toInt = (v254 : Int32).toInt := congrArg Int32.toInt (show σ257.1 662 a0 = v254 from ((kp_p eσ257).trans (kp_s eσ255)))
                  have z301 : (σ257.1 660 a0).toInt = ((σ.1 660 a0) : Int32).toInt := congrArg Int32.toInt (show σ257.1 660 a0 = (σ.1 660 a0) from ((kp_p eσ257).trans ((kp_i eσ255 (by decide)).trans ((kp_c p250_0 (by decide)).trans rfl))))
                  have z302 : (σ257.1 663 a0).toInt = ((σ249.1 663 a0) : Int32).toInt := congrArg Int32.toInt (show σ257.1 663 a0 = (σ249.1 663 a0) from ((kp_p eσ257).trans ((kp_i eσ255 (by decide)).trans rfl)))
                  have z303 : (σ257.1 661 a0).toInt = ((σ.1 661 a0) : Int32).toInt := congrArg Int32.toInt (show σ257.1 661 a0 = (σ.1 661 a0) from ((kp_p eσ257).trans ((kp_i eσ255 (by decide)).trans ((kp_c p250_0 (by decide)).trans rfl))))
                  refine o_ci hw (oRunV cx hA hw q_X11_oneOf k_m_X11_171 rfl ha0 (by decide) (As := [.int 49, .int 9]) (c_X11_oneOfT a0 ha0 49 (iv_w (⟨by decide, by decide⟩ : Iv 49 49 49) (by decide)) 9 (iv_w (⟨by decide, by decide⟩ : Iv 9 9 9) (by decide)) b0 (((kr_p eσ257).trans ((kr_i eσ255).trans ((kr_c p250_0 (by decide)).trans hF0)))) hb0 (kn_iv (((kp_p eσ257).trans ((kp_i eσ255 (by decide)).trans ((kp_c p250_0 (by decide)).trans rfl)))) (iv_w hf660 (by decide)))) (by decide) rfl hl.1 rfl (Nat.le_of_ble_eq_true rfl) dX11_readAct_134 (by decide)) (fun v305 σ304 H locs hp hw => ?_)
                  obtain ⟨p305_0, p305_1, p305_2, p305_3, p305_4, p305_5⟩ := hp
                  have fr := oFr_tr fr p305_0 (by decide)
                  have i306 : Iv (σ304.1 662 a0) 0 200 := o_fb (j := 662) hw ha0 rfl
                  have i307 : Iv (σ304.1 663 a0) (-1) 200 := o_fb (j := 663) hw ha0 rfl
                  have i308 : Iv v305 0 8 := iv_lt0 p305_2 (⟨by decide, by decide⟩ : Iv 9 9 9) (by decide)
                  refine lv_iconst (v := 1) hx hb dX11_readAct_137 (by decide) ?_
                  refine lv_iadd hx hb dX11_readAct_138 ?_
                  refine lv_topi (fun v309 e309 => ?_)
                  have i309 : Iv v309 1 9 := iv_add e309 i308 (⟨by decide, by decide⟩ : Iv 1 1 1) (by decide)
                  have x309 : v309.toInt = v305.toInt + 1 := ex_add e309 i308 (⟨by decide, by decide⟩ : Iv 1 1 1) (by decide)
                  refine lv_goto (tgt := 143) hx hb dX11_readAct_139 (by decide) ?_
                  refine o_iast cx hw h256 (by decide) rfl (iv_in i286 (by decide)) trivial dX11_readAct_143 (fun σ310 H locs eσ310 hw => ?_)
                  have fr := oFr_p fr eσ310 h256 (by decide)
                  rw [← hQ]
                  exact o_rv cx rx hw dX11_readAct_144 ⟨fr, (by exact (by have := (ia1).1; have := (ia1).2; have := (i284).1; have := (i284).2; have := (hf660).1; have := (hf660).2; have := (i1).1; have := (i1).2; have := (i306).1; have := (i306).2; have := (i307).1; have := (i307).2; have := (hf662).1; have := (hf662).2; have := (i248).1; have := (i248).2; have := (i252).1; have := (i252).2; have := (i299).1; have := (i299).2; have := (i286).1; have := (i286).2; have := (i298).1; have := (i298).2; have := (i297).1; have := (i297).2; have := (i308).1; have := (i308).2; have := (i309).1; have := (i309).2; have : (σ310.1 660 a0).toInt = ((σ.1 660 a0) : Int32).toInt := congrArg Int32.toInt (show σ310.1 660 a0 = (σ.1 660 a0) from ((kp_p eσ310).trans ((kp_c p305_0 (by decide)).trans ((kp_p eσ257).trans ((kp_i eσ255 (by decide)).trans ((kp_c p250_0 (by decide)).trans rfl)))))); have : (σ310.1 661 a0).toInt = ((σ.1 661 a0) : Int32).toInt := congrArg Int32.toInt (show σ310.1 661 a0 = (σ.1 661 a0) from ((kp_p eσ310).trans ((kp_c p305_0 (by decide)).trans ((kp_p eσ257).trans ((kp_i eσ255 (by decide)).trans ((kp_c p250_0 (by decide)).trans rfl)))))); have : (σ310.1 662 a0).toInt = ((σ304.1 662 a0) : Int32).toInt := congrArg Int32.toInt (show σ310.1 662 a0 = (σ304.1 662 a0) from ((kp_p eσ310).trans rfl)); have : (σ310.1 663 a0).toInt = ((σ304.1 663 a0) : Int32).toInt := congrArg Int32.toInt (show σ310.1 663 a0 = (σ304.1 663 a0) from ((kp_p eσ310).trans rfl)); have : (v3 : Int32).toInt ≠ (104 : Int32).toInt := fun q => c4 (Int32.toInt_inj.mp q); have : (v3 : Int32).toInt ≠ (115 : Int32).toInt := fun q => c55 (Int32.toInt_inj.mp q); have : (v3 : Int32).toInt ≠ (116 : Int32).toInt := fun q => c103 (Int32.toInt_inj.mp q); have : (v3 : Int32).toInt ≠ (111 : Int32).toInt := fun q => c151 (Int32.toInt_inj.mp q); have : (v3 : Int32).toInt ≠ (99 : Int32).toInt := fun q => c175 (Int32.toInt_inj.mp q); have : (v3 : Int32).toInt ≠ (100 : Int32).toInt := fun q => c199 (Int32.toInt_inj.mp q); have : (100 : Int32).toInt = 100 := (by decide); have : (104 : Int32).toInt = 104 := (by decide); have : (111 : Int32).toInt = 111 := (by decide); have : (115 : Int32).toInt = 115 := (by decide); have : (116 : Int32).toInt = 116 := (by decide); have : (49 : Int32).toInt = 49 := (by decide); have : (57 : Int32).toInt = 57 := (by decide); have : (9 : Int32).toInt = 9 := (by decide); have : (99 : Int32).toInt = 99 := (by decide); omega))⟩
              by_cases q311 : v3 = 115
              · --
                refine lv_lookup (off := 78) (tgt := 145) hx hb dX11_readAct_67 (by decide) (by rw [q311] <;> decide) (by decide) ?_
                have i312 : Iv v3 115 115 := iv_eq1 q311 p3_1 (⟨by decide, by decide⟩ : Iv 115 115 115) (by decide)
                refine lv_aload_n hx hb dX11_readAct_145 rfl (lv_at hl 1 rfl) ?_
                refine g_674 cx hw ha0 k_f_X11_61 dX11_readAct_146 (fun v313 e313 h313 => ?_)
                rw [show v313 = v256 from Option.some.inj (e313.symm.trans (((kr_p eσ257).trans e256)))]
                refine lv_iload_n hx hb dX11_readAct_149 rfl (lv_at hl 2 rfl) ?_
                refine lv_iconst (v := 1) hx hb dX11_readAct_150 (by decide) ?_
                refine lv_iadd hx hb dX11_readAct_151 ?_
                refine lv_topi (fun v314 e314 => ?_)
                have i314 : Iv v314 1 317 := iv_add e314 ia1 (⟨by decide, by decide⟩ : Iv 1 1 1) (by decide)
                have x314 : v314.toInt = a1.toInt + 1 := ex_add e314 ia1 (⟨by decide, by decide⟩ : Iv 1 1 1) (by decide)
                refine lv_aload_n hx hb dX11_readAct_152 rfl (lv_at hl 1 rfl) ?_
                have z315 : (σ257.1 662 a0).toInt = (v254 : Int32).toInt := congrArg Int32.toInt (show σ257.1 662 a0 = v254 from ((kp_p eσ257).trans (kp_s eσ255)))
                have z316 : (σ257.1 660 a0).toInt = ((σ.1 660 a0) : Int32).toInt := congrArg Int32.toInt (show σ257.1 660 a0 = (σ.1 660 a0) from ((kp_p eσ257).trans ((kp_i eσ255 (by decide)).trans ((kp_c p250_0 (by decide)).trans rfl))))
                have z317 : (σ257.1 663 a0).toInt = ((σ249.1 663 a0) : Int32).toInt := congrArg Int32.toInt (show σ257.1 663 a0 = (σ249.1 663 a0) from ((kp_p eσ257).trans ((kp_i eσ255 (by decide)).trans rfl)))
                have z318 : (σ257.1 661 a0).toInt = ((σ.1 661 a0) : Int32).toInt := congrArg Int32.toInt (show σ257.1 661 a0 = (σ.1 661 a0) from ((kp_p eσ257).trans ((kp_i eσ255 (by decide)).trans ((kp_c p250_0 (by decide)).trans rfl))))
                refine o_ci hw (oRunV cx hA hw q_X11_readCell k_m_X11_302 rfl ha0 (by decide) (As := []) (c_X11_readCell a0 ha0 b0 (((kr_p eσ257).trans ((kr_i eσ255).trans ((kr_c p250_0 (by decide)).trans hF0)))) hb0 (kn_iv (((kp_p eσ257).trans ((kp_i eσ255 (by decide)).trans ((kp_c p250_0 (by decide)).trans rfl)))) (iv_w hf660 (by decide)))) (by decide) rfl hl.1 rfl (Nat.le_of_ble_eq_true rfl) dX11_readAct_153 (by decide)) (fun v320 σ319 H locs hp hw => ?_)
                obtain ⟨p320_0, p320_1, p320_2⟩ := hp
                have fr := oFr_tr fr p320_0 (by decide)
                have i321 : Iv (σ319.1 662 a0) 0 200 := o_fb (j := 662) hw ha0 rfl
                have i322 : Iv (σ319.1 663 a0) (-1) 200 := o_fb (j := 663) hw ha0 rfl
                refine o_iast cx hw h256 (by decide) rfl (iv_in i314 (by decide)) trivial dX11_readAct_156 (fun σ323 H locs eσ323 hw => ?_)
                have fr := oFr_p fr eσ323 h256 (by decide)
                refine lv_aload_n hx hb dX11_readAct_157 rfl (lv_at hl 1 rfl) ?_
                refine g_674 cx hw ha0 k_f_X11_61 dX11_readAct_158 (fun v324 e324 h324 => ?_)
                rw [show v324 = v256 from Option.some.inj (e324.symm.trans (((kr_p eσ323).trans ((kr_c p320_0 (by decide)).trans ((kr_p eσ257).trans e256)))))]
                refine lv_iload_n hx hb dX11_readAct_161 rfl (lv_at hl 2 rfl) ?_
                refine lv_iconst (v := 2) hx hb dX11_readAct_162 (by decide) ?_
                refine lv_iadd hx hb dX11_readAct_163 ?_
                refine lv_topi (fun v325 e325 => ?_)
                have i325 : Iv v325 2 318 := iv_add e325 ia1 (⟨by decide, by decide⟩ : Iv 2 2 2) (by decide)
                have x325 : v325.toInt = a1.toInt + 2 := ex_add e325 ia1 (⟨by decide, by decide⟩ : Iv 2 2 2) (by decide)
                refine lv_aload_n hx hb dX11_readAct_164 rfl (lv_at hl 1 rfl) ?_
                refine lv_bipush (v := 48) hx hb dX11_readAct_165 (by decide) ?_
                refine lv_bipush (v := 10) hx hb dX11_readAct_167 (by decide) ?_
                have z326 : (σ323.1 662 a0).toInt = ((σ319.1 662 a0) : Int32).toInt := congrArg Int32.toInt (show σ323.1 662 a0 = (σ319.1 662 a0) from ((kp_p eσ323).trans rfl))
                have z327 : (σ323.1 660 a0).toInt = ((σ.1 660 a0) : Int32).toInt := congrArg Int32.toInt (show σ323.1 660 a0 = (σ.1 660 a0) from ((kp_p eσ323).trans ((kp_c p320_0 (by decide)).trans ((kp_p eσ257).trans ((kp_i eσ255 (by decide)).trans ((kp_c p250_0 (by decide)).trans rfl))))))
                have z328 : (σ323.1 663 a0).toInt = ((σ319.1 663 a0) : Int32).toInt := congrArg Int32.toInt (show σ323.1 663 a0 = (σ319.1 663 a0) from ((kp_p eσ323).trans rfl))
                have z329 : (σ323.1 661 a0).toInt = ((σ.1 661 a0) : Int32).toInt := congrArg Int32.toInt (show σ323.1 661 a0 = (σ.1 661 a0) from ((kp_p eσ323).trans ((kp_c p320_0 (by decide)).trans ((kp_p eσ257).trans ((kp_i eσ255 (by decide)).trans ((kp_c p250_0 (by decide)).trans rfl))))))
                refine o_ci hw (oRunV cx hA hw q_X11_oneOf k_m_X11_171 rfl ha0 (by decide) (As := [.int 48, .int 10]) (c_X11_oneOfT a0 ha0 48 (iv_w (⟨by decide, by decide⟩ : Iv 48 48 48) (by decide)) 10 (iv_w (⟨by decide, by decide⟩ : Iv 10 10 10) (by decide)) b0 (((kr_p eσ323).trans ((kr_c p320_0 (by decide)).trans ((kr_p eσ257).trans ((kr_i eσ255).trans ((kr_c p250_0 (by decide)).trans hF0)))))) hb0 (kn_iv (((kp_p eσ323).trans ((kp_c p320_0 (by decide)).trans ((kp_p eσ257).trans ((kp_i eσ255 (by decide)).trans ((kp_c p250_0 (by decide)).trans rfl)))))) (iv_w hf660 (by decide)))) (by decide) rfl hl.1 rfl (Nat.le_of_ble_eq_true rfl) dX11_readAct_169 (by decide)) (fun v331 σ330 H locs hp hw => ?_)
                obtain ⟨p331_0, p331_1, p331_2, p331_3, p331_4, p331_5⟩ := hp
                have fr := oFr_tr fr p331_0 (by decide)
                have i332 : Iv (σ330.1 662 a0) 0 200 := o_fb (j := 662) hw ha0 rfl
                have i333 : Iv (σ330.1 663 a0) (-1) 200 := o_fb (j := 663) hw ha0 rfl
                have i334 : Iv v331 0 9 := iv_lt0 p331_2 (⟨by decide, by decide⟩ : Iv 10 10 10) (by decide)
                refine o_iast cx hw h256 (by decide) rfl (iv_in i325 (by decide)) trivial dX11_readAct_172 (fun σ335 H locs eσ335 hw => ?_)
                have fr := oFr_p fr eσ335 h256 (by decide)
                rw [← hQ]
                exact o_rv cx rx hw dX11_readAct_173 ⟨fr, (by exact (by have := (ia1).1; have := (ia1).2; have := (i312).1; have := (i312).2; have := (hf660).1; have := (hf660).2; have := (i1).1; have := (i1).2; have := (i332).1; have := (i332).2; have := (i333).1; have := (i333).2; have := (hf662).1; have := (hf662).2; have := (i248).1; have := (i248).2; have := (i252).1; have := (i252).2; have := (i254).1; have := (i254).2; have := (i314).1; have := (i314).2; have := (i321).1; have := (i321).2; have := (i322).1; have := (i322).2; have := (p320_1).1; have := (p320_1).2; have := (i325).1; have := (i325).2; have := (i334).1; have := (i334).2; have : (σ335.1 660 a0).toInt = ((σ.1 660 a0) : Int32).toInt := congrArg Int32.toInt (show σ335.1 660 a0 = (σ.1 660 a0) from ((kp_p eσ335).trans ((kp_c p331_0 (by decide)).trans ((kp_p eσ323).trans ((kp_c p320_0 (by decide)).trans ((kp_p eσ257).trans ((kp_i eσ255 (by decide)).trans ((kp_c p250_0 (by decide)).trans rfl)))))))); have : (σ335.1 661 a0).toInt = ((σ.1 661 a0) : Int32).toInt := congrArg Int32.toInt (show σ335.1 661 a0 = (σ.1 661 a0) from ((kp_p eσ335).trans ((kp_c p331_0 (by decide)).trans ((kp_p eσ323).trans ((kp_c p320_0 (by decide)).trans ((kp_p eσ257).trans ((kp_i eσ255 (by decide)).trans ((kp_c p250_0 (by decide)).trans rfl)))))))); have : (σ335.1 662 a0).toInt = ((σ330.1 662 a0) : Int32).toInt := congrArg Int32.toInt (show σ335.1 662 a0 = (σ330.1 662 a0) from ((kp_p eσ335).trans rfl)); have : (σ335.1 663 a0).toInt = ((σ330.1 663 a0) : Int32).toInt := congrArg Int32.toInt (show σ335.1 663 a0 = (σ330.1 663 a0) from ((kp_p eσ335).trans rfl)); have : (v3 : Int32).toInt ≠ (104 : Int32).toInt := fun q => c4 (Int32.toInt_inj.mp q); have : (v3 : Int32).toInt ≠ (115 : Int32).toInt := fun q => c55 (Int32.toInt_inj.mp q); have : (v3 : Int32).toInt ≠ (116 : Int32).toInt := fun q => c103 (Int32.toInt_inj.mp q); have : (v3 : Int32).toInt ≠ (111 : Int32).toInt := fun q => c151 (Int32.toInt_inj.mp q); have : (v3 : Int32).toInt ≠ (99 : Int32).toInt := fun q => c175 (Int32.toInt_inj.mp q); have : (v3 : Int32).toInt ≠ (100 : Int32).toInt := fun q => c199 (Int32.toInt_inj.mp q); have : (10 : Int32).toInt = 10 := (by decide); have : (100 : Int32).toInt = 100 := (by decide); have : (104 : Int32).toInt = 104 := (by decide); have : (111 : Int32).toInt = 111 := (by decide); have : (115 : Int32).toInt = 115 := (by decide); have : (116 : Int32).toInt = 116 := (by decide); have : (48 : Int32).toInt = 48 := (by decide); have : (99 : Int32).toInt = 99 := (by decide); omega))⟩
              by_cases q336 : v3 = 116
              · --
                refine lv_lookup (off := 78) (tgt := 145) hx hb dX11_readAct_67 (by decide) (by rw [q336] <;> decide) (by decide) ?_
                have i337 : Iv v3 116 116 := iv_eq1 q336 p3_1 (⟨by decide, by decide⟩ : Iv 116 116 116) (by decide)
                refine lv_aload_n hx hb dX11_readAct_145 rfl (lv_at hl 1 rfl) ?_
                refine g_674 cx hw ha0 k_f_X11_61 dX11_readAct_146 (fun v338 e338 h338 => ?_)
                rw [show v338 = v256 from Option.some.inj (e338.symm.trans (((kr_p eσ257).trans e256)))]
                refine lv_iload_n hx hb dX11_readAct_149 rfl (lv_at hl 2 rfl) ?_
                refine lv_iconst (v := 1) hx hb dX11_readAct_150 (by decide) ?_
                refine lv_iadd hx hb dX11_readAct_151 ?_
                refine lv_topi (fun v339 e339 => ?_)
                have i339 : Iv v339 1 317 := iv_add e339 ia1 (⟨by decide, by decide⟩ : Iv 1 1 1) (by decide)
                have x339 : v339.toInt = a1.toInt + 1 := ex_add e339 ia1 (⟨by decide, by decide⟩ : Iv 1 1 1) (by decide)
                refine lv_aload_n hx hb dX11_readAct_152 rfl (lv_at hl 1 rfl) ?_
                have z340 : (σ257.1 662 a0).toInt = (v254 : Int32).toInt := congrArg Int32.toInt (show σ257.1 662 a0 = v254 from ((kp_p eσ257).trans (kp_s eσ255)))
                have z341 : (σ257.1 660 a0).toInt = ((σ.1 660 a0) : Int32).toInt := congrArg Int32.toInt (show σ257.1 660 a0 = (σ.1 660 a0) from ((kp_p eσ257).trans ((kp_i eσ255 (by decide)).trans ((kp_c p250_0 (by decide)).trans rfl))))
                have z342 : (σ257.1 663 a0).toInt = ((σ249.1 663 a0) : Int32).toInt := congrArg Int32.toInt (show σ257.1 663 a0 = (σ249.1 663 a0) from ((kp_p eσ257).trans ((kp_i eσ255 (by decide)).trans rfl)))
                have z343 : (σ257.1 661 a0).toInt = ((σ.1 661 a0) : Int32).toInt := congrArg Int32.toInt (show σ257.1 661 a0 = (σ.1 661 a0) from ((kp_p eσ257).trans ((kp_i eσ255 (by decide)).trans ((kp_c p250_0 (by decide)).trans rfl))))
                refine o_ci hw (oRunV cx hA hw q_X11_readCell k_m_X11_302 rfl ha0 (by decide) (As := []) (c_X11_readCell a0 ha0 b0 (((kr_p eσ257).trans ((kr_i eσ255).trans ((kr_c p250_0 (by decide)).trans hF0)))) hb0 (kn_iv (((kp_p eσ257).trans ((kp_i eσ255 (by decide)).trans ((kp_c p250_0 (by decide)).trans rfl)))) (iv_w hf660 (by decide)))) (by decide) rfl hl.1 rfl (Nat.le_of_ble_eq_true rfl) dX11_readAct_153 (by decide)) (fun v345 σ344 H locs hp hw => ?_)
                obtain ⟨p345_0, p345_1, p345_2⟩ := hp
                have fr := oFr_tr fr p345_0 (by decide)
                have i346 : Iv (σ344.1 662 a0) 0 200 := o_fb (j := 662) hw ha0 rfl
                have i347 : Iv (σ344.1 663 a0) (-1) 200 := o_fb (j := 663) hw ha0 rfl
                refine o_iast cx hw h256 (by decide) rfl (iv_in i339 (by decide)) trivial dX11_readAct_156 (fun σ348 H locs eσ348 hw => ?_)
                have fr := oFr_p fr eσ348 h256 (by decide)
                refine lv_aload_n hx hb dX11_readAct_157 rfl (lv_at hl 1 rfl) ?_
                refine g_674 cx hw ha0 k_f_X11_61 dX11_readAct_158 (fun v349 e349 h349 => ?_)
                rw [show v349 = v256 from Option.some.inj (e349.symm.trans (((kr_p eσ348).trans ((kr_c p345_0 (by decide)).trans ((kr_p eσ257).trans e256)))))]
                refine lv_iload_n hx hb dX11_readAct_161 rfl (lv_at hl 2 rfl) ?_
                refine lv_iconst (v := 2) hx hb dX11_readAct_162 (by decide) ?_
                refine lv_iadd hx hb dX11_readAct_163 ?_
                refine lv_topi (fun v350 e350 => ?_)
                have i350 : Iv v350 2 318 := iv_add e350 ia1 (⟨by decide, by decide⟩ : Iv 2 2 2) (by decide)
                have x350 : v350.toInt = a1.toInt + 2 := ex_add e350 ia1 (⟨by decide, by decide⟩ : Iv 2 2 2) (by decide)
                refine lv_aload_n hx hb dX11_readAct_164 rfl (lv_at hl 1 rfl) ?_
                refine lv_bipush (v := 48) hx hb dX11_readAct_165 (by decide) ?_
                refine lv_bipush (v := 10) hx hb dX11_readAct_167 (by decide) ?_
                have z351 : (σ348.1 662 a0).toInt = ((σ344.1 662 a0) : Int32).toInt := congrArg Int32.toInt (show σ348.1 662 a0 = (σ344.1 662 a0) from ((kp_p eσ348).trans rfl))
                have z352 : (σ348.1 660 a0).toInt = ((σ.1 660 a0) : Int32).toInt := congrArg Int32.toInt (show σ348.1 660 a0 = (σ.1 660 a0) from ((kp_p eσ348).trans ((kp_c p345_0 (by decide)).trans ((kp_p eσ257).trans ((kp_i eσ255 (by decide)).trans ((kp_c p250_0 (by decide)).trans rfl))))))
                have z353 : (σ348.1 663 a0).toInt = ((σ344.1 663 a0) : Int32).toInt := congrArg Int32.toInt (show σ348.1 663 a0 = (σ344.1 663 a0) from ((kp_p eσ348).trans rfl))
                have z354 : (σ348.1 661 a0).toInt = ((σ.1 661 a0) : Int32).toInt := congrArg Int32.toInt (show σ348.1 661 a0 = (σ.1 661 a0) from ((kp_p eσ348).trans ((kp_c p345_0 (by decide)).trans ((kp_p eσ257).trans ((kp_i eσ255 (by decide)).trans ((kp_c p250_0 (by decide)).trans rfl))))))
                refine o_ci hw (oRunV cx hA hw q_X11_oneOf k_m_X11_171 rfl ha0 (by decide) (As := [.int 48, .int 10]) (c_X11_oneOfT a0 ha0 48 (iv_w (⟨by decide, by decide⟩ : Iv 48 48 48) (by decide)) 10 (iv_w (⟨by decide, by decide⟩ : Iv 10 10 10) (by decide)) b0 (((kr_p eσ348).trans ((kr_c p345_0 (by decide)).trans ((kr_p eσ257).trans ((kr_i eσ255).trans ((kr_c p250_0 (by decide)).trans hF0)))))) hb0 (kn_iv (((kp_p eσ348).trans ((kp_c p345_0 (by decide)).trans ((kp_p eσ257).trans ((kp_i eσ255 (by decide)).trans ((kp_c p250_0 (by decide)).trans rfl)))))) (iv_w hf660 (by decide)))) (by decide) rfl hl.1 rfl (Nat.le_of_ble_eq_true rfl) dX11_readAct_169 (by decide)) (fun v356 σ355 H locs hp hw => ?_)
                obtain ⟨p356_0, p356_1, p356_2, p356_3, p356_4, p356_5⟩ := hp
                have fr := oFr_tr fr p356_0 (by decide)
                have i357 : Iv (σ355.1 662 a0) 0 200 := o_fb (j := 662) hw ha0 rfl
                have i358 : Iv (σ355.1 663 a0) (-1) 200 := o_fb (j := 663) hw ha0 rfl
                have i359 : Iv v356 0 9 := iv_lt0 p356_2 (⟨by decide, by decide⟩ : Iv 10 10 10) (by decide)
                refine o_iast cx hw h256 (by decide) rfl (iv_in i350 (by decide)) trivial dX11_readAct_172 (fun σ360 H locs eσ360 hw => ?_)
                have fr := oFr_p fr eσ360 h256 (by decide)
                rw [← hQ]
                exact o_rv cx rx hw dX11_readAct_173 ⟨fr, (by exact (by have := (ia1).1; have := (ia1).2; have := (i337).1; have := (i337).2; have := (hf660).1; have := (hf660).2; have := (i1).1; have := (i1).2; have := (i357).1; have := (i357).2; have := (i358).1; have := (i358).2; have := (hf662).1; have := (hf662).2; have := (i248).1; have := (i248).2; have := (i252).1; have := (i252).2; have := (i254).1; have := (i254).2; have := (i339).1; have := (i339).2; have := (i346).1; have := (i346).2; have := (i347).1; have := (i347).2; have := (p345_1).1; have := (p345_1).2; have := (i350).1; have := (i350).2; have := (i359).1; have := (i359).2; have : (σ360.1 660 a0).toInt = ((σ.1 660 a0) : Int32).toInt := congrArg Int32.toInt (show σ360.1 660 a0 = (σ.1 660 a0) from ((kp_p eσ360).trans ((kp_c p356_0 (by decide)).trans ((kp_p eσ348).trans ((kp_c p345_0 (by decide)).trans ((kp_p eσ257).trans ((kp_i eσ255 (by decide)).trans ((kp_c p250_0 (by decide)).trans rfl)))))))); have : (σ360.1 661 a0).toInt = ((σ.1 661 a0) : Int32).toInt := congrArg Int32.toInt (show σ360.1 661 a0 = (σ.1 661 a0) from ((kp_p eσ360).trans ((kp_c p356_0 (by decide)).trans ((kp_p eσ348).trans ((kp_c p345_0 (by decide)).trans ((kp_p eσ257).trans ((kp_i eσ255 (by decide)).trans ((kp_c p250_0 (by decide)).trans rfl)))))))); have : (σ360.1 662 a0).toInt = ((σ355.1 662 a0) : Int32).toInt := congrArg Int32.toInt (show σ360.1 662 a0 = (σ355.1 662 a0) from ((kp_p eσ360).trans rfl)); have : (σ360.1 663 a0).toInt = ((σ355.1 663 a0) : Int32).toInt := congrArg Int32.toInt (show σ360.1 663 a0 = (σ355.1 663 a0) from ((kp_p eσ360).trans rfl)); have : (v3 : Int32).toInt ≠ (104 : Int32).toInt := fun q => c4 (Int32.toInt_inj.mp q); have : (v3 : Int32).toInt ≠ (115 : Int32).toInt := fun q => c55 (Int32.toInt_inj.mp q); have : (v3 : Int32).toInt ≠ (116 : Int32).toInt := fun q => c103 (Int32.toInt_inj.mp q); have : (v3 : Int32).toInt ≠ (111 : Int32).toInt := fun q => c151 (Int32.toInt_inj.mp q); have : (v3 : Int32).toInt ≠ (99 : Int32).toInt := fun q => c175 (Int32.toInt_inj.mp q); have : (v3 : Int32).toInt ≠ (100 : Int32).toInt := fun q => c199 (Int32.toInt_inj.mp q); have : (10 : Int32).toInt = 10 := (by decide); have : (100 : Int32).toInt = 100 := (by decide); have : (104 : Int32).toInt = 104 := (by decide); have : (111 : Int32).toInt = 111 := (by decide); have : (115 : Int32).toInt = 115 := (by decide); have : (116 : Int32).toInt = 116 := (by decide); have : (48 : Int32).toInt = 48 := (by decide); have : (99 : Int32).toInt = 99 := (by decide); omega))⟩
              have q258 := iv_nt q258 (k := 100) (by decide)
              have q283 := iv_nt q283 (k := 104) (by decide)
              have q311 := iv_nt q311 (k := 115) (by decide)
              have q336 := iv_nt q336 (k := 116) (by decide)
              refine lv_lookup (off := 136) (tgt := 203) hx hb dX11_readAct_67 (by decide) (by simp [Op.lookupswitch.offset, q258, Ne.symm q258, q283, Ne.symm q283, q311, Ne.symm q311, q336, Ne.symm q336]) (by decide) ?_
              refine lv_aload_n hx hb dX11_readAct_203 rfl (lv_at hl 1 rfl) ?_
              refine g_674 cx hw ha0 k_f_X11_61 dX11_readAct_204 (fun v361 e361 h361 => ?_)
              rw [show v361 = v256 from Option.some.inj (e361.symm.trans (((kr_p eσ257).trans e256)))]
              refine lv_iload_n hx hb dX11_readAct_207 rfl (lv_at hl 2 rfl) ?_
              refine lv_iconst (v := 1) hx hb dX11_readAct_208 (by decide) ?_
              refine lv_iadd hx hb dX11_readAct_209 ?_
              refine lv_topi (fun v362 e362 => ?_)
              have i362 : Iv v362 1 317 := iv_add e362 ia1 (⟨by decide, by decide⟩ : Iv 1 1 1) (by decide)
              have x362 : v362.toInt = a1.toInt + 1 := ex_add e362 ia1 (⟨by decide, by decide⟩ : Iv 1 1 1) (by decide)
              refine lv_aload_n hx hb dX11_readAct_210 rfl (lv_at hl 1 rfl) ?_
              refine lv_bipush (v := 48) hx hb dX11_readAct_211 (by decide) ?_
              refine lv_bipush (v := 10) hx hb dX11_readAct_213 (by decide) ?_
              have z363 : (σ257.1 662 a0).toInt = (v254 : Int32).toInt := congrArg Int32.toInt (show σ257.1 662 a0 = v254 from ((kp_p eσ257).trans (kp_s eσ255)))
              have z364 : (σ257.1 660 a0).toInt = ((σ.1 660 a0) : Int32).toInt := congrArg Int32.toInt (show σ257.1 660 a0 = (σ.1 660 a0) from ((kp_p eσ257).trans ((kp_i eσ255 (by decide)).trans ((kp_c p250_0 (by decide)).trans rfl))))
              have z365 : (σ257.1 663 a0).toInt = ((σ249.1 663 a0) : Int32).toInt := congrArg Int32.toInt (show σ257.1 663 a0 = (σ249.1 663 a0) from ((kp_p eσ257).trans ((kp_i eσ255 (by decide)).trans rfl)))
              have z366 : (σ257.1 661 a0).toInt = ((σ.1 661 a0) : Int32).toInt := congrArg Int32.toInt (show σ257.1 661 a0 = (σ.1 661 a0) from ((kp_p eσ257).trans ((kp_i eσ255 (by decide)).trans ((kp_c p250_0 (by decide)).trans rfl))))
              refine o_ci hw (oRunV cx hA hw q_X11_oneOf k_m_X11_171 rfl ha0 (by decide) (As := [.int 48, .int 10]) (c_X11_oneOfT a0 ha0 48 (iv_w (⟨by decide, by decide⟩ : Iv 48 48 48) (by decide)) 10 (iv_w (⟨by decide, by decide⟩ : Iv 10 10 10) (by decide)) b0 (((kr_p eσ257).trans ((kr_i eσ255).trans ((kr_c p250_0 (by decide)).trans hF0)))) hb0 (kn_iv (((kp_p eσ257).trans ((kp_i eσ255 (by decide)).trans ((kp_c p250_0 (by decide)).trans rfl)))) (iv_w hf660 (by decide)))) (by decide) rfl hl.1 rfl (Nat.le_of_ble_eq_true rfl) dX11_readAct_215 (by decide)) (fun v368 σ367 H locs hp hw => ?_)
              obtain ⟨p368_0, p368_1, p368_2, p368_3, p368_4, p368_5⟩ := hp
              have fr := oFr_tr fr p368_0 (by decide)
              have i369 : Iv (σ367.1 662 a0) 0 200 := o_fb (j := 662) hw ha0 rfl
              have i370 : Iv (σ367.1 663 a0) (-1) 200 := o_fb (j := 663) hw ha0 rfl
              have i371 : Iv v368 0 9 := iv_lt0 p368_2 (⟨by decide, by decide⟩ : Iv 10 10 10) (by decide)
              refine o_iast cx hw h256 (by decide) rfl (iv_in i362 (by decide)) trivial dX11_readAct_218 (fun σ372 H locs eσ372 hw => ?_)
              have fr := oFr_p fr eσ372 h256 (by decide)
              rw [← hQ]
              exact o_rv cx rx hw dX11_readAct_219 ⟨fr, (by exact (by have := (ia1).1; have := (ia1).2; have := (p3_1).1; have := (p3_1).2; have := (hf660).1; have := (hf660).2; have := (i1).1; have := (i1).2; have := (i369).1; have := (i369).2; have := (i370).1; have := (i370).2; have := (hf662).1; have := (hf662).2; have := (i248).1; have := (i248).2; have := (i252).1; have := (i252).2; have := (i254).1; have := (i254).2; have := (i362).1; have := (i362).2; have := (i371).1; have := (i371).2; have : (σ372.1 660 a0).toInt = ((σ.1 660 a0) : Int32).toInt := congrArg Int32.toInt (show σ372.1 660 a0 = (σ.1 660 a0) from ((kp_p eσ372).trans ((kp_c p368_0 (by decide)).trans ((kp_p eσ257).trans ((kp_i eσ255 (by decide)).trans ((kp_c p250_0 (by decide)).trans rfl)))))); have : (σ372.1 661 a0).toInt = ((σ.1 661 a0) : Int32).toInt := congrArg Int32.toInt (show σ372.1 661 a0 = (σ.1 661 a0) from ((kp_p eσ372).trans ((kp_c p368_0 (by decide)).trans ((kp_p eσ257).trans ((kp_i eσ255 (by decide)).trans ((kp_c p250_0 (by decide)).trans rfl)))))); have : (σ372.1 662 a0).toInt = ((σ367.1 662 a0) : Int32).toInt := congrArg Int32.toInt (show σ372.1 662 a0 = (σ367.1 662 a0) from ((kp_p eσ372).trans rfl)); have : (σ372.1 663 a0).toInt = ((σ367.1 663 a0) : Int32).toInt := congrArg Int32.toInt (show σ372.1 663 a0 = (σ367.1 663 a0) from ((kp_p eσ372).trans rfl)); have : (v3 : Int32).toInt ≠ (104 : Int32).toInt := fun q => c4 (Int32.toInt_inj.mp q); have : (v3 : Int32).toInt ≠ (115 : Int32).toInt := fun q => c55 (Int32.toInt_inj.mp q); have : (v3 : Int32).toInt ≠ (116 : Int32).toInt := fun q => c103 (Int32.toInt_inj.mp q); have : (v3 : Int32).toInt ≠ (111 : Int32).toInt := fun q => c151 (Int32.toInt_inj.mp q); have : (v3 : Int32).toInt ≠ (99 : Int32).toInt := fun q => c175 (Int32.toInt_inj.mp q); have : (v3 : Int32).toInt ≠ (100 : Int32).toInt := fun q => c199 (Int32.toInt_inj.mp q); have : (10 : Int32).toInt = 10 := (by decide); have : (100 : Int32).toInt = 100 := (by decide); have : (104 : Int32).toInt = 104 := (by decide); have : (111 : Int32).toInt = 111 := (by decide); have : (115 : Int32).toInt = 115 := (by decide); have : (116 : Int32).toInt = 116 := (by decide); have : (48 : Int32).toInt = 48 := (by decide); have : (99 : Int32).toInt = 99 := (by decide); omega))⟩
end OM
