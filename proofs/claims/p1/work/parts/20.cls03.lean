section OM
variable {l : Launch} {A : Nat → Prop} {L : List Nat} {τ : Nat → Nat} {cy : Nat → ClassId} {D : va_G} {K : (Nat → Nat) × (Nat → Nat)} {σ : oSt}
abbrev fs_X5_learn : List Nat := [257, 259, 261, 263, 264, 265, 386, 387]
abbrev ts_X5_learn : List Nat := [37]
set_option maxHeartbeats 4000000 in
set_option maxRecDepth 100000 in
theorem c_X5_learn (a0 : Nat) (ha0 : oA L τ a0 4) (a1 : Nat) (ha1 : oA L τ a1 6) : oMet l A L τ cy D K yX5_learn cX5_learn 4 (some .int) 6 151 [.ref a0, .ref a1] σ (va_Qi (fun r σ1 => oFr τ fs_X5_learn ts_X5_learn σ σ1 ∧ (r.toInt = raM (oRw σ 384 a1) (σ.1 385 a1).toInt)) (oPo A L τ cy D) A) := by
  refine oMk (by decide) (Nat.le_of_ble_eq_true rfl) rfl ?_
  intro p e s m args below meth c ls cx rx hA hw hl
  generalize hQ : MQ below _ args s 0 0 A = Q
  have hx := cx.1.1
  have hb := cx.1.2.1
  have hml := cx.1.2.2.1
  have hown := cx.1.2.2.2.1
  have hts := cx.1.2.2.2.2
  have hl : lv_has ls 4 [(0, .ref a0), (1, .ref a1)] := hl
  have fr : oFr τ fs_X5_learn ts_X5_learn σ σ := oFr_rf
  have iz385 : Iv (σ.1 385 a1) (0) 80 := o_fb (j := 385) hw ha1 rfl
  refine lv_aload_n hx hb dX5_learn_0 rfl (lv_at hl 1 rfl) ?_
  refine lv_bipush (v := 40) hx hb dX5_learn_1 (by decide) ?_
  refine o_cv hw (oRunV cx hA hw q_X7_begin k_m_X5_24 rfl ha1 (by decide) (As := [.int 40]) (c_X7_begin a1 ha1 40) (by decide) rfl hl.1 rfl (Nat.le_of_ble_eq_true rfl) dX5_learn_3 (by decide)) (fun σ1 H locs hp hw => ?_)
  obtain ⟨p2_0, p2_1⟩ := hp
  have fr := oFr_tr fr p2_0 (by decide)
  refine lv_aload_n hx hb dX5_learn_6 rfl (lv_at hl 0 rfl) ?_
  refine lv_iconst (v := 0) hx hb dX5_learn_7 (by decide) ?_
  refine p_259 cx hw ha0 (iv_w (⟨by decide, by decide⟩ : Iv 0 0 0) (by decide)) k_f_X5_30 dX5_learn_8 (fun σ3 H locs eσ3 hw => ?_)
  have fr := oFr_i fr eσ3 (by decide)
  refine lv_aload_n hx hb dX5_learn_11 rfl (lv_at hl 0 rfl) ?_
  refine lv_iconst (v := 0) hx hb dX5_learn_12 (by decide) ?_
  refine p_261 cx hw ha0 (iv_w (⟨by decide, by decide⟩ : Iv 0 0 0) (by decide)) k_f_X5_34 dX5_learn_13 (fun σ4 H locs eσ4 hw => ?_)
  have fr := oFr_i fr eσ4 (by decide)
  refine lv_aload_n hx hb dX5_learn_16 rfl (lv_at hl 0 rfl) ?_
  refine lv_iconst (v := 0) hx hb dX5_learn_17 (by decide) ?_
  refine p_263 cx hw ha0 (iv_w (⟨by decide, by decide⟩ : Iv 0 0 0) (by decide)) k_f_X5_37 dX5_learn_18 (fun σ5 H locs eσ5 hw => ?_)
  have fr := oFr_i fr eσ5 (by decide)
  refine lv_aload_n hx hb dX5_learn_21 rfl (lv_at hl 0 rfl) ?_
  refine lv_iconst (v := 0) hx hb dX5_learn_22 (by decide) ?_
  refine p_264 cx hw ha0 (iv_w (⟨by decide, by decide⟩ : Iv 0 0 0) (by decide)) k_f_X5_40 dX5_learn_23 (fun σ6 H locs eσ6 hw => ?_)
  have fr := oFr_i fr eσ6 (by decide)
  refine lv_aload_n hx hb dX5_learn_26 rfl (lv_at hl 0 rfl) ?_
  refine lv_iconst (v := 1) hx hb dX5_learn_27 (by decide) ?_
  refine p_265 cx hw ha0 (iv_w (⟨by decide, by decide⟩ : Iv 1 1 1) (by decide)) k_f_X5_43 dX5_learn_28 (fun σ7 H locs eσ7 hw => ?_)
  have fr := oFr_i fr eσ7 (by decide)
  refine lv_iconst (v := 0) hx hb dX5_learn_31 (by decide) ?_
  refine lv_istore_n (lv' := [(2, .int 0), (0, .ref a0), (1, .ref a1)]) hx hb dX5_learn_32 rfl hl (by decide) rfl (fun ls hl => ?_)
  have frE_33 := fr
  have J_33 : ∀ n33 : Nat, ∀ (j33_2 : Int32) (ij33_2 : Iv j33_2 0 41), ∀ (σ_33 : oSt) (H : Heap) (locs : List Loc), oI A L τ cy D s.heap σ_33 H locs → oFr τ fs_X5_learn ts_X5_learn σ σ_33 → Iv (σ_33.1 263 a0) 0 4 → Iv (σ_33.1 264 a0) 0 31 → Iv (σ_33.1 265 a0) 0 1 → Iv (σ_33.1 386 a1) (-2147483648) 2147483647 → Iv (σ_33.1 387 a1) (-2147483648) 2147483647 → (41 - j33_2.toInt).toNat < n33 → (rK (oRw σ 384 a1) (σ.1 385 a1).toInt (raM (oRw σ 384 a1) (σ.1 385 a1).toInt) (σ_33.1 386 a1).toInt (σ_33.1 265 a0).toInt (σ_33.1 264 a0) (σ_33.1 263 a0)) → ((j33_2 : Int32).toInt ≤ (σ_33.1 386 a1).toInt ∧ (σ_33.1 386 a1).toInt ≤ 40) → ((σ_33.1 387 a1).toInt = 40) → ∀ (ls : Array Slot), lv_has ls 4 [(0, .ref a0), (1, .ref a1), (2, .int j33_2)] → W p l e ({ frames := 6, cells := 0, slots := 0, locals := 151 } : Room) s m args below meth c H locs 0 0 Q (F0 m 33 ls []) := by
    intro n33
    induction n33 with
    | zero => intro j33_2 ij33_2 σ_33 H locs hw fr f33_263_a0 f33_264_a0 f33_265_a0 f33_386_a1 f33_387_a1  hn_33 gk q386_33 q387_33  ls hl; exact absurd hn_33 (Nat.not_lt_zero _)
    | succ n33 ih_33 =>
      intro j33_2 ij33_2 σ_33 H locs hw fr f33_263_a0 f33_264_a0 f33_265_a0 f33_386_a1 f33_387_a1  hn_33 gk q386_33 q387_33  ls hl
      have fr_33 := fr
      refine lv_iload_n hx hb dX5_learn_33 rfl (lv_at hl 2 rfl) ?_
      refine lv_bipush (v := 40) hx hb dX5_learn_34 (by decide) ?_
      refine lv_icmp_gt (tgt := 126) hx hb dX5_learn_36 (by decide) (fun c8 => ?_) (fun c8 => ?_)
      · --
        have i9 : Iv j33_2 41 41 := iv_lt2 c8 (⟨by decide, by decide⟩ : Iv 40 40 40) ij33_2 (by decide)
        refine lv_aload_n hx hb dX5_learn_126 rfl (lv_at hl 1 rfl) ?_
        refine o_ci hw (oRunV cx hA hw q_X7_fault k_m_X5_70 rfl ha1 (by decide) (As := []) (c_X7_fault a1 ha1) (by decide) rfl hl.1 rfl (Nat.le_of_ble_eq_true rfl) dX5_learn_127 (by decide)) (fun v11 σ10 H locs hp hw => ?_)
        obtain ⟨p11_0, p11_1⟩ := hp
        rw [p11_0] at hw
        rw [← hQ]
        exact o_ri cx rx hw dX5_learn_130 ⟨fr, (by exfalso; exact (by have := (i9).1; have := (i9).2; have := (iz385).1; have := (iz385).2; have := (f33_386_a1).1; have := (f33_386_a1).2; have := (f33_387_a1).1; have := (f33_387_a1).2; have := (f33_263_a0).1; have := (f33_263_a0).2; have := (f33_264_a0).1; have := (f33_264_a0).2; have := (f33_265_a0).1; have := (f33_265_a0).2; have : (σ_33.1 385 a1).toInt = ((σ.1 385 a1) : Int32).toInt := congrArg Int32.toInt (show σ_33.1 385 a1 = (σ.1 385 a1) from ((kp_c fr_33 (by decide)).trans ((kp_c frE_33 (by decide)).symm.trans (((kp_i eσ7 (by decide)).trans ((kp_i eσ6 (by decide)).trans ((kp_i eσ5 (by decide)).trans ((kp_i eσ4 (by decide)).trans ((kp_i eσ3 (by decide)).trans ((kp_c p2_0 (by decide)).trans rfl)))))))))); have : (40 : Int32).toInt < (j33_2 : Int32).toInt := iv_lt.mp c8; have : (40 : Int32).toInt = 40 := (by decide); omega))⟩
      · --
        have i12 : Iv j33_2 0 40 := iv_le1 (iv_nlt c8) ij33_2 (⟨by decide, by decide⟩ : Iv 40 40 40) (by decide)
        refine lv_aload_n hx hb dX5_learn_39 rfl (lv_at hl 0 rfl) ?_
        refine g_265 cx hw ha0 k_f_X5_43 dX5_learn_40 (fun v13 e13 i13 => ?_)
        rw [show v13 = (σ_33.1 265 a0) from e13.trans rfl]
        refine lv_if_ne (tgt := 90) hx hb dX5_learn_43 (by decide) (fun c14 => ?_) (fun c14 => ?_)
        · --
          have i15 : Iv (σ_33.1 265 a0) 1 1 := iv_ne1 c14 f33_265_a0 (⟨by decide, by decide⟩ : Iv 0 0 0) (by decide)
          refine lv_aload_n hx hb dX5_learn_90 rfl (lv_at hl 0 rfl) ?_
          refine g_265 cx hw ha0 k_f_X5_43 dX5_learn_91 (fun v16 e16 i16 => ?_)
          rw [show v16 = (σ_33.1 265 a0) from e16.trans rfl]
          refine lv_if_eq (tgt := 105) hx hb dX5_learn_94 (by decide) (fun c17 => ?_) (fun c17 => ?_)
          · --
            exact iv_no (iv_eq1 (lo := 1) (hi := 0) c17 i15 (⟨by decide, by decide⟩ : Iv 0 0 0) (by decide)) (by decide)
          · --
            refine lv_aload_n hx hb dX5_learn_97 rfl (lv_at hl 0 rfl) ?_
            have i18 : Iv (σ_33.1 386 a1) 0 40 := (by have := (i12).1; have := (i12).2; have := (iz385).1; have := (iz385).2; have := (f33_386_a1).1; have := (f33_386_a1).2; have := (f33_387_a1).1; have := (f33_387_a1).2; have := (f33_263_a0).1; have := (f33_263_a0).2; have := (f33_264_a0).1; have := (f33_264_a0).2; have := (i15).1; have := (i15).2; have : (σ_33.1 385 a1).toInt = ((σ.1 385 a1) : Int32).toInt := congrArg Int32.toInt (show σ_33.1 385 a1 = (σ.1 385 a1) from ((kp_c fr_33 (by decide)).trans ((kp_c frE_33 (by decide)).symm.trans (((kp_i eσ7 (by decide)).trans ((kp_i eσ6 (by decide)).trans ((kp_i eσ5 (by decide)).trans ((kp_i eσ4 (by decide)).trans ((kp_i eσ3 (by decide)).trans ((kp_c p2_0 (by decide)).trans rfl)))))))))); have : (j33_2 : Int32).toInt ≤ (40 : Int32).toInt := iv_le.mp (iv_nlt c8); have : (40 : Int32).toInt = 40 := (by decide); exact ⟨by omega, by omega⟩)
            have i19 : Iv (σ_33.1 387 a1) 40 40 := (by have := (i12).1; have := (i12).2; have := (iz385).1; have := (iz385).2; have := (i18).1; have := (i18).2; have := (f33_387_a1).1; have := (f33_387_a1).2; have := (f33_263_a0).1; have := (f33_263_a0).2; have := (f33_264_a0).1; have := (f33_264_a0).2; have := (i15).1; have := (i15).2; have : (σ_33.1 385 a1).toInt = ((σ.1 385 a1) : Int32).toInt := congrArg Int32.toInt (show σ_33.1 385 a1 = (σ.1 385 a1) from ((kp_c fr_33 (by decide)).trans ((kp_c frE_33 (by decide)).symm.trans (((kp_i eσ7 (by decide)).trans ((kp_i eσ6 (by decide)).trans ((kp_i eσ5 (by decide)).trans ((kp_i eσ4 (by decide)).trans ((kp_i eσ3 (by decide)).trans ((kp_c p2_0 (by decide)).trans rfl)))))))))); have : (j33_2 : Int32).toInt ≤ (40 : Int32).toInt := iv_le.mp (iv_nlt c8); have : (40 : Int32).toInt = 40 := (by decide); exact ⟨by omega, by omega⟩)
            refine lv_aload_n hx hb dX5_learn_98 rfl (lv_at hl 1 rfl) ?_
            have z20 : (σ_33.1 385 a1).toInt = ((σ.1 385 a1) : Int32).toInt := congrArg Int32.toInt (show σ_33.1 385 a1 = (σ.1 385 a1) from ((kp_c fr_33 (by decide)).trans ((kp_c frE_33 (by decide)).symm.trans (((kp_i eσ7 (by decide)).trans ((kp_i eσ6 (by decide)).trans ((kp_i eσ5 (by decide)).trans ((kp_i eσ4 (by decide)).trans ((kp_i eσ3 (by decide)).trans ((kp_c p2_0 (by decide)).trans rfl))))))))))
            have eT : oRw σ_33 384 a1 = oRw σ 384 a1 := oRw_fr hw ha1 rfl fr (by decide)
            have eN : (σ_33.1 385 a1).toInt = (σ.1 385 a1).toInt := congrArg Int32.toInt (kp_c fr (by decide))
            refine o_ci hw (oRunV cx hA hw q_X5_readThing k_m_X5_63 rfl ha0 (by decide) (As := [.ref a1]) (c_X5_readThing a0 ha0 a1 ha1 (kn_iv (rfl) (iv_w i15 (by decide))) (kn_iv (rfl) (iv_w i18 (by decide))) (kn_iv (rfl) (iv_w i19 (by decide)))) (by decide) rfl hl.1 rfl (Nat.le_of_ble_eq_true rfl) dX5_learn_99 (by decide)) (fun v22 σ21 H locs hp hw => ?_)
            obtain ⟨p22_0, p22_1, p22_2⟩ := hp
            have fr := oFr_tr fr p22_0 (by decide)
            have i23 : Iv (σ21.1 263 a0) 0 4 := o_fb (j := 263) hw ha0 rfl
            have i24 : Iv (σ21.1 264 a0) 0 31 := o_fb (j := 264) hw ha0 rfl
            have i25 : Iv (σ21.1 265 a0) 0 1 := o_fb (j := 265) hw ha0 rfl
            refine lv_goto (tgt := 110) hx hb dX5_learn_102 (by decide) ?_
            refine lv_istore_n (lv' := [(3, .int v22), (0, .ref a0), (1, .ref a1), (2, .int j33_2)]) hx hb dX5_learn_110 rfl hl (by decide) rfl (fun ls hl => ?_)
            have rd9 := p22_2 (raM (oRw σ 384 a1) (σ.1 385 a1).toInt) (by rw [eT, eN]; exact rK_eq gk rfl rfl (by have := (i12).1; have := (i12).2; have := (p22_1).1; have := (p22_1).2; have := (iz385).1; have := (iz385).2; have := (i19).1; have := (i19).2; have := (i23).1; have := (i23).2; have := (i24).1; have := (i24).2; have := (i25).1; have := (i25).2; have := (i15).1; have := (i15).2; have := (i18).1; have := (i18).2; have : (σ21.1 385 a1).toInt = ((σ.1 385 a1) : Int32).toInt := congrArg Int32.toInt (show σ21.1 385 a1 = (σ.1 385 a1) from ((kp_c p22_0 (by decide)).trans ((kp_c fr_33 (by decide)).trans ((kp_c frE_33 (by decide)).symm.trans (((kp_i eσ7 (by decide)).trans ((kp_i eσ6 (by decide)).trans ((kp_i eσ5 (by decide)).trans ((kp_i eσ4 (by decide)).trans ((kp_i eσ3 (by decide)).trans ((kp_c p2_0 (by decide)).trans rfl))))))))))); have : (σ21.1 387 a1).toInt = ((σ_33.1 387 a1) : Int32).toInt := congrArg Int32.toInt (show σ21.1 387 a1 = (σ_33.1 387 a1) from ((kp_c p22_0 (by decide)).trans rfl)); have : (j33_2 : Int32).toInt ≤ (40 : Int32).toInt := iv_le.mp (iv_nlt c8); have : (40 : Int32).toInt = 40 := (by decide); omega))
            rw [eT, eN] at rd9
            refine lv_iload_n hx hb dX5_learn_111 rfl (lv_at hl 0 rfl) ?_
            refine lv_if_ne (tgt := 120) hx hb dX5_learn_112 (by decide) (fun c26 => ?_) (fun c26 => ?_)
            · --
              have i27 : Iv v22 1 1 := iv_ne1 c26 p22_1 (⟨by decide, by decide⟩ : Iv 0 0 0) (by decide)
              have kn9 : rK (oRw σ 384 a1) (σ.1 385 a1).toInt (raM (oRw σ 384 a1) (σ.1 385 a1).toInt) (σ21.1 386 a1).toInt (σ21.1 265 a0).toInt (σ21.1 264 a0) (σ21.1 263 a0) := by rcases rd9 with ⟨-, -, q3⟩ | ⟨q1, -⟩; exact q3; exact absurd q1 (by have := (i12).1; have := (i12).2; have := (i27).1; have := (i27).2; have := (iz385).1; have := (iz385).2; have := (i19).1; have := (i19).2; have := (i23).1; have := (i23).2; have := (i24).1; have := (i24).2; have := (i25).1; have := (i25).2; have := (i15).1; have := (i15).2; have := (i18).1; have := (i18).2; have : (σ21.1 385 a1).toInt = ((σ.1 385 a1) : Int32).toInt := congrArg Int32.toInt (show σ21.1 385 a1 = (σ.1 385 a1) from ((kp_c p22_0 (by decide)).trans ((kp_c fr_33 (by decide)).trans ((kp_c frE_33 (by decide)).symm.trans (((kp_i eσ7 (by decide)).trans ((kp_i eσ6 (by decide)).trans ((kp_i eσ5 (by decide)).trans ((kp_i eσ4 (by decide)).trans ((kp_i eσ3 (by decide)).trans ((kp_c p2_0 (by decide)).trans rfl))))))))))); have : (σ21.1 387 a1).toInt = ((σ_33.1 387 a1) : Int32).toInt := congrArg Int32.toInt (show σ21.1 387 a1 = (σ_33.1 387 a1) from ((kp_c p22_0 (by decide)).trans rfl)); have : (j33_2 : Int32).toInt ≤ (40 : Int32).toInt := iv_le.mp (iv_nlt c8); have : (40 : Int32).toInt = 40 := (by decide); omega)
              have kp9 : True := trivial
              obtain ⟨v28, e28⟩ : ∃ y : Int32, y = j33_2 + 1 := ⟨_, rfl⟩
              have i28 : Iv v28 1 41 := iv_add e28 i12 (⟨by decide, by decide⟩ : Iv 1 1 1) (by decide)
              have x28 : v28.toInt = j33_2.toInt + 1 := ex_add e28 i12 (⟨by decide, by decide⟩ : Iv 1 1 1) (by decide)
              refine lv_iinc (v := v28) (lv' := [(2, .int v28), (3, .int v22), (0, .ref a0), (1, .ref a1)]) hx hb dX5_learn_120 hl (k := 3) rfl (by rw [e28]; rfl) (by decide) rfl (fun ls hl => ?_)
              refine lv_goto (tgt := 33) hx hb dX5_learn_123 (by decide) ?_
              exact ih_33 v28 (iv_w i28 (by decide)) σ21 _ _ hw fr (kn_iv (rfl) (iv_w i23 (by decide))) (kn_iv (rfl) (iv_w i24 (by decide))) (kn_iv (rfl) (iv_w i25 (by decide))) (kn_iv (rfl) (iv_w (iv_top (σ21.1 386 a1)) (by decide))) (kn_iv (((kp_c p22_0 (by decide)).trans rfl)) (iv_w i19 (by decide))) (ms_up x28 (by decide) (iv_w (a' := 0) (b' := 41) i28 (by decide)).2 hn_33) kn9 (by have := (i27).1; have := (i27).2; have := (i28).1; have := (i28).2; have := (iz385).1; have := (iz385).2; have := (i19).1; have := (i19).2; have := (i23).1; have := (i23).2; have := (i24).1; have := (i24).2; have := (i25).1; have := (i25).2; have := (i12).1; have := (i12).2; have := (i15).1; have := (i15).2; have := (i18).1; have := (i18).2; have : (σ21.1 385 a1).toInt = ((σ.1 385 a1) : Int32).toInt := congrArg Int32.toInt (show σ21.1 385 a1 = (σ.1 385 a1) from ((kp_c p22_0 (by decide)).trans ((kp_c fr_33 (by decide)).trans ((kp_c frE_33 (by decide)).symm.trans (((kp_i eσ7 (by decide)).trans ((kp_i eσ6 (by decide)).trans ((kp_i eσ5 (by decide)).trans ((kp_i eσ4 (by decide)).trans ((kp_i eσ3 (by decide)).trans ((kp_c p2_0 (by decide)).trans rfl))))))))))); have : (σ21.1 387 a1).toInt = ((σ_33.1 387 a1) : Int32).toInt := congrArg Int32.toInt (show σ21.1 387 a1 = (σ_33.1 387 a1) from ((kp_c p22_0 (by decide)).trans rfl)); have : (j33_2 : Int32).toInt ≤ (40 : Int32).toInt := iv_le.mp (iv_nlt c8); have : (40 : Int32).toInt = 40 := (by decide); omega) (by have := (i27).1; have := (i27).2; have := (i28).1; have := (i28).2; have := (iz385).1; have := (iz385).2; have := (i19).1; have := (i19).2; have := (i23).1; have := (i23).2; have := (i24).1; have := (i24).2; have := (i25).1; have := (i25).2; have := (i12).1; have := (i12).2; have := (i15).1; have := (i15).2; have := (i18).1; have := (i18).2; have : (σ21.1 385 a1).toInt = ((σ.1 385 a1) : Int32).toInt := congrArg Int32.toInt (show σ21.1 385 a1 = (σ.1 385 a1) from ((kp_c p22_0 (by decide)).trans ((kp_c fr_33 (by decide)).trans ((kp_c frE_33 (by decide)).symm.trans (((kp_i eσ7 (by decide)).trans ((kp_i eσ6 (by decide)).trans ((kp_i eσ5 (by decide)).trans ((kp_i eσ4 (by decide)).trans ((kp_i eσ3 (by decide)).trans ((kp_c p2_0 (by decide)).trans rfl))))))))))); have : (σ21.1 387 a1).toInt = ((σ_33.1 387 a1) : Int32).toInt := congrArg Int32.toInt (show σ21.1 387 a1 = (σ_33.1 387 a1) from ((kp_c p22_0 (by decide)).trans rfl)); have : (j33_2 : Int32).toInt ≤ (40 : Int32).toInt := iv_le.mp (iv_nlt c8); have : (40 : Int32).toInt = 40 := (by decide); omega) _ (lv_sub hl [2, 3, 0] rfl)
            · --
              have i29 : Iv v22 0 0 := iv_eq1 c26 p22_1 (⟨by decide, by decide⟩ : Iv 0 0 0) (by decide)
              refine lv_aload_n hx hb dX5_learn_115 rfl (lv_at hl 2 rfl) ?_
              refine o_ci hw (oRunV cx hA hw q_X7_fault k_m_X5_70 rfl ha1 (by decide) (As := []) (c_X7_fault a1 ha1) (by decide) rfl hl.1 rfl (Nat.le_of_ble_eq_true rfl) dX5_learn_116 (by decide)) (fun v31 σ30 H locs hp hw => ?_)
              obtain ⟨p31_0, p31_1⟩ := hp
              rw [p31_0] at hw
              rw [← hQ]
              exact o_ri cx rx hw dX5_learn_119 ⟨fr, (by rcases rd9 with ⟨q1, -, -⟩ | ⟨q1, q2⟩; exact absurd q1 (by have := (i12).1; have := (i12).2; have := (i29).1; have := (i29).2; have := (iz385).1; have := (iz385).2; have := (i19).1; have := (i19).2; have := (i23).1; have := (i23).2; have := (i24).1; have := (i24).2; have := (i25).1; have := (i25).2; have := (i15).1; have := (i15).2; have := (i18).1; have := (i18).2; have : (σ21.1 385 a1).toInt = ((σ.1 385 a1) : Int32).toInt := congrArg Int32.toInt (show σ21.1 385 a1 = (σ.1 385 a1) from ((kp_c p22_0 (by decide)).trans ((kp_c fr_33 (by decide)).trans ((kp_c frE_33 (by decide)).symm.trans (((kp_i eσ7 (by decide)).trans ((kp_i eσ6 (by decide)).trans ((kp_i eσ5 (by decide)).trans ((kp_i eσ4 (by decide)).trans ((kp_i eσ3 (by decide)).trans ((kp_c p2_0 (by decide)).trans rfl))))))))))); have : (σ21.1 387 a1).toInt = ((σ_33.1 387 a1) : Int32).toInt := congrArg Int32.toInt (show σ21.1 387 a1 = (σ_33.1 387 a1) from ((kp_c p22_0 (by decide)).trans rfl)); have : (j33_2 : Int32).toInt ≤ (40 : Int32).toInt := iv_le.mp (iv_nlt c8); have : (v22 : Int32).toInt = (0 : Int32).toInt := congrArg Int32.toInt c26; have : (0 : Int32).toInt = 0 := (by decide); have : (40 : Int32).toInt = 40 := (by decide); omega); rw [q2]; exact (by have := (i12).1; have := (i12).2; have := (i29).1; have := (i29).2; have := (iz385).1; have := (iz385).2; have := (i19).1; have := (i19).2; have := (i23).1; have := (i23).2; have := (i24).1; have := (i24).2; have := (i25).1; have := (i25).2; have := (i15).1; have := (i15).2; have := (i18).1; have := (i18).2; have : (σ21.1 385 a1).toInt = ((σ.1 385 a1) : Int32).toInt := congrArg Int32.toInt (show σ21.1 385 a1 = (σ.1 385 a1) from ((kp_c p22_0 (by decide)).trans ((kp_c fr_33 (by decide)).trans ((kp_c frE_33 (by decide)).symm.trans (((kp_i eσ7 (by decide)).trans ((kp_i eσ6 (by decide)).trans ((kp_i eσ5 (by decide)).trans ((kp_i eσ4 (by decide)).trans ((kp_i eσ3 (by decide)).trans ((kp_c p2_0 (by decide)).trans rfl))))))))))); have : (σ21.1 387 a1).toInt = ((σ_33.1 387 a1) : Int32).toInt := congrArg Int32.toInt (show σ21.1 387 a1 = (σ_33.1 387 a1) from ((kp_c p22_0 (by decide)).trans rfl)); have : (j33_2 : Int32).toInt ≤ (40 : Int32).toInt := iv_le.mp (iv_nlt c8); have : (v22 : Int32).toInt = (0 : Int32).toInt := congrArg Int32.toInt c26; have : (0 : Int32).toInt = 0 := (by decide); have : (40 : Int32).toInt = 40 := (by decide); omega))⟩
        · --
          have i32 : Iv (σ_33.1 265 a0) 0 0 := iv_eq1 c14 f33_265_a0 (⟨by decide, by decide⟩ : Iv 0 0 0) (by decide)
          refine lv_aload_n hx hb dX5_learn_46 rfl (lv_at hl 0 rfl) ?_
          refine g_263 cx hw ha0 k_f_X5_37 dX5_learn_47 (fun v33 e33 i33 => ?_)
          rw [show v33 = (σ_33.1 263 a0) from e33.trans rfl]
          refine lv_if_ne (tgt := 90) hx hb dX5_learn_50 (by decide) (fun c34 => ?_) (fun c34 => ?_)
          · --
            have i35 : Iv (σ_33.1 263 a0) 1 4 := iv_ne1 c34 f33_263_a0 (⟨by decide, by decide⟩ : Iv 0 0 0) (by decide)
            refine lv_aload_n hx hb dX5_learn_90 rfl (lv_at hl 0 rfl) ?_
            refine g_265 cx hw ha0 k_f_X5_43 dX5_learn_91 (fun v36 e36 i36 => ?_)
            rw [show v36 = (σ_33.1 265 a0) from e36.trans rfl]
            refine lv_if_eq (tgt := 105) hx hb dX5_learn_94 (by decide) (fun c37 => ?_) (fun c37 => ?_)
            · --
              refine lv_aload_n hx hb dX5_learn_105 rfl (lv_at hl 0 rfl) ?_
              have i38 : Iv (σ_33.1 386 a1) 0 40 := (by have := (i12).1; have := (i12).2; have := (iz385).1; have := (iz385).2; have := (f33_386_a1).1; have := (f33_386_a1).2; have := (f33_387_a1).1; have := (f33_387_a1).2; have := (i35).1; have := (i35).2; have := (f33_264_a0).1; have := (f33_264_a0).2; have := (i32).1; have := (i32).2; have : (σ_33.1 385 a1).toInt = ((σ.1 385 a1) : Int32).toInt := congrArg Int32.toInt (show σ_33.1 385 a1 = (σ.1 385 a1) from ((kp_c fr_33 (by decide)).trans ((kp_c frE_33 (by decide)).symm.trans (((kp_i eσ7 (by decide)).trans ((kp_i eσ6 (by decide)).trans ((kp_i eσ5 (by decide)).trans ((kp_i eσ4 (by decide)).trans ((kp_i eσ3 (by decide)).trans ((kp_c p2_0 (by decide)).trans rfl)))))))))); have : (j33_2 : Int32).toInt ≤ (40 : Int32).toInt := iv_le.mp (iv_nlt c8); have : ((σ_33.1 265 a0) : Int32).toInt = (0 : Int32).toInt := congrArg Int32.toInt c14; have : ((σ_33.1 265 a0) : Int32).toInt = (0 : Int32).toInt := congrArg Int32.toInt c37; have : (0 : Int32).toInt = 0 := (by decide); have : (40 : Int32).toInt = 40 := (by decide); exact ⟨by omega, by omega⟩)
              have i39 : Iv (σ_33.1 387 a1) 40 40 := (by have := (i12).1; have := (i12).2; have := (iz385).1; have := (iz385).2; have := (i38).1; have := (i38).2; have := (f33_387_a1).1; have := (f33_387_a1).2; have := (i35).1; have := (i35).2; have := (f33_264_a0).1; have := (f33_264_a0).2; have := (i32).1; have := (i32).2; have : (σ_33.1 385 a1).toInt = ((σ.1 385 a1) : Int32).toInt := congrArg Int32.toInt (show σ_33.1 385 a1 = (σ.1 385 a1) from ((kp_c fr_33 (by decide)).trans ((kp_c frE_33 (by decide)).symm.trans (((kp_i eσ7 (by decide)).trans ((kp_i eσ6 (by decide)).trans ((kp_i eσ5 (by decide)).trans ((kp_i eσ4 (by decide)).trans ((kp_i eσ3 (by decide)).trans ((kp_c p2_0 (by decide)).trans rfl)))))))))); have : (j33_2 : Int32).toInt ≤ (40 : Int32).toInt := iv_le.mp (iv_nlt c8); have : ((σ_33.1 265 a0) : Int32).toInt = (0 : Int32).toInt := congrArg Int32.toInt c14; have : ((σ_33.1 265 a0) : Int32).toInt = (0 : Int32).toInt := congrArg Int32.toInt c37; have : (0 : Int32).toInt = 0 := (by decide); have : (40 : Int32).toInt = 40 := (by decide); exact ⟨by omega, by omega⟩)
              refine lv_aload_n hx hb dX5_learn_106 rfl (lv_at hl 1 rfl) ?_
              have z40 : (σ_33.1 385 a1).toInt = ((σ.1 385 a1) : Int32).toInt := congrArg Int32.toInt (show σ_33.1 385 a1 = (σ.1 385 a1) from ((kp_c fr_33 (by decide)).trans ((kp_c frE_33 (by decide)).symm.trans (((kp_i eσ7 (by decide)).trans ((kp_i eσ6 (by decide)).trans ((kp_i eσ5 (by decide)).trans ((kp_i eσ4 (by decide)).trans ((kp_i eσ3 (by decide)).trans ((kp_c p2_0 (by decide)).trans rfl))))))))))
              have eT : oRw σ_33 384 a1 = oRw σ 384 a1 := oRw_fr hw ha1 rfl fr (by decide)
              have eN : (σ_33.1 385 a1).toInt = (σ.1 385 a1).toInt := congrArg Int32.toInt (kp_c fr (by decide))
              refine o_ci hw (oRunV cx hA hw q_X5_readBinding k_m_X5_67 rfl ha0 (by decide) (As := [.ref a1]) (c_X5_readBinding a0 ha0 a1 ha1 (by rw [eT, eN]; exact (by have := (i12).1; have := (i12).2; have := (iz385).1; have := (iz385).2; have := (i38).1; have := (i38).2; have := (i39).1; have := (i39).2; have := (i35).1; have := (i35).2; have := (f33_264_a0).1; have := (f33_264_a0).2; have := (i32).1; have := (i32).2; have : (σ_33.1 385 a1).toInt = ((σ.1 385 a1) : Int32).toInt := congrArg Int32.toInt (show σ_33.1 385 a1 = (σ.1 385 a1) from ((kp_c fr_33 (by decide)).trans ((kp_c frE_33 (by decide)).symm.trans (((kp_i eσ7 (by decide)).trans ((kp_i eσ6 (by decide)).trans ((kp_i eσ5 (by decide)).trans ((kp_i eσ4 (by decide)).trans ((kp_i eσ3 (by decide)).trans ((kp_c p2_0 (by decide)).trans rfl)))))))))); have : (j33_2 : Int32).toInt ≤ (40 : Int32).toInt := iv_le.mp (iv_nlt c8); have : ((σ_33.1 265 a0) : Int32).toInt = (0 : Int32).toInt := congrArg Int32.toInt c14; have : ((σ_33.1 265 a0) : Int32).toInt = (0 : Int32).toInt := congrArg Int32.toInt c37; have : (0 : Int32).toInt = 0 := (by decide); have : (40 : Int32).toInt = 40 := (by decide); omega)) (kn_iv (rfl) (iv_w i32 (by decide))) (kn_iv (rfl) (iv_w i38 (by decide))) (kn_iv (rfl) (iv_w i39 (by decide)))) (by decide) rfl hl.1 rfl (Nat.le_of_ble_eq_true rfl) dX5_learn_107 (by decide)) (fun v42 σ41 H locs hp hw => ?_)
              obtain ⟨p42_0, p42_1, p42_2⟩ := hp
              have fr := oFr_tr fr p42_0 (by decide)
              have i43 : Iv (σ41.1 263 a0) 0 4 := o_fb (j := 263) hw ha0 rfl
              have i44 : Iv (σ41.1 264 a0) 0 31 := o_fb (j := 264) hw ha0 rfl
              have i45 : Iv (σ41.1 265 a0) 0 1 := o_fb (j := 265) hw ha0 rfl
              refine lv_istore_n (lv' := [(3, .int v42), (0, .ref a0), (1, .ref a1), (2, .int j33_2)]) hx hb dX5_learn_110 rfl hl (by decide) rfl (fun ls hl => ?_)
              have rd9 := p42_2 (raM (oRw σ 384 a1) (σ.1 385 a1).toInt) (by rw [eT, eN]; exact rK_eq gk rfl rfl (by have := (i12).1; have := (i12).2; have := (p42_1).1; have := (p42_1).2; have := (iz385).1; have := (iz385).2; have := (i39).1; have := (i39).2; have := (i43).1; have := (i43).2; have := (i44).1; have := (i44).2; have := (i45).1; have := (i45).2; have := (i32).1; have := (i32).2; have := (i35).1; have := (i35).2; have := (i38).1; have := (i38).2; have : (σ41.1 385 a1).toInt = ((σ.1 385 a1) : Int32).toInt := congrArg Int32.toInt (show σ41.1 385 a1 = (σ.1 385 a1) from ((kp_c p42_0 (by decide)).trans ((kp_c fr_33 (by decide)).trans ((kp_c frE_33 (by decide)).symm.trans (((kp_i eσ7 (by decide)).trans ((kp_i eσ6 (by decide)).trans ((kp_i eσ5 (by decide)).trans ((kp_i eσ4 (by decide)).trans ((kp_i eσ3 (by decide)).trans ((kp_c p2_0 (by decide)).trans rfl))))))))))); have : (σ41.1 387 a1).toInt = ((σ_33.1 387 a1) : Int32).toInt := congrArg Int32.toInt (show σ41.1 387 a1 = (σ_33.1 387 a1) from ((kp_c p42_0 (by decide)).trans rfl)); have : (j33_2 : Int32).toInt ≤ (40 : Int32).toInt := iv_le.mp (iv_nlt c8); have : ((σ_33.1 265 a0) : Int32).toInt = (0 : Int32).toInt := congrArg Int32.toInt c14; have : ((σ_33.1 265 a0) : Int32).toInt = (0 : Int32).toInt := congrArg Int32.toInt c37; have : (0 : Int32).toInt = 0 := (by decide); have : (40 : Int32).toInt = 40 := (by decide); omega))
              rw [eT, eN] at rd9
              refine lv_iload_n hx hb dX5_learn_111 rfl (lv_at hl 0 rfl) ?_
              refine lv_if_ne (tgt := 120) hx hb dX5_learn_112 (by decide) (fun c46 => ?_) (fun c46 => ?_)
              · --
                have i47 : Iv v42 1 1 := iv_ne1 c46 p42_1 (⟨by decide, by decide⟩ : Iv 0 0 0) (by decide)
                have kn9 : rK (oRw σ 384 a1) (σ.1 385 a1).toInt (raM (oRw σ 384 a1) (σ.1 385 a1).toInt) (σ41.1 386 a1).toInt (σ41.1 265 a0).toInt (σ41.1 264 a0) (σ41.1 263 a0) := by rcases rd9 with ⟨-, -, q3⟩ | ⟨q1, -⟩; exact q3; exact absurd q1 (by have := (i12).1; have := (i12).2; have := (i47).1; have := (i47).2; have := (iz385).1; have := (iz385).2; have := (i39).1; have := (i39).2; have := (i43).1; have := (i43).2; have := (i44).1; have := (i44).2; have := (i45).1; have := (i45).2; have := (i32).1; have := (i32).2; have := (i35).1; have := (i35).2; have := (i38).1; have := (i38).2; have : (σ41.1 385 a1).toInt = ((σ.1 385 a1) : Int32).toInt := congrArg Int32.toInt (show σ41.1 385 a1 = (σ.1 385 a1) from ((kp_c p42_0 (by decide)).trans ((kp_c fr_33 (by decide)).trans ((kp_c frE_33 (by decide)).symm.trans (((kp_i eσ7 (by decide)).trans ((kp_i eσ6 (by decide)).trans ((kp_i eσ5 (by decide)).trans ((kp_i eσ4 (by decide)).trans ((kp_i eσ3 (by decide)).trans ((kp_c p2_0 (by decide)).trans rfl))))))))))); have : (σ41.1 387 a1).toInt = ((σ_33.1 387 a1) : Int32).toInt := congrArg Int32.toInt (show σ41.1 387 a1 = (σ_33.1 387 a1) from ((kp_c p42_0 (by decide)).trans rfl)); have : (j33_2 : Int32).toInt ≤ (40 : Int32).toInt := iv_le.mp (iv_nlt c8); have : ((σ_33.1 265 a0) : Int32).toInt = (0 : Int32).toInt := congrArg Int32.toInt c14; have : ((σ_33.1 265 a0) : Int32).toInt = (0 : Int32).toInt := congrArg Int32.toInt c37; have : (0 : Int32).toInt = 0 := (by decide); have : (40 : Int32).toInt = 40 := (by decide); omega)
                have kp9 : True := trivial
                obtain ⟨v48, e48⟩ : ∃ y : Int32, y = j33_2 + 1 := ⟨_, rfl⟩
                have i48 : Iv v48 1 41 := iv_add e48 i12 (⟨by decide, by decide⟩ : Iv 1 1 1) (by decide)
                have x48 : v48.toInt = j33_2.toInt + 1 := ex_add e48 i12 (⟨by decide, by decide⟩ : Iv 1 1 1) (by decide)
                refine lv_iinc (v := v48) (lv' := [(2, .int v48), (3, .int v42), (0, .ref a0), (1, .ref a1)]) hx hb dX5_learn_120 hl (k := 3) rfl (by rw [e48]; rfl) (by decide) rfl (fun ls hl => ?_)
                refine lv_goto (tgt := 33) hx hb dX5_learn_123 (by decide) ?_
                exact ih_33 v48 (iv_w i48 (by decide)) σ41 _ _ hw fr (kn_iv (rfl) (iv_w i43 (by decide))) (kn_iv (rfl) (iv_w i44 (by decide))) (kn_iv (rfl) (iv_w i45 (by decide))) (kn_iv (rfl) (iv_w (iv_top (σ41.1 386 a1)) (by decide))) (kn_iv (((kp_c p42_0 (by decide)).trans rfl)) (iv_w i39 (by decide))) (ms_up x48 (by decide) (iv_w (a' := 0) (b' := 41) i48 (by decide)).2 hn_33) kn9 (by have := (i47).1; have := (i47).2; have := (i48).1; have := (i48).2; have := (iz385).1; have := (iz385).2; have := (i39).1; have := (i39).2; have := (i43).1; have := (i43).2; have := (i44).1; have := (i44).2; have := (i45).1; have := (i45).2; have := (i12).1; have := (i12).2; have := (i32).1; have := (i32).2; have := (i35).1; have := (i35).2; have := (i38).1; have := (i38).2; have : (σ41.1 385 a1).toInt = ((σ.1 385 a1) : Int32).toInt := congrArg Int32.toInt (show σ41.1 385 a1 = (σ.1 385 a1) from ((kp_c p42_0 (by decide)).trans ((kp_c fr_33 (by decide)).trans ((kp_c frE_33 (by decide)).symm.trans (((kp_i eσ7 (by decide)).trans ((kp_i eσ6 (by decide)).trans ((kp_i eσ5 (by decide)).trans ((kp_i eσ4 (by decide)).trans ((kp_i eσ3 (by decide)).trans ((kp_c p2_0 (by decide)).trans rfl))))))))))); have : (σ41.1 387 a1).toInt = ((σ_33.1 387 a1) : Int32).toInt := congrArg Int32.toInt (show σ41.1 387 a1 = (σ_33.1 387 a1) from ((kp_c p42_0 (by decide)).trans rfl)); have : (j33_2 : Int32).toInt ≤ (40 : Int32).toInt := iv_le.mp (iv_nlt c8); have : ((σ_33.1 265 a0) : Int32).toInt = (0 : Int32).toInt := congrArg Int32.toInt c14; have : ((σ_33.1 265 a0) : Int32).toInt = (0 : Int32).toInt := congrArg Int32.toInt c37; have : (0 : Int32).toInt = 0 := (by decide); have : (40 : Int32).toInt = 40 := (by decide); omega) (by have := (i47).1; have := (i47).2; have := (i48).1; have := (i48).2; have := (iz385).1; have := (iz385).2; have := (i39).1; have := (i39).2; have := (i43).1; have := (i43).2; have := (i44).1; have := (i44).2; have := (i45).1; have := (i45).2; have := (i12).1; have := (i12).2; have := (i32).1; have := (i32).2; have := (i35).1; have := (i35).2; have := (i38).1; have := (i38).2; have : (σ41.1 385 a1).toInt = ((σ.1 385 a1) : Int32).toInt := congrArg Int32.toInt (show σ41.1 385 a1 = (σ.1 385 a1) from ((kp_c p42_0 (by decide)).trans ((kp_c fr_33 (by decide)).trans ((kp_c frE_33 (by decide)).symm.trans (((kp_i eσ7 (by decide)).trans ((kp_i eσ6 (by decide)).trans ((kp_i eσ5 (by decide)).trans ((kp_i eσ4 (by decide)).trans ((kp_i eσ3 (by decide)).trans ((kp_c p2_0 (by decide)).trans rfl))))))))))); have : (σ41.1 387 a1).toInt = ((σ_33.1 387 a1) : Int32).toInt := congrArg Int32.toInt (show σ41.1 387 a1 = (σ_33.1 387 a1) from ((kp_c p42_0 (by decide)).trans rfl)); have : (j33_2 : Int32).toInt ≤ (40 : Int32).toInt := iv_le.mp (iv_nlt c8); have : ((σ_33.1 265 a0) : Int32).toInt = (0 : Int32).toInt := congrArg Int32.toInt c14; have : ((σ_33.1 265 a0) : Int32).toInt = (0 : Int32).toInt := congrArg Int32.toInt c37; have : (0 : Int32).toInt = 0 := (by decide); have : (40 : Int32).toInt = 40 := (by decide); omega) _ (lv_sub hl [2, 3, 0] rfl)
              · --
                have i49 : Iv v42 0 0 := iv_eq1 c46 p42_1 (⟨by decide, by decide⟩ : Iv 0 0 0) (by decide)
                refine lv_aload_n hx hb dX5_learn_115 rfl (lv_at hl 2 rfl) ?_
                refine o_ci hw (oRunV cx hA hw q_X7_fault k_m_X5_70 rfl ha1 (by decide) (As := []) (c_X7_fault a1 ha1) (by decide) rfl hl.1 rfl (Nat.le_of_ble_eq_true rfl) dX5_learn_116 (by decide)) (fun v51 σ50 H locs hp hw => ?_)
                obtain ⟨p51_0, p51_1⟩ := hp
                rw [p51_0] at hw
                rw [← hQ]
                exact o_ri cx rx hw dX5_learn_119 ⟨fr, (by rcases rd9 with ⟨q1, -, -⟩ | ⟨q1, q2⟩; exact absurd q1 (by have := (i12).1; have := (i12).2; have := (i49).1; have := (i49).2; have := (iz385).1; have := (iz385).2; have := (i39).1; have := (i39).2; have := (i43).1; have := (i43).2; have := (i44).1; have := (i44).2; have := (i45).1; have := (i45).2; have := (i32).1; have := (i32).2; have := (i35).1; have := (i35).2; have := (i38).1; have := (i38).2; have : (σ41.1 385 a1).toInt = ((σ.1 385 a1) : Int32).toInt := congrArg Int32.toInt (show σ41.1 385 a1 = (σ.1 385 a1) from ((kp_c p42_0 (by decide)).trans ((kp_c fr_33 (by decide)).trans ((kp_c frE_33 (by decide)).symm.trans (((kp_i eσ7 (by decide)).trans ((kp_i eσ6 (by decide)).trans ((kp_i eσ5 (by decide)).trans ((kp_i eσ4 (by decide)).trans ((kp_i eσ3 (by decide)).trans ((kp_c p2_0 (by decide)).trans rfl))))))))))); have : (σ41.1 387 a1).toInt = ((σ_33.1 387 a1) : Int32).toInt := congrArg Int32.toInt (show σ41.1 387 a1 = (σ_33.1 387 a1) from ((kp_c p42_0 (by decide)).trans rfl)); have : (j33_2 : Int32).toInt ≤ (40 : Int32).toInt := iv_le.mp (iv_nlt c8); have : ((σ_33.1 265 a0) : Int32).toInt = (0 : Int32).toInt := congrArg Int32.toInt c14; have : ((σ_33.1 265 a0) : Int32).toInt = (0 : Int32).toInt := congrArg Int32.toInt c37; have : (v42 : Int32).toInt = (0 : Int32).toInt := congrArg Int32.toInt c46; have : (0 : Int32).toInt = 0 := (by decide); have : (40 : Int32).toInt = 40 := (by decide); omega); rw [q2]; exact (by have := (i12).1; have := (i12).2; have := (i49).1; have := (i49).2; have := (iz385).1; have := (iz385).2; have := (i39).1; have := (i39).2; have := (i43).1; have := (i43).2; have := (i44).1; have := (i44).2; have := (i45).1; have := (i45).2; have := (i32).1; have := (i32).2; have := (i35).1; have := (i35).2; have := (i38).1; have := (i38).2; have : (σ41.1 385 a1).toInt = ((σ.1 385 a1) : Int32).toInt := congrArg Int32.toInt (show σ41.1 385 a1 = (σ.1 385 a1) from ((kp_c p42_0 (by decide)).trans ((kp_c fr_33 (by decide)).trans ((kp_c frE_33 (by decide)).symm.trans (((kp_i eσ7 (by decide)).trans ((kp_i eσ6 (by decide)).trans ((kp_i eσ5 (by decide)).trans ((kp_i eσ4 (by decide)).trans ((kp_i eσ3 (by decide)).trans ((kp_c p2_0 (by decide)).trans rfl))))))))))); have : (σ41.1 387 a1).toInt = ((σ_33.1 387 a1) : Int32).toInt := congrArg Int32.toInt (show σ41.1 387 a1 = (σ_33.1 387 a1) from ((kp_c p42_0 (by decide)).trans rfl)); have : (j33_2 : Int32).toInt ≤ (40 : Int32).toInt := iv_le.mp (iv_nlt c8); have : ((σ_33.1 265 a0) : Int32).toInt = (0 : Int32).toInt := congrArg Int32.toInt c14; have : ((σ_33.1 265 a0) : Int32).toInt = (0 : Int32).toInt := congrArg Int32.toInt c37; have : (v42 : Int32).toInt = (0 : Int32).toInt := congrArg Int32.toInt c46; have : (0 : Int32).toInt = 0 := (by decide); have : (40 : Int32).toInt = 40 := (by decide); omega))⟩
            · --
              exact iv_no (iv_ne1 c37 i32 (⟨by decide, by decide⟩ : Iv 0 0 0) (by decide)) (by decide)
          · --
            have i52 : Iv (σ_33.1 263 a0) 0 0 := iv_eq1 c34 f33_263_a0 (⟨by decide, by decide⟩ : Iv 0 0 0) (by decide)
            refine lv_aload_n hx hb dX5_learn_53 rfl (lv_at hl 1 rfl) ?_
            have z53 : (σ_33.1 385 a1).toInt = ((σ.1 385 a1) : Int32).toInt := congrArg Int32.toInt (show σ_33.1 385 a1 = (σ.1 385 a1) from ((kp_c fr_33 (by decide)).trans ((kp_c frE_33 (by decide)).symm.trans (((kp_i eσ7 (by decide)).trans ((kp_i eσ6 (by decide)).trans ((kp_i eσ5 (by decide)).trans ((kp_i eσ4 (by decide)).trans ((kp_i eσ3 (by decide)).trans ((kp_c p2_0 (by decide)).trans rfl))))))))))
            have tq54 : tC (oRw σ_33 384 a1) (σ_33.1 385 a1).toInt (σ_33.1 387 a1).toInt (σ_33.1 386 a1).toInt = tC (oRw σ 384 a1) (σ.1 385 a1).toInt 40 (σ_33.1 386 a1).toInt := by rw [show oRw σ_33 384 a1 = oRw σ 384 a1 from oRw_fr hw ha1 rfl fr (by decide), show (σ_33.1 385 a1).toInt = (σ.1 385 a1).toInt from congrArg Int32.toInt (kp_c fr (by decide)), show (σ_33.1 387 a1).toInt = 40 from (by have := (i12).1; have := (i12).2; have := (iz385).1; have := (iz385).2; have := (f33_386_a1).1; have := (f33_386_a1).2; have := (f33_387_a1).1; have := (f33_387_a1).2; have := (i52).1; have := (i52).2; have := (f33_264_a0).1; have := (f33_264_a0).2; have := (i32).1; have := (i32).2; have : (σ_33.1 385 a1).toInt = ((σ.1 385 a1) : Int32).toInt := congrArg Int32.toInt (show σ_33.1 385 a1 = (σ.1 385 a1) from ((kp_c fr_33 (by decide)).trans ((kp_c frE_33 (by decide)).symm.trans (((kp_i eσ7 (by decide)).trans ((kp_i eσ6 (by decide)).trans ((kp_i eσ5 (by decide)).trans ((kp_i eσ4 (by decide)).trans ((kp_i eσ3 (by decide)).trans ((kp_c p2_0 (by decide)).trans rfl)))))))))); have : (j33_2 : Int32).toInt ≤ (40 : Int32).toInt := iv_le.mp (iv_nlt c8); have : ((σ_33.1 265 a0) : Int32).toInt = (0 : Int32).toInt := congrArg Int32.toInt c14; have : ((σ_33.1 263 a0) : Int32).toInt = (0 : Int32).toInt := congrArg Int32.toInt c34; have : (0 : Int32).toInt = 0 := (by decide); have : (40 : Int32).toInt = 40 := (by decide); omega)]
            refine o_ci hw (oRunV cx hA hw q_X7_isAtEnd k_m_X5_47 rfl ha1 (by decide) (As := []) (c_X7_isAtEnd a1 ha1) (by decide) rfl hl.1 rfl (Nat.le_of_ble_eq_true rfl) dX5_learn_54 (by decide)) (fun v56 σ55 H locs hp hw => ?_)
            obtain ⟨p56_0, p56_1, p56_2⟩ := hp
            rw [p56_0] at hw
            refine lv_if_eq (tgt := 90) hx hb dX5_learn_57 (by decide) (fun c57 => ?_) (fun c57 => ?_)
            · --
              have i58 : Iv v56 0 0 := iv_eq1 c57 p56_1 (⟨by decide, by decide⟩ : Iv 0 0 0) (by decide)
              refine lv_aload_n hx hb dX5_learn_90 rfl (lv_at hl 0 rfl) ?_
              refine g_265 cx hw ha0 k_f_X5_43 dX5_learn_91 (fun v59 e59 i59 => ?_)
              rw [show v59 = (σ_33.1 265 a0) from e59.trans rfl]
              refine lv_if_eq (tgt := 105) hx hb dX5_learn_94 (by decide) (fun c60 => ?_) (fun c60 => ?_)
              · --
                refine lv_aload_n hx hb dX5_learn_105 rfl (lv_at hl 0 rfl) ?_
                have i61 : Iv (σ_33.1 386 a1) 0 40 := (by have := (i12).1; have := (i12).2; have := (iz385).1; have := (iz385).2; have := (f33_386_a1).1; have := (f33_386_a1).2; have := (f33_387_a1).1; have := (f33_387_a1).2; have := (i52).1; have := (i52).2; have := (f33_264_a0).1; have := (f33_264_a0).2; have := (i32).1; have := (i32).2; have := (i58).1; have := (i58).2; have : (σ_33.1 385 a1).toInt = ((σ.1 385 a1) : Int32).toInt := congrArg Int32.toInt (show σ_33.1 385 a1 = (σ.1 385 a1) from ((kp_c fr_33 (by decide)).trans ((kp_c frE_33 (by decide)).symm.trans (((kp_i eσ7 (by decide)).trans ((kp_i eσ6 (by decide)).trans ((kp_i eσ5 (by decide)).trans ((kp_i eσ4 (by decide)).trans ((kp_i eσ3 (by decide)).trans ((kp_c p2_0 (by decide)).trans rfl)))))))))); have : (j33_2 : Int32).toInt ≤ (40 : Int32).toInt := iv_le.mp (iv_nlt c8); have : ((σ_33.1 265 a0) : Int32).toInt = (0 : Int32).toInt := congrArg Int32.toInt c14; have : ((σ_33.1 263 a0) : Int32).toInt = (0 : Int32).toInt := congrArg Int32.toInt c34; have : (v56 : Int32).toInt = (0 : Int32).toInt := congrArg Int32.toInt c57; have : ((σ_33.1 265 a0) : Int32).toInt = (0 : Int32).toInt := congrArg Int32.toInt c60; have : (0 : Int32).toInt = 0 := (by decide); have : (40 : Int32).toInt = 40 := (by decide); exact ⟨by omega, by omega⟩)
                have i62 : Iv (σ_33.1 387 a1) 40 40 := (by have := (i12).1; have := (i12).2; have := (iz385).1; have := (iz385).2; have := (i61).1; have := (i61).2; have := (f33_387_a1).1; have := (f33_387_a1).2; have := (i52).1; have := (i52).2; have := (f33_264_a0).1; have := (f33_264_a0).2; have := (i32).1; have := (i32).2; have := (i58).1; have := (i58).2; have : (σ_33.1 385 a1).toInt = ((σ.1 385 a1) : Int32).toInt := congrArg Int32.toInt (show σ_33.1 385 a1 = (σ.1 385 a1) from ((kp_c fr_33 (by decide)).trans ((kp_c frE_33 (by decide)).symm.trans (((kp_i eσ7 (by decide)).trans ((kp_i eσ6 (by decide)).trans ((kp_i eσ5 (by decide)).trans ((kp_i eσ4 (by decide)).trans ((kp_i eσ3 (by decide)).trans ((kp_c p2_0 (by decide)).trans rfl)))))))))); have : (j33_2 : Int32).toInt ≤ (40 : Int32).toInt := iv_le.mp (iv_nlt c8); have : ((σ_33.1 265 a0) : Int32).toInt = (0 : Int32).toInt := congrArg Int32.toInt c14; have : ((σ_33.1 263 a0) : Int32).toInt = (0 : Int32).toInt := congrArg Int32.toInt c34; have : (v56 : Int32).toInt = (0 : Int32).toInt := congrArg Int32.toInt c57; have : ((σ_33.1 265 a0) : Int32).toInt = (0 : Int32).toInt := congrArg Int32.toInt c60; have : (0 : Int32).toInt = 0 := (by decide); have : (40 : Int32).toInt = 40 := (by decide); exact ⟨by omega, by omega⟩)
                refine lv_aload_n hx hb dX5_learn_106 rfl (lv_at hl 1 rfl) ?_
                have z63 : (σ_33.1 385 a1).toInt = ((σ.1 385 a1) : Int32).toInt := congrArg Int32.toInt (show σ_33.1 385 a1 = (σ.1 385 a1) from ((kp_c fr_33 (by decide)).trans ((kp_c frE_33 (by decide)).symm.trans (((kp_i eσ7 (by decide)).trans ((kp_i eσ6 (by decide)).trans ((kp_i eσ5 (by decide)).trans ((kp_i eσ4 (by decide)).trans ((kp_i eσ3 (by decide)).trans ((kp_c p2_0 (by decide)).trans rfl))))))))))
                have eT : oRw σ_33 384 a1 = oRw σ 384 a1 := oRw_fr hw ha1 rfl fr (by decide)
                have eN : (σ_33.1 385 a1).toInt = (σ.1 385 a1).toInt := congrArg Int32.toInt (kp_c fr (by decide))
                refine o_ci hw (oRunV cx hA hw q_X5_readBinding k_m_X5_67 rfl ha0 (by decide) (As := [.ref a1]) (c_X5_readBinding a0 ha0 a1 ha1 (by rw [eT, eN]; exact (by have := (i12).1; have := (i12).2; have := (iz385).1; have := (iz385).2; have := (i61).1; have := (i61).2; have := (i62).1; have := (i62).2; have := (i52).1; have := (i52).2; have := (f33_264_a0).1; have := (f33_264_a0).2; have := (i32).1; have := (i32).2; have := (i58).1; have := (i58).2; have : (σ_33.1 385 a1).toInt = ((σ.1 385 a1) : Int32).toInt := congrArg Int32.toInt (show σ_33.1 385 a1 = (σ.1 385 a1) from ((kp_c fr_33 (by decide)).trans ((kp_c frE_33 (by decide)).symm.trans (((kp_i eσ7 (by decide)).trans ((kp_i eσ6 (by decide)).trans ((kp_i eσ5 (by decide)).trans ((kp_i eσ4 (by decide)).trans ((kp_i eσ3 (by decide)).trans ((kp_c p2_0 (by decide)).trans rfl)))))))))); have : (j33_2 : Int32).toInt ≤ (40 : Int32).toInt := iv_le.mp (iv_nlt c8); have : ((σ_33.1 265 a0) : Int32).toInt = (0 : Int32).toInt := congrArg Int32.toInt c14; have : ((σ_33.1 263 a0) : Int32).toInt = (0 : Int32).toInt := congrArg Int32.toInt c34; have : (v56 : Int32).toInt = (0 : Int32).toInt := congrArg Int32.toInt c57; have : ((σ_33.1 265 a0) : Int32).toInt = (0 : Int32).toInt := congrArg Int32.toInt c60; have : (0 : Int32).toInt = 0 := (by decide); have : (40 : Int32).toInt = 40 := (by decide); omega)) (kn_iv (rfl) (iv_w i32 (by decide))) (kn_iv (rfl) (iv_w i61 (by decide))) (kn_iv (rfl) (iv_w i62 (by decide)))) (by decide) rfl hl.1 rfl (Nat.le_of_ble_eq_true rfl) dX5_learn_107 (by decide)) (fun v65 σ64 H locs hp hw => ?_)
                obtain ⟨p65_0, p65_1, p65_2⟩ := hp
                have fr := oFr_tr fr p65_0 (by decide)
                have i66 : Iv (σ64.1 263 a0) 0 4 := o_fb (j := 263) hw ha0 rfl
                have i67 : Iv (σ64.1 264 a0) 0 31 := o_fb (j := 264) hw ha0 rfl
                have i68 : Iv (σ64.1 265 a0) 0 1 := o_fb (j := 265) hw ha0 rfl
                refine lv_istore_n (lv' := [(3, .int v65), (0, .ref a0), (1, .ref a1), (2, .int j33_2)]) hx hb dX5_learn_110 rfl hl (by decide) rfl (fun ls hl => ?_)
                have rd9 := p65_2 (raM (oRw σ 384 a1) (σ.1 385 a1).toInt) (by rw [eT, eN]; exact rK_eq gk rfl rfl (by have := (i12).1; have := (i12).2; have := (p65_1).1; have := (p65_1).2; have := (iz385).1; have := (iz385).2; have := (i62).1; have := (i62).2; have := (i66).1; have := (i66).2; have := (i67).1; have := (i67).2; have := (i68).1; have := (i68).2; have := (i32).1; have := (i32).2; have := (i52).1; have := (i52).2; have := (i58).1; have := (i58).2; have := (i61).1; have := (i61).2; have : (σ64.1 385 a1).toInt = ((σ.1 385 a1) : Int32).toInt := congrArg Int32.toInt (show σ64.1 385 a1 = (σ.1 385 a1) from ((kp_c p65_0 (by decide)).trans ((kp_c fr_33 (by decide)).trans ((kp_c frE_33 (by decide)).symm.trans (((kp_i eσ7 (by decide)).trans ((kp_i eσ6 (by decide)).trans ((kp_i eσ5 (by decide)).trans ((kp_i eσ4 (by decide)).trans ((kp_i eσ3 (by decide)).trans ((kp_c p2_0 (by decide)).trans rfl))))))))))); have : (σ64.1 387 a1).toInt = ((σ_33.1 387 a1) : Int32).toInt := congrArg Int32.toInt (show σ64.1 387 a1 = (σ_33.1 387 a1) from ((kp_c p65_0 (by decide)).trans rfl)); have : (j33_2 : Int32).toInt ≤ (40 : Int32).toInt := iv_le.mp (iv_nlt c8); have : ((σ_33.1 265 a0) : Int32).toInt = (0 : Int32).toInt := congrArg Int32.toInt c14; have : ((σ_33.1 263 a0) : Int32).toInt = (0 : Int32).toInt := congrArg Int32.toInt c34; have : (v56 : Int32).toInt = (0 : Int32).toInt := congrArg Int32.toInt c57; have : ((σ_33.1 265 a0) : Int32).toInt = (0 : Int32).toInt := congrArg Int32.toInt c60; have : (0 : Int32).toInt = 0 := (by decide); have : (40 : Int32).toInt = 40 := (by decide); omega))
                rw [eT, eN] at rd9
                refine lv_iload_n hx hb dX5_learn_111 rfl (lv_at hl 0 rfl) ?_
                refine lv_if_ne (tgt := 120) hx hb dX5_learn_112 (by decide) (fun c69 => ?_) (fun c69 => ?_)
                · --
                  have i70 : Iv v65 1 1 := iv_ne1 c69 p65_1 (⟨by decide, by decide⟩ : Iv 0 0 0) (by decide)
                  have kn9 : rK (oRw σ 384 a1) (σ.1 385 a1).toInt (raM (oRw σ 384 a1) (σ.1 385 a1).toInt) (σ64.1 386 a1).toInt (σ64.1 265 a0).toInt (σ64.1 264 a0) (σ64.1 263 a0) := by rcases rd9 with ⟨-, -, q3⟩ | ⟨q1, -⟩; exact q3; exact absurd q1 (by have := (i12).1; have := (i12).2; have := (i70).1; have := (i70).2; have := (iz385).1; have := (iz385).2; have := (i62).1; have := (i62).2; have := (i66).1; have := (i66).2; have := (i67).1; have := (i67).2; have := (i68).1; have := (i68).2; have := (i32).1; have := (i32).2; have := (i52).1; have := (i52).2; have := (i58).1; have := (i58).2; have := (i61).1; have := (i61).2; have : (σ64.1 385 a1).toInt = ((σ.1 385 a1) : Int32).toInt := congrArg Int32.toInt (show σ64.1 385 a1 = (σ.1 385 a1) from ((kp_c p65_0 (by decide)).trans ((kp_c fr_33 (by decide)).trans ((kp_c frE_33 (by decide)).symm.trans (((kp_i eσ7 (by decide)).trans ((kp_i eσ6 (by decide)).trans ((kp_i eσ5 (by decide)).trans ((kp_i eσ4 (by decide)).trans ((kp_i eσ3 (by decide)).trans ((kp_c p2_0 (by decide)).trans rfl))))))))))); have : (σ64.1 387 a1).toInt = ((σ_33.1 387 a1) : Int32).toInt := congrArg Int32.toInt (show σ64.1 387 a1 = (σ_33.1 387 a1) from ((kp_c p65_0 (by decide)).trans rfl)); have : (j33_2 : Int32).toInt ≤ (40 : Int32).toInt := iv_le.mp (iv_nlt c8); have : ((σ_33.1 265 a0) : Int32).toInt = (0 : Int32).toInt := congrArg Int32.toInt c14; have : ((σ_33.1 263 a0) : Int32).toInt = (0 : Int32).toInt := congrArg Int32.toInt c34; have : (v56 : Int32).toInt = (0 : Int32).toInt := congrArg Int32.toInt c57; have : ((σ_33.1 265 a0) : Int32).toInt = (0 : Int32).toInt := congrArg Int32.toInt c60; have : (0 : Int32).toInt = 0 := (by decide); have : (40 : Int32).toInt = 40 := (by decide); omega)
                  have kp9 : True := trivial
                  obtain ⟨v71, e71⟩ : ∃ y : Int32, y = j33_2 + 1 := ⟨_, rfl⟩
                  have i71 : Iv v71 1 41 := iv_add e71 i12 (⟨by decide, by decide⟩ : Iv 1 1 1) (by decide)
                  have x71 : v71.toInt = j33_2.toInt + 1 := ex_add e71 i12 (⟨by decide, by decide⟩ : Iv 1 1 1) (by decide)
                  refine lv_iinc (v := v71) (lv' := [(2, .int v71), (3, .int v65), (0, .ref a0), (1, .ref a1)]) hx hb dX5_learn_120 hl (k := 3) rfl (by rw [e71]; rfl) (by decide) rfl (fun ls hl => ?_)
                  refine lv_goto (tgt := 33) hx hb dX5_learn_123 (by decide) ?_
                  exact ih_33 v71 (iv_w i71 (by decide)) σ64 _ _ hw fr (kn_iv (rfl) (iv_w i66 (by decide))) (kn_iv (rfl) (iv_w i67 (by decide))) (kn_iv (rfl) (iv_w i68 (by decide))) (kn_iv (rfl) (iv_w (iv_top (σ64.1 386 a1)) (by decide))) (kn_iv (((kp_c p65_0 (by decide)).trans rfl)) (iv_w i62 (by decide))) (ms_up x71 (by decide) (iv_w (a' := 0) (b' := 41) i71 (by decide)).2 hn_33) kn9 (by have := (i70).1; have := (i70).2; have := (i71).1; have := (i71).2; have := (iz385).1; have := (iz385).2; have := (i62).1; have := (i62).2; have := (i66).1; have := (i66).2; have := (i67).1; have := (i67).2; have := (i68).1; have := (i68).2; have := (i12).1; have := (i12).2; have := (i32).1; have := (i32).2; have := (i52).1; have := (i52).2; have := (i58).1; have := (i58).2; have := (i61).1; have := (i61).2; have : (σ64.1 385 a1).toInt = ((σ.1 385 a1) : Int32).toInt := congrArg Int32.toInt (show σ64.1 385 a1 = (σ.1 385 a1) from ((kp_c p65_0 (by decide)).trans ((kp_c fr_33 (by decide)).trans ((kp_c frE_33 (by decide)).symm.trans (((kp_i eσ7 (by decide)).trans ((kp_i eσ6 (by decide)).trans ((kp_i eσ5 (by decide)).trans ((kp_i eσ4 (by decide)).trans ((kp_i eσ3 (by decide)).trans ((kp_c p2_0 (by decide)).trans rfl))))))))))); have : (σ64.1 387 a1).toInt = ((σ_33.1 387 a1) : Int32).toInt := congrArg Int32.toInt (show σ64.1 387 a1 = (σ_33.1 387 a1) from ((kp_c p65_0 (by decide)).trans rfl)); have : (j33_2 : Int32).toInt ≤ (40 : Int32).toInt := iv_le.mp (iv_nlt c8); have : ((σ_33.1 265 a0) : Int32).toInt = (0 : Int32).toInt := congrArg Int32.toInt c14; have : ((σ_33.1 263 a0) : Int32).toInt = (0 : Int32).toInt := congrArg Int32.toInt c34; have : (v56 : Int32).toInt = (0 : Int32).toInt := congrArg Int32.toInt c57; have : ((σ_33.1 265 a0) : Int32).toInt = (0 : Int32).toInt := congrArg Int32.toInt c60; have : (0 : Int32).toInt = 0 := (by decide); have : (40 : Int32).toInt = 40 := (by decide); omega) (by have := (i70).1; have := (i70).2; have := (i71).1; have := (i71).2; have := (iz385).1; have := (iz385).2; have := (i62).1; have := (i62).2; have := (i66).1; have := (i66).2; have := (i67).1; have := (i67).2; have := (i68).1; have := (i68).2; have := (i12).1; have := (i12).2; have := (i32).1; have := (i32).2; have := (i52).1; have := (i52).2; have := (i58).1; have := (i58).2; have := (i61).1; have := (i61).2; have : (σ64.1 385 a1).toInt = ((σ.1 385 a1) : Int32).toInt := congrArg Int32.toInt (show σ64.1 385 a1 = (σ.1 385 a1) from ((kp_c p65_0 (by decide)).trans ((kp_c fr_33 (by decide)).trans ((kp_c frE_33 (by decide)).symm.trans (((kp_i eσ7 (by decide)).trans ((kp_i eσ6 (by decide)).trans ((kp_i eσ5 (by decide)).trans ((kp_i eσ4 (by decide)).trans ((kp_i eσ3 (by decide)).trans ((kp_c p2_0 (by decide)).trans rfl))))))))))); have : (σ64.1 387 a1).toInt = ((σ_33.1 387 a1) : Int32).toInt := congrArg Int32.toInt (show σ64.1 387 a1 = (σ_33.1 387 a1) from ((kp_c p65_0 (by decide)).trans rfl)); have : (j33_2 : Int32).toInt ≤ (40 : Int32).toInt := iv_le.mp (iv_nlt c8); have : ((σ_33.1 265 a0) : Int32).toInt = (0 : Int32).toInt := congrArg Int32.toInt c14; have : ((σ_33.1 263 a0) : Int32).toInt = (0 : Int32).toInt := congrArg Int32.toInt c34; have : (v56 : Int32).toInt = (0 : Int32).toInt := congrArg Int32.toInt c57; have : ((σ_33.1 265 a0) : Int32).toInt = (0 : Int32).toInt := congrArg Int32.toInt c60; have : (0 : Int32).toInt = 0 := (by decide); have : (40 : Int32).toInt = 40 := (by decide); omega) _ (lv_sub hl [2, 3, 0] rfl)
                · --
                  have i72 : Iv v65 0 0 := iv_eq1 c69 p65_1 (⟨by decide, by decide⟩ : Iv 0 0 0) (by decide)
                  refine lv_aload_n hx hb dX5_learn_115 rfl (lv_at hl 2 rfl) ?_
                  refine o_ci hw (oRunV cx hA hw q_X7_fault k_m_X5_70 rfl ha1 (by decide) (As := []) (c_X7_fault a1 ha1) (by decide) rfl hl.1 rfl (Nat.le_of_ble_eq_true rfl) dX5_learn_116 (by decide)) (fun v74 σ73 H locs hp hw => ?_)
                  obtain ⟨p74_0, p74_1⟩ := hp
                  rw [p74_0] at hw
                  rw [← hQ]
                  exact o_ri cx rx hw dX5_learn_119 ⟨fr, (by rcases rd9 with ⟨q1, -, -⟩ | ⟨q1, q2⟩; exact absurd q1 (by have := (i12).1; have := (i12).2; have := (i72).1; have := (i72).2; have := (iz385).1; have := (iz385).2; have := (i62).1; have := (i62).2; have := (i66).1; have := (i66).2; have := (i67).1; have := (i67).2; have := (i68).1; have := (i68).2; have := (i32).1; have := (i32).2; have := (i52).1; have := (i52).2; have := (i58).1; have := (i58).2; have := (i61).1; have := (i61).2; have : (σ64.1 385 a1).toInt = ((σ.1 385 a1) : Int32).toInt := congrArg Int32.toInt (show σ64.1 385 a1 = (σ.1 385 a1) from ((kp_c p65_0 (by decide)).trans ((kp_c fr_33 (by decide)).trans ((kp_c frE_33 (by decide)).symm.trans (((kp_i eσ7 (by decide)).trans ((kp_i eσ6 (by decide)).trans ((kp_i eσ5 (by decide)).trans ((kp_i eσ4 (by decide)).trans ((kp_i eσ3 (by decide)).trans ((kp_c p2_0 (by decide)).trans rfl))))))))))); have : (σ64.1 387 a1).toInt = ((σ_33.1 387 a1) : Int32).toInt := congrArg Int32.toInt (show σ64.1 387 a1 = (σ_33.1 387 a1) from ((kp_c p65_0 (by decide)).trans rfl)); have : (j33_2 : Int32).toInt ≤ (40 : Int32).toInt := iv_le.mp (iv_nlt c8); have : ((σ_33.1 265 a0) : Int32).toInt = (0 : Int32).toInt := congrArg Int32.toInt c14; have : ((σ_33.1 263 a0) : Int32).toInt = (0 : Int32).toInt := congrArg Int32.toInt c34; have : (v56 : Int32).toInt = (0 : Int32).toInt := congrArg Int32.toInt c57; have : ((σ_33.1 265 a0) : Int32).toInt = (0 : Int32).toInt := congrArg Int32.toInt c60; have : (v65 : Int32).toInt = (0 : Int32).toInt := congrArg Int32.toInt c69; have : (0 : Int32).toInt = 0 := (by decide); have : (40 : Int32).toInt = 40 := (by decide); omega); rw [q2]; exact (by have := (i12).1; have := (i12).2; have := (i72).1; have := (i72).2; have := (iz385).1; have := (iz385).2; have := (i62).1; have := (i62).2; have := (i66).1; have := (i66).2; have := (i67).1; have := (i67).2; have := (i68).1; have := (i68).2; have := (i32).1; have := (i32).2; have := (i52).1; have := (i52).2; have := (i58).1; have := (i58).2; have := (i61).1; have := (i61).2; have : (σ64.1 385 a1).toInt = ((σ.1 385 a1) : Int32).toInt := congrArg Int32.toInt (show σ64.1 385 a1 = (σ.1 385 a1) from ((kp_c p65_0 (by decide)).trans ((kp_c fr_33 (by decide)).trans ((kp_c frE_33 (by decide)).symm.trans (((kp_i eσ7 (by decide)).trans ((kp_i eσ6 (by decide)).trans ((kp_i eσ5 (by decide)).trans ((kp_i eσ4 (by decide)).trans ((kp_i eσ3 (by decide)).trans ((kp_c p2_0 (by decide)).trans rfl))))))))))); have : (σ64.1 387 a1).toInt = ((σ_33.1 387 a1) : Int32).toInt := congrArg Int32.toInt (show σ64.1 387 a1 = (σ_33.1 387 a1) from ((kp_c p65_0 (by decide)).trans rfl)); have : (j33_2 : Int32).toInt ≤ (40 : Int32).toInt := iv_le.mp (iv_nlt c8); have : ((σ_33.1 265 a0) : Int32).toInt = (0 : Int32).toInt := congrArg Int32.toInt c14; have : ((σ_33.1 263 a0) : Int32).toInt = (0 : Int32).toInt := congrArg Int32.toInt c34; have : (v56 : Int32).toInt = (0 : Int32).toInt := congrArg Int32.toInt c57; have : ((σ_33.1 265 a0) : Int32).toInt = (0 : Int32).toInt := congrArg Int32.toInt c60; have : (v65 : Int32).toInt = (0 : Int32).toInt := congrArg Int32.toInt c69; have : (0 : Int32).toInt = 0 := (by decide); have : (40 : Int32).toInt = 40 := (by decide); omega))⟩
              · --
                exact iv_no (iv_ne1 c60 i32 (⟨by decide, by decide⟩ : Iv 0 0 0) (by decide)) (by decide)
            · --
              have i75 : Iv v56 1 1 := iv_ne1 c57 p56_1 (⟨by decide, by decide⟩ : Iv 0 0 0) (by decide)
              have rend9 : raM (oRw σ 384 a1) (σ.1 385 a1).toInt = 0 := rK_end (T := oRw σ 384 a1) (n := (σ.1 385 a1).toInt) (p := (σ_33.1 386 a1).toInt) (rK_eq gk rfl rfl (by have := (i12).1; have := (i12).2; have := (iz385).1; have := (iz385).2; have := (f33_386_a1).1; have := (f33_386_a1).2; have := (f33_387_a1).1; have := (f33_387_a1).2; have := (i52).1; have := (i52).2; have := (f33_264_a0).1; have := (f33_264_a0).2; have := (i32).1; have := (i32).2; have := (i75).1; have := (i75).2; have : (σ_33.1 385 a1).toInt = ((σ.1 385 a1) : Int32).toInt := congrArg Int32.toInt (show σ_33.1 385 a1 = (σ.1 385 a1) from ((kp_c fr_33 (by decide)).trans ((kp_c frE_33 (by decide)).symm.trans (((kp_i eσ7 (by decide)).trans ((kp_i eσ6 (by decide)).trans ((kp_i eσ5 (by decide)).trans ((kp_i eσ4 (by decide)).trans ((kp_i eσ3 (by decide)).trans ((kp_c p2_0 (by decide)).trans rfl)))))))))); have : (j33_2 : Int32).toInt ≤ (40 : Int32).toInt := iv_le.mp (iv_nlt c8); have : ((σ_33.1 265 a0) : Int32).toInt = (0 : Int32).toInt := congrArg Int32.toInt c14; have : ((σ_33.1 263 a0) : Int32).toInt = (0 : Int32).toInt := congrArg Int32.toInt c34; have : (0 : Int32).toInt = 0 := (by decide); have : (40 : Int32).toInt = 40 := (by decide); omega)) (by have := (i12).1; have := (i12).2; have := (iz385).1; have := (iz385).2; have := (f33_386_a1).1; have := (f33_386_a1).2; have := (f33_387_a1).1; have := (f33_387_a1).2; have := (i52).1; have := (i52).2; have := (f33_264_a0).1; have := (f33_264_a0).2; have := (i32).1; have := (i32).2; have := (i75).1; have := (i75).2; have : (σ_33.1 385 a1).toInt = ((σ.1 385 a1) : Int32).toInt := congrArg Int32.toInt (show σ_33.1 385 a1 = (σ.1 385 a1) from ((kp_c fr_33 (by decide)).trans ((kp_c frE_33 (by decide)).symm.trans (((kp_i eσ7 (by decide)).trans ((kp_i eσ6 (by decide)).trans ((kp_i eσ5 (by decide)).trans ((kp_i eσ4 (by decide)).trans ((kp_i eσ3 (by decide)).trans ((kp_c p2_0 (by decide)).trans rfl)))))))))); have : (j33_2 : Int32).toInt ≤ (40 : Int32).toInt := iv_le.mp (iv_nlt c8); have : ((σ_33.1 265 a0) : Int32).toInt = (0 : Int32).toInt := congrArg Int32.toInt c14; have : ((σ_33.1 263 a0) : Int32).toInt = (0 : Int32).toInt := congrArg Int32.toInt c34; have : (0 : Int32).toInt = 0 := (by decide); have : (40 : Int32).toInt = 40 := (by decide); omega) (by have := (i12).1; have := (i12).2; have := (iz385).1; have := (iz385).2; have := (f33_386_a1).1; have := (f33_386_a1).2; have := (f33_387_a1).1; have := (f33_387_a1).2; have := (i52).1; have := (i52).2; have := (f33_264_a0).1; have := (f33_264_a0).2; have := (i32).1; have := (i32).2; have := (i75).1; have := (i75).2; have : (σ_33.1 385 a1).toInt = ((σ.1 385 a1) : Int32).toInt := congrArg Int32.toInt (show σ_33.1 385 a1 = (σ.1 385 a1) from ((kp_c fr_33 (by decide)).trans ((kp_c frE_33 (by decide)).symm.trans (((kp_i eσ7 (by decide)).trans ((kp_i eσ6 (by decide)).trans ((kp_i eσ5 (by decide)).trans ((kp_i eσ4 (by decide)).trans ((kp_i eσ3 (by decide)).trans ((kp_c p2_0 (by decide)).trans rfl)))))))))); have : (j33_2 : Int32).toInt ≤ (40 : Int32).toInt := iv_le.mp (iv_nlt c8); have : ((σ_33.1 265 a0) : Int32).toInt = (0 : Int32).toInt := congrArg Int32.toInt c14; have : ((σ_33.1 263 a0) : Int32).toInt = (0 : Int32).toInt := congrArg Int32.toInt c34; have : (0 : Int32).toInt = 0 := (by decide); have : (40 : Int32).toInt = 40 := (by decide); omega) (by have := (i12).1; have := (i12).2; have := (iz385).1; have := (iz385).2; have := (f33_386_a1).1; have := (f33_386_a1).2; have := (f33_387_a1).1; have := (f33_387_a1).2; have := (i52).1; have := (i52).2; have := (f33_264_a0).1; have := (f33_264_a0).2; have := (i32).1; have := (i32).2; have := (i75).1; have := (i75).2; have : (σ_33.1 385 a1).toInt = ((σ.1 385 a1) : Int32).toInt := congrArg Int32.toInt (show σ_33.1 385 a1 = (σ.1 385 a1) from ((kp_c fr_33 (by decide)).trans ((kp_c frE_33 (by decide)).symm.trans (((kp_i eσ7 (by decide)).trans ((kp_i eσ6 (by decide)).trans ((kp_i eσ5 (by decide)).trans ((kp_i eσ4 (by decide)).trans ((kp_i eσ3 (by decide)).trans ((kp_c p2_0 (by decide)).trans rfl)))))))))); have : (j33_2 : Int32).toInt ≤ (40 : Int32).toInt := iv_le.mp (iv_nlt c8); have : ((σ_33.1 265 a0) : Int32).toInt = (0 : Int32).toInt := congrArg Int32.toInt c14; have : ((σ_33.1 263 a0) : Int32).toInt = (0 : Int32).toInt := congrArg Int32.toInt c34; have : (0 : Int32).toInt = 0 := (by decide); have : (40 : Int32).toInt = 40 := (by decide); omega)
              refine lv_aload_n hx hb dX5_learn_60 rfl (lv_at hl 0 rfl) ?_
              refine lv_iconst (v := 1) hx hb dX5_learn_61 (by decide) ?_
              refine o_cv hw (oRunV cx hA hw q_X5_release k_m_X5_51 rfl ha0 (by decide) (As := [.int 1]) (c_X5_release a0 ha0 1) (by decide) rfl hl.1 rfl (Nat.le_of_ble_eq_true rfl) dX5_learn_62 (by decide)) (fun σ76 H locs hp hw => ?_)
              have p77_0 := hp
              have fr := oFr_tr fr p77_0 (by decide)
              refine lv_aload_n hx hb dX5_learn_65 rfl (lv_at hl 0 rfl) ?_
              refine g_258 cx hw ha0 k_f_X5_15 dX5_learn_66 (fun v78 e78 h78 => ?_)
              refine lv_iconst (v := 0) hx hb dX5_learn_69 (by decide) ?_
              refine lv_aload_n hx hb dX5_learn_70 rfl (lv_at hl 0 rfl) ?_
              refine g_256 cx hw ha0 k_f_X5_9 dX5_learn_71 (fun v79 e79 h79 => ?_)
              refine lv_iconst (v := 0) hx hb dX5_learn_74 (by decide) ?_
              refine lv_bipush (v := 40) hx hb dX5_learn_75 (by decide) ?_
              refine o_copyi cx hw h78 h79 (by decide) rfl (by decide) k_m_X5_54 hl.1 (by decide) (Nat.le_of_ble_eq_true rfl) dX5_learn_77 (fun σ80 H locs eσ80 hw => ?_)
              have fr := oFr_p fr eσ80 h79 (by decide)
              refine lv_aload_n hx hb dX5_learn_80 rfl (lv_at hl 0 rfl) ?_
              refine lv_aload_n hx hb dX5_learn_81 rfl (lv_at hl 0 rfl) ?_
              refine g_259 cx hw ha0 k_f_X5_30 dX5_learn_82 (fun v81 e81 i81 => ?_)
              have z81 : v81.toInt = (σ80.1 259 a0).toInt := congrArg Int32.toInt e81
              refine p_257 cx hw ha0 (iv_w i81 (by decide)) k_f_X5_60 dX5_learn_85 (fun σ82 H locs eσ82 hw => ?_)
              have fr := oFr_i fr eσ82 (by decide)
              refine lv_iconst (v := 0) hx hb dX5_learn_88 (by decide) ?_
              rw [← hQ]
              exact o_ri cx rx hw dX5_learn_89 ⟨fr, (by have q9 := rend9; exact (by have := (i12).1; have := (i12).2; have := (iz385).1; have := (iz385).2; have := (f33_386_a1).1; have := (f33_386_a1).2; have := (f33_387_a1).1; have := (f33_387_a1).2; have := (i52).1; have := (i52).2; have := (f33_264_a0).1; have := (f33_264_a0).2; have := (i32).1; have := (i32).2; have := (i81).1; have := (i81).2; have := (i75).1; have := (i75).2; have : (σ82.1 385 a1).toInt = ((σ.1 385 a1) : Int32).toInt := congrArg Int32.toInt (show σ82.1 385 a1 = (σ.1 385 a1) from ((kp_i eσ82 (by decide)).trans ((kp_p eσ80).trans ((kp_c p77_0 (by decide)).trans ((kp_c fr_33 (by decide)).trans ((kp_c frE_33 (by decide)).symm.trans (((kp_i eσ7 (by decide)).trans ((kp_i eσ6 (by decide)).trans ((kp_i eσ5 (by decide)).trans ((kp_i eσ4 (by decide)).trans ((kp_i eσ3 (by decide)).trans ((kp_c p2_0 (by decide)).trans rfl))))))))))))); have : (σ82.1 386 a1).toInt = ((σ_33.1 386 a1) : Int32).toInt := congrArg Int32.toInt (show σ82.1 386 a1 = (σ_33.1 386 a1) from ((kp_i eσ82 (by decide)).trans ((kp_p eσ80).trans ((kp_c p77_0 (by decide)).trans rfl)))); have : (σ82.1 387 a1).toInt = ((σ_33.1 387 a1) : Int32).toInt := congrArg Int32.toInt (show σ82.1 387 a1 = (σ_33.1 387 a1) from ((kp_i eσ82 (by decide)).trans ((kp_p eσ80).trans ((kp_c p77_0 (by decide)).trans rfl)))); have : (σ82.1 263 a0).toInt = ((σ_33.1 263 a0) : Int32).toInt := congrArg Int32.toInt (show σ82.1 263 a0 = (σ_33.1 263 a0) from ((kp_i eσ82 (by decide)).trans ((kp_p eσ80).trans ((kp_c p77_0 (by decide)).trans rfl)))); have : (σ82.1 264 a0).toInt = ((σ_33.1 264 a0) : Int32).toInt := congrArg Int32.toInt (show σ82.1 264 a0 = (σ_33.1 264 a0) from ((kp_i eσ82 (by decide)).trans ((kp_p eσ80).trans ((kp_c p77_0 (by decide)).trans rfl)))); have : (σ82.1 265 a0).toInt = ((σ_33.1 265 a0) : Int32).toInt := congrArg Int32.toInt (show σ82.1 265 a0 = (σ_33.1 265 a0) from ((kp_i eσ82 (by decide)).trans ((kp_p eσ80).trans ((kp_c p77_0 (by decide)).trans rfl)))); have : (σ82.1 259 a0).toInt = (v81 : Int32).toInt := congrArg Int32.toInt (show σ82.1 259 a0 = v81 from ((kp_i eσ82 (by decide)).trans e81.symm)); have : (σ82.1 257 a0).toInt = (v81 : Int32).toInt := congrArg Int32.toInt (show σ82.1 257 a0 = v81 from (kp_s eσ82)); have : (j33_2 : Int32).toInt ≤ (40 : Int32).toInt := iv_le.mp (iv_nlt c8); have : ((σ_33.1 265 a0) : Int32).toInt = (0 : Int32).toInt := congrArg Int32.toInt c14; have : ((σ_33.1 263 a0) : Int32).toInt = (0 : Int32).toInt := congrArg Int32.toInt c34; have : (0 : Int32).toInt = 0 := (by decide); have : (1 : Int32).toInt = 1 := (by decide); have : (40 : Int32).toInt = 40 := (by decide); omega))⟩
  exact J_33 _ 0 (iv_w (⟨by decide, by decide⟩ : Iv 0 0 0) (by decide)) σ7 _ _ hw fr (kn_iv (((kp_i eσ7 (by decide)).trans ((kp_i eσ6 (by decide)).trans (kp_s eσ5)))) (iv_w (⟨by decide, by decide⟩ : Iv 0 0 0) (by decide))) (kn_iv (((kp_i eσ7 (by decide)).trans (kp_s eσ6))) (iv_w (⟨by decide, by decide⟩ : Iv 0 0 0) (by decide))) (kn_iv ((kp_s eσ7)) (iv_w (⟨by decide, by decide⟩ : Iv 1 1 1) (by decide))) (kn_iv (((kp_i eσ7 (by decide)).trans ((kp_i eσ6 (by decide)).trans ((kp_i eσ5 (by decide)).trans ((kp_i eσ4 (by decide)).trans ((kp_i eσ3 (by decide)).trans rfl)))))) (iv_w (iv_top (σ1.1 386 a1)) (by decide))) (kn_iv (((kp_i eσ7 (by decide)).trans ((kp_i eσ6 (by decide)).trans ((kp_i eσ5 (by decide)).trans ((kp_i eσ4 (by decide)).trans ((kp_i eσ3 (by decide)).trans rfl)))))) (iv_w (iv_top (σ1.1 387 a1)) (by decide))) (Nat.lt_succ_self _) (rK_0 (by have := (iz385).1; have := (iz385).2; have : (σ7.1 385 a1).toInt = ((σ.1 385 a1) : Int32).toInt := congrArg Int32.toInt (show σ7.1 385 a1 = (σ.1 385 a1) from ((kp_i eσ7 (by decide)).trans ((kp_i eσ6 (by decide)).trans ((kp_i eσ5 (by decide)).trans ((kp_i eσ4 (by decide)).trans ((kp_i eσ3 (by decide)).trans ((kp_c p2_0 (by decide)).trans rfl))))))); have : (σ7.1 386 a1).toInt = ((σ1.1 386 a1) : Int32).toInt := congrArg Int32.toInt (show σ7.1 386 a1 = (σ1.1 386 a1) from ((kp_i eσ7 (by decide)).trans ((kp_i eσ6 (by decide)).trans ((kp_i eσ5 (by decide)).trans ((kp_i eσ4 (by decide)).trans ((kp_i eσ3 (by decide)).trans rfl)))))); have : (σ7.1 387 a1).toInt = ((σ1.1 387 a1) : Int32).toInt := congrArg Int32.toInt (show σ7.1 387 a1 = (σ1.1 387 a1) from ((kp_i eσ7 (by decide)).trans ((kp_i eσ6 (by decide)).trans ((kp_i eσ5 (by decide)).trans ((kp_i eσ4 (by decide)).trans ((kp_i eσ3 (by decide)).trans rfl)))))); have : (σ7.1 259 a0).toInt = (0 : Int32).toInt := congrArg Int32.toInt (show σ7.1 259 a0 = 0 from ((kp_i eσ7 (by decide)).trans ((kp_i eσ6 (by decide)).trans ((kp_i eσ5 (by decide)).trans ((kp_i eσ4 (by decide)).trans (kp_s eσ3)))))); have : (σ7.1 261 a0).toInt = (0 : Int32).toInt := congrArg Int32.toInt (show σ7.1 261 a0 = 0 from ((kp_i eσ7 (by decide)).trans ((kp_i eσ6 (by decide)).trans ((kp_i eσ5 (by decide)).trans (kp_s eσ4))))); have : (σ7.1 263 a0).toInt = (0 : Int32).toInt := congrArg Int32.toInt (show σ7.1 263 a0 = 0 from ((kp_i eσ7 (by decide)).trans ((kp_i eσ6 (by decide)).trans (kp_s eσ5)))); have : (σ7.1 264 a0).toInt = (0 : Int32).toInt := congrArg Int32.toInt (show σ7.1 264 a0 = 0 from ((kp_i eσ7 (by decide)).trans (kp_s eσ6))); have : (σ7.1 265 a0).toInt = (1 : Int32).toInt := congrArg Int32.toInt (show σ7.1 265 a0 = 1 from (kp_s eσ7)); have : (0 : Int32).toInt = 0 := (by decide); have : (1 : Int32).toInt = 1 := (by decide); have : (40 : Int32).toInt = 40 := (by decide); omega) (by have := (iz385).1; have := (iz385).2; have : (σ7.1 385 a1).toInt = ((σ.1 385 a1) : Int32).toInt := congrArg Int32.toInt (show σ7.1 385 a1 = (σ.1 385 a1) from ((kp_i eσ7 (by decide)).trans ((kp_i eσ6 (by decide)).trans ((kp_i eσ5 (by decide)).trans ((kp_i eσ4 (by decide)).trans ((kp_i eσ3 (by decide)).trans ((kp_c p2_0 (by decide)).trans rfl))))))); have : (σ7.1 386 a1).toInt = ((σ1.1 386 a1) : Int32).toInt := congrArg Int32.toInt (show σ7.1 386 a1 = (σ1.1 386 a1) from ((kp_i eσ7 (by decide)).trans ((kp_i eσ6 (by decide)).trans ((kp_i eσ5 (by decide)).trans ((kp_i eσ4 (by decide)).trans ((kp_i eσ3 (by decide)).trans rfl)))))); have : (σ7.1 387 a1).toInt = ((σ1.1 387 a1) : Int32).toInt := congrArg Int32.toInt (show σ7.1 387 a1 = (σ1.1 387 a1) from ((kp_i eσ7 (by decide)).trans ((kp_i eσ6 (by decide)).trans ((kp_i eσ5 (by decide)).trans ((kp_i eσ4 (by decide)).trans ((kp_i eσ3 (by decide)).trans rfl)))))); have : (σ7.1 259 a0).toInt = (0 : Int32).toInt := congrArg Int32.toInt (show σ7.1 259 a0 = 0 from ((kp_i eσ7 (by decide)).trans ((kp_i eσ6 (by decide)).trans ((kp_i eσ5 (by decide)).trans ((kp_i eσ4 (by decide)).trans (kp_s eσ3)))))); have : (σ7.1 261 a0).toInt = (0 : Int32).toInt := congrArg Int32.toInt (show σ7.1 261 a0 = 0 from ((kp_i eσ7 (by decide)).trans ((kp_i eσ6 (by decide)).trans ((kp_i eσ5 (by decide)).trans (kp_s eσ4))))); have : (σ7.1 263 a0).toInt = (0 : Int32).toInt := congrArg Int32.toInt (show σ7.1 263 a0 = 0 from ((kp_i eσ7 (by decide)).trans ((kp_i eσ6 (by decide)).trans (kp_s eσ5)))); have : (σ7.1 264 a0).toInt = (0 : Int32).toInt := congrArg Int32.toInt (show σ7.1 264 a0 = 0 from ((kp_i eσ7 (by decide)).trans (kp_s eσ6))); have : (σ7.1 265 a0).toInt = (1 : Int32).toInt := congrArg Int32.toInt (show σ7.1 265 a0 = 1 from (kp_s eσ7)); have : (0 : Int32).toInt = 0 := (by decide); have : (1 : Int32).toInt = 1 := (by decide); have : (40 : Int32).toInt = 40 := (by decide); omega) (by have := (iz385).1; have := (iz385).2; have : (σ7.1 385 a1).toInt = ((σ.1 385 a1) : Int32).toInt := congrArg Int32.toInt (show σ7.1 385 a1 = (σ.1 385 a1) from ((kp_i eσ7 (by decide)).trans ((kp_i eσ6 (by decide)).trans ((kp_i eσ5 (by decide)).trans ((kp_i eσ4 (by decide)).trans ((kp_i eσ3 (by decide)).trans ((kp_c p2_0 (by decide)).trans rfl))))))); have : (σ7.1 386 a1).toInt = ((σ1.1 386 a1) : Int32).toInt := congrArg Int32.toInt (show σ7.1 386 a1 = (σ1.1 386 a1) from ((kp_i eσ7 (by decide)).trans ((kp_i eσ6 (by decide)).trans ((kp_i eσ5 (by decide)).trans ((kp_i eσ4 (by decide)).trans ((kp_i eσ3 (by decide)).trans rfl)))))); have : (σ7.1 387 a1).toInt = ((σ1.1 387 a1) : Int32).toInt := congrArg Int32.toInt (show σ7.1 387 a1 = (σ1.1 387 a1) from ((kp_i eσ7 (by decide)).trans ((kp_i eσ6 (by decide)).trans ((kp_i eσ5 (by decide)).trans ((kp_i eσ4 (by decide)).trans ((kp_i eσ3 (by decide)).trans rfl)))))); have : (σ7.1 259 a0).toInt = (0 : Int32).toInt := congrArg Int32.toInt (show σ7.1 259 a0 = 0 from ((kp_i eσ7 (by decide)).trans ((kp_i eσ6 (by decide)).trans ((kp_i eσ5 (by decide)).trans ((kp_i eσ4 (by decide)).trans (kp_s eσ3)))))); have : (σ7.1 261 a0).toInt = (0 : Int32).toInt := congrArg Int32.toInt (show σ7.1 261 a0 = 0 from ((kp_i eσ7 (by decide)).trans ((kp_i eσ6 (by decide)).trans ((kp_i eσ5 (by decide)).trans (kp_s eσ4))))); have : (σ7.1 263 a0).toInt = (0 : Int32).toInt := congrArg Int32.toInt (show σ7.1 263 a0 = 0 from ((kp_i eσ7 (by decide)).trans ((kp_i eσ6 (by decide)).trans (kp_s eσ5)))); have : (σ7.1 264 a0).toInt = (0 : Int32).toInt := congrArg Int32.toInt (show σ7.1 264 a0 = 0 from ((kp_i eσ7 (by decide)).trans (kp_s eσ6))); have : (σ7.1 265 a0).toInt = (1 : Int32).toInt := congrArg Int32.toInt (show σ7.1 265 a0 = 1 from (kp_s eσ7)); have : (0 : Int32).toInt = 0 := (by decide); have : (1 : Int32).toInt = 1 := (by decide); have : (40 : Int32).toInt = 40 := (by decide); omega)) (by have := (iz385).1; have := (iz385).2; have : (σ7.1 385 a1).toInt = ((σ.1 385 a1) : Int32).toInt := congrArg Int32.toInt (show σ7.1 385 a1 = (σ.1 385 a1) from ((kp_i eσ7 (by decide)).trans ((kp_i eσ6 (by decide)).trans ((kp_i eσ5 (by decide)).trans ((kp_i eσ4 (by decide)).trans ((kp_i eσ3 (by decide)).trans ((kp_c p2_0 (by decide)).trans rfl))))))); have : (σ7.1 386 a1).toInt = ((σ1.1 386 a1) : Int32).toInt := congrArg Int32.toInt (show σ7.1 386 a1 = (σ1.1 386 a1) from ((kp_i eσ7 (by decide)).trans ((kp_i eσ6 (by decide)).trans ((kp_i eσ5 (by decide)).trans ((kp_i eσ4 (by decide)).trans ((kp_i eσ3 (by decide)).trans rfl)))))); have : (σ7.1 387 a1).toInt = ((σ1.1 387 a1) : Int32).toInt := congrArg Int32.toInt (show σ7.1 387 a1 = (σ1.1 387 a1) from ((kp_i eσ7 (by decide)).trans ((kp_i eσ6 (by decide)).trans ((kp_i eσ5 (by decide)).trans ((kp_i eσ4 (by decide)).trans ((kp_i eσ3 (by decide)).trans rfl)))))); have : (σ7.1 259 a0).toInt = (0 : Int32).toInt := congrArg Int32.toInt (show σ7.1 259 a0 = 0 from ((kp_i eσ7 (by decide)).trans ((kp_i eσ6 (by decide)).trans ((kp_i eσ5 (by decide)).trans ((kp_i eσ4 (by decide)).trans (kp_s eσ3)))))); have : (σ7.1 261 a0).toInt = (0 : Int32).toInt := congrArg Int32.toInt (show σ7.1 261 a0 = 0 from ((kp_i eσ7 (by decide)).trans ((kp_i eσ6 (by decide)).trans ((kp_i eσ5 (by decide)).trans (kp_s eσ4))))); have : (σ7.1 263 a0).toInt = (0 : Int32).toInt := congrArg Int32.toInt (show σ7.1 263 a0 = 0 from ((kp_i eσ7 (by decide)).trans ((kp_i eσ6 (by decide)).trans (kp_s eσ5)))); have : (σ7.1 264 a0).toInt = (0 : Int32).toInt := congrArg Int32.toInt (show σ7.1 264 a0 = 0 from ((kp_i eσ7 (by decide)).trans (kp_s eσ6))); have : (σ7.1 265 a0).toInt = (1 : Int32).toInt := congrArg Int32.toInt (show σ7.1 265 a0 = 1 from (kp_s eσ7)); have : (0 : Int32).toInt = 0 := (by decide); have : (1 : Int32).toInt = 1 := (by decide); have : (40 : Int32).toInt = 40 := (by decide); omega) (by have := (iz385).1; have := (iz385).2; have : (σ7.1 385 a1).toInt = ((σ.1 385 a1) : Int32).toInt := congrArg Int32.toInt (show σ7.1 385 a1 = (σ.1 385 a1) from ((kp_i eσ7 (by decide)).trans ((kp_i eσ6 (by decide)).trans ((kp_i eσ5 (by decide)).trans ((kp_i eσ4 (by decide)).trans ((kp_i eσ3 (by decide)).trans ((kp_c p2_0 (by decide)).trans rfl))))))); have : (σ7.1 386 a1).toInt = ((σ1.1 386 a1) : Int32).toInt := congrArg Int32.toInt (show σ7.1 386 a1 = (σ1.1 386 a1) from ((kp_i eσ7 (by decide)).trans ((kp_i eσ6 (by decide)).trans ((kp_i eσ5 (by decide)).trans ((kp_i eσ4 (by decide)).trans ((kp_i eσ3 (by decide)).trans rfl)))))); have : (σ7.1 387 a1).toInt = ((σ1.1 387 a1) : Int32).toInt := congrArg Int32.toInt (show σ7.1 387 a1 = (σ1.1 387 a1) from ((kp_i eσ7 (by decide)).trans ((kp_i eσ6 (by decide)).trans ((kp_i eσ5 (by decide)).trans ((kp_i eσ4 (by decide)).trans ((kp_i eσ3 (by decide)).trans rfl)))))); have : (σ7.1 259 a0).toInt = (0 : Int32).toInt := congrArg Int32.toInt (show σ7.1 259 a0 = 0 from ((kp_i eσ7 (by decide)).trans ((kp_i eσ6 (by decide)).trans ((kp_i eσ5 (by decide)).trans ((kp_i eσ4 (by decide)).trans (kp_s eσ3)))))); have : (σ7.1 261 a0).toInt = (0 : Int32).toInt := congrArg Int32.toInt (show σ7.1 261 a0 = 0 from ((kp_i eσ7 (by decide)).trans ((kp_i eσ6 (by decide)).trans ((kp_i eσ5 (by decide)).trans (kp_s eσ4))))); have : (σ7.1 263 a0).toInt = (0 : Int32).toInt := congrArg Int32.toInt (show σ7.1 263 a0 = 0 from ((kp_i eσ7 (by decide)).trans ((kp_i eσ6 (by decide)).trans (kp_s eσ5)))); have : (σ7.1 264 a0).toInt = (0 : Int32).toInt := congrArg Int32.toInt (show σ7.1 264 a0 = 0 from ((kp_i eσ7 (by decide)).trans (kp_s eσ6))); have : (σ7.1 265 a0).toInt = (1 : Int32).toInt := congrArg Int32.toInt (show σ7.1 265 a0 = 1 from (kp_s eσ7)); have : (0 : Int32).toInt = 0 := (by decide); have : (1 : Int32).toInt = 1 := (by decide); have : (40 : Int32).toInt = 40 := (by decide); omega) _ (lv_sub hl [1, 2, 0] rfl)
set_option maxHeartbeats 4000000 in
set_option maxRecDepth 100000 in
theorem c_X2_isThere (a0 : Nat) (ha0 : oA L τ a0 1) (a1 : Int32) (hz : HZ L τ σ) : oMet l A L τ cy D K yX2_isThere cX2_isThere 2 (some .boolean) 1 22 [.ref a0, .int a1] σ (va_Qi (fun r σ1 => σ1 = σ ∧ Iv r 0 0) (oPo A L τ cy D) A) := by
  refine oMk (by decide) (Nat.le_of_ble_eq_true rfl) rfl ?_
  intro p e s m args below meth c ls cx rx hA hw hl
  generalize hQ : MQ below _ args s 0 0 A = Q
  have hx := cx.1.1
  have hb := cx.1.2.1
  have hml := cx.1.2.2.1
  have hown := cx.1.2.2.2.1
  have hts := cx.1.2.2.2.2
  have hl : lv_has ls 2 [(0, .ref a0), (1, .int a1)] := hl
  refine lv_aload_n hx hb dX2_isThere_0 rfl (lv_at hl 0 rfl) ?_
  refine g_68 cx hw ha0 k_f_X2_44 dX2_isThere_1 (fun v1 e1 => ?_)
  refine lv_iload_n hx hb dX2_isThere_4 rfl (lv_at hl 1 rfl) ?_
  refine o_ci hw (oRunS cx hA hw q_X0_has k_m_X2_86 (As := [.long v1, .int a1]) (c_X0_has v1 a1) (by decide) rfl hl.1 rfl (Nat.le_of_ble_eq_true rfl) dX2_isThere_5 (by decide)) (fun v3 σ2 H locs hp hw => ?_)
  obtain ⟨p3_0, p3_1, p3_2, p3_3⟩ := hp
  rw [p3_0] at hw
  have i4 : Iv v3 0 0 := has_0 p3_3 p3_2 (e1.trans (hz a0 ha0).1)
  rw [← hQ]
  exact o_rz cx rx hw (iv_nz01 (iv_w i4 (by decide))) dX2_isThere_8 ⟨rfl, (iv_w i4 (by decide))⟩
set_option maxHeartbeats 4000000 in
set_option maxRecDepth 100000 in
theorem c_X2_openTo (a0 : Nat) (ha0 : oA L τ a0 1) (a1 : Int32) : oMet l A L τ cy D K yX2_openTo cX2_openTo 5 (some .long) 0 0 [.ref a0, .int a1] σ (va_Ql (fun r σ1 => σ1 = σ) (oPo A L τ cy D) A) := by
  refine oMk (by decide) (Nat.le_of_ble_eq_true rfl) rfl ?_
  intro p e s m args below meth c ls cx rx hA hw hl
  generalize hQ : MQ below _ args s 0 0 A = Q
  have hx := cx.1.1
  have hb := cx.1.2.1
  have hml := cx.1.2.2.1
  have hown := cx.1.2.2.2.1
  have hts := cx.1.2.2.2.2
  have hl : lv_has ls 5 [(0, .ref a0), (1, .int a1)] := hl
  refine lv_aload_n hx hb dX2_openTo_0 rfl (lv_at hl 0 rfl) ?_
  refine g_69 cx hw ha0 k_f_X2_48 dX2_openTo_1 (fun v1 e1 => ?_)
  refine lv_lstore_n (lv' := [(2, .long v1), (0, .ref a0), (1, .int a1)]) hx hb dX2_openTo_4 rfl hl (by decide) rfl (fun ls hl => ?_)
  refine lv_iconst (v := 0) hx hb dX2_openTo_5 (by decide) ?_
  refine lv_istore (lv' := [(4, .int 0), (2, .long v1), (0, .ref a0), (1, .int a1)]) hx hb dX2_openTo_6 hl (by decide) rfl (fun ls hl => ?_)
  have J_8 : ∀ n8 : Nat, ∀ (H : Heap) (locs : List Loc), oI A L τ cy D s.heap σ H locs → 0 < n8 → ∀ (ls : Array Slot), lv_has ls 5 [(0, .ref a0), (1, .int a1), (2, .long v1), (4, .int 0)] → W p l e ({ frames := 0, cells := 0, slots := 0, locals := 0 } : Room) s m args below meth c H locs 0 0 Q (F0 m 8 ls []) := by
    intro n8
    induction n8 with
    | zero => intro  H locs hw  hn_8   ls hl; exact absurd hn_8 (Nat.not_lt_zero _)
    | succ n8 ih_8 =>
      intro  H locs hw  hn_8   ls hl
      refine lv_iload hx hb dX2_openTo_8 (lv_at hl 3 rfl) ?_
      refine lv_aload_n hx hb dX2_openTo_10 rfl (lv_at hl 0 rfl) ?_
      refine g_66 cx hw ha0 k_f_X2_54 dX2_openTo_11 (fun v2 e2 i2 => ?_)
      refine lv_icmp_ge (tgt := 45) hx hb dX2_openTo_14 (by decide) (fun c3 => ?_) (fun c3 => ?_)
      · --
        refine lv_lload_n hx hb dX2_openTo_45 rfl (lv_at hl 2 rfl) ?_
        rw [← hQ]
        exact o_rl cx rx hw dX2_openTo_46 rfl
      · --
        exact iv_no (iv_lt1 (b' := (-1)) (iv_nle c3) (⟨by decide, by decide⟩ : Iv 0 0 0) i2 (by decide)) (by decide)
  exact J_8 _ _ _ hw (Nat.lt_succ_self _) _ (lv_sub hl [2, 3, 1, 0] rfl)
set_option maxHeartbeats 4000000 in
set_option maxRecDepth 100000 in
theorem c_X2_kindOf (a0 : Nat) (ha0 : oA L τ a0 1) (a1 : Int32) (a2 : Int32) : oMet l A L τ cy D K yX2_kindOf cX2_kindOf 3 (some .int) 1 24 [.ref a0, .int a1, .int a2] σ (va_Qi (fun r σ1 => σ1 = σ ∧ Iv r 0 3) (oPo A L τ cy D) A) := by
  refine oMk (by decide) (Nat.le_of_ble_eq_true rfl) rfl ?_
  intro p e s m args below meth c ls cx rx hA hw hl
  generalize hQ : MQ below _ args s 0 0 A = Q
  have hx := cx.1.1
  have hb := cx.1.2.1
  have hml := cx.1.2.2.1
  have hown := cx.1.2.2.2.1
  have hts := cx.1.2.2.2.2
  have hl : lv_has ls 3 [(0, .ref a0), (1, .int a1), (2, .int a2)] := hl
  refine lv_aload_n hx hb dX2_kindOf_0 rfl (lv_at hl 0 rfl) ?_
  refine g_69 cx hw ha0 k_f_X2_48 dX2_kindOf_1 (fun v1 e1 => ?_)
  refine lv_iload_n hx hb dX2_kindOf_4 rfl (lv_at hl 1 rfl) ?_
  refine o_ci hw (oRunS cx hA hw q_X0_has k_m_X2_86 (As := [.long v1, .int a1]) (c_X0_has v1 a1) (by decide) rfl hl.1 rfl (Nat.le_of_ble_eq_true rfl) dX2_kindOf_5 (by decide)) (fun v3 σ2 H locs hp hw => ?_)
  obtain ⟨p3_0, p3_1, p3_2, p3_3⟩ := hp
  rw [p3_0] at hw
  refine lv_if_eq (tgt := 13) hx hb dX2_kindOf_8 (by decide) (fun c4 => ?_) (fun c4 => ?_)
  · --
    have i5 : Iv v3 0 0 := iv_eq1 c4 p3_1 (⟨by decide, by decide⟩ : Iv 0 0 0) (by decide)
    refine lv_aload_n hx hb dX2_kindOf_13 rfl (lv_at hl 0 rfl) ?_
    refine g_70 cx hw ha0 k_f_X2_51 dX2_kindOf_14 (fun v6 e6 => ?_)
    refine lv_iload_n hx hb dX2_kindOf_17 rfl (lv_at hl 1 rfl) ?_
    refine o_ci hw (oRunS cx hA hw q_X0_has k_m_X2_86 (As := [.long v6, .int a1]) (c_X0_has v6 a1) (by decide) rfl hl.1 rfl (Nat.le_of_ble_eq_true rfl) dX2_kindOf_18 (by decide)) (fun v8 σ7 H locs hp hw => ?_)
    obtain ⟨p8_0, p8_1, p8_2, p8_3⟩ := hp
    rw [p8_0] at hw
    refine lv_if_eq (tgt := 26) hx hb dX2_kindOf_21 (by decide) (fun c9 => ?_) (fun c9 => ?_)
    · --
      have i10 : Iv v8 0 0 := iv_eq1 c9 p8_1 (⟨by decide, by decide⟩ : Iv 0 0 0) (by decide)
      refine lv_aload_n hx hb dX2_kindOf_26 rfl (lv_at hl 0 rfl) ?_
      refine lv_iload_n hx hb dX2_kindOf_27 rfl (lv_at hl 2 rfl) ?_
      refine o_cl hw (oRunV cx hA hw q_X2_openTo k_m_X2_90 rfl ha0 (by decide) (As := [.int a2]) (c_X2_openTo a0 ha0 a2) (by decide) rfl hl.1 rfl (Nat.le_of_ble_eq_true rfl) dX2_kindOf_28 (by decide)) (fun v12 σ11 H locs hp hw => ?_)
      have p12_0 := hp
      rw [p12_0] at hw
      refine lv_iload_n hx hb dX2_kindOf_31 rfl (lv_at hl 1 rfl) ?_
      refine o_ci hw (oRunS cx hA hw q_X0_has k_m_X2_86 (As := [.long v12, .int a1]) (c_X0_has v12 a1) (by decide) rfl hl.1 rfl (Nat.le_of_ble_eq_true rfl) dX2_kindOf_32 (by decide)) (fun v14 σ13 H locs hp hw => ?_)
      obtain ⟨p14_0, p14_1, p14_2, p14_3⟩ := hp
      rw [p14_0] at hw
      refine lv_if_eq (tgt := 42) hx hb dX2_kindOf_35 (by decide) (fun c15 => ?_) (fun c15 => ?_)
      · --
        have i16 : Iv v14 0 0 := iv_eq1 c15 p14_1 (⟨by decide, by decide⟩ : Iv 0 0 0) (by decide)
        refine lv_iconst (v := 2) hx hb dX2_kindOf_42 (by decide) ?_
        rw [← hQ]
        exact o_ri cx rx hw dX2_kindOf_43 ⟨rfl, (iv_w (⟨by decide, by decide⟩ : Iv 2 2 2) (by decide))⟩
      · --
        have i17 : Iv v14 1 1 := iv_ne1 c15 p14_1 (⟨by decide, by decide⟩ : Iv 0 0 0) (by decide)
        have i18 : Iv a1 0 63 := p14_2 c15
        refine lv_iconst (v := 3) hx hb dX2_kindOf_38 (by decide) ?_
        refine lv_goto (tgt := 43) hx hb dX2_kindOf_39 (by decide) ?_
        rw [← hQ]
        exact o_ri cx rx hw dX2_kindOf_43 ⟨rfl, (iv_w (⟨by decide, by decide⟩ : Iv 3 3 3) (by decide))⟩
    · --
      have i19 : Iv v8 1 1 := iv_ne1 c9 p8_1 (⟨by decide, by decide⟩ : Iv 0 0 0) (by decide)
      have i20 : Iv a1 0 63 := p8_2 c9
      refine lv_iconst (v := 1) hx hb dX2_kindOf_24 (by decide) ?_
      rw [← hQ]
      exact o_ri cx rx hw dX2_kindOf_25 ⟨rfl, (iv_w (⟨by decide, by decide⟩ : Iv 1 1 1) (by decide))⟩
  · --
    have i21 : Iv v3 1 1 := iv_ne1 c4 p3_1 (⟨by decide, by decide⟩ : Iv 0 0 0) (by decide)
    have i22 : Iv a1 0 63 := p3_2 c4
    refine lv_iconst (v := 0) hx hb dX2_kindOf_11 (by decide) ?_
    rw [← hQ]
    exact o_ri cx rx hw dX2_kindOf_12 ⟨rfl, (iv_w (⟨by decide, by decide⟩ : Iv 0 0 0) (by decide))⟩
set_option maxHeartbeats 4000000 in
set_option maxRecDepth 100000 in
theorem c_X6_isRoad (a0 : Nat) (ha0 : oA L τ a0 5) (a1 : Int32) (ia1 : Iv a1 0 63) (a2 : Int32) : oMet l A L τ cy D K yX6_isRoad cX6_isRoad 3 (some .boolean) 0 0 [.ref a0, .int a1, .int a2] σ (va_Qi (fun r σ1 => σ1 = σ ∧ Iv r 0 0) (oPo A L τ cy D) A) := by
  refine oMk (by decide) (Nat.le_of_ble_eq_true rfl) rfl ?_
  intro p e s m args below meth c ls cx rx hA hw hl
  generalize hQ : MQ below _ args s 0 0 A = Q
  have hx := cx.1.1
  have hb := cx.1.2.1
  have hml := cx.1.2.2.1
  have hown := cx.1.2.2.2.1
  have hts := cx.1.2.2.2.2
  have hl : lv_has ls 3 [(0, .ref a0), (1, .int a1), (2, .int a2)] := hl
  refine lv_aload_n hx hb dX6_isRoad_0 rfl (lv_at hl 0 rfl) ?_
  refine g_323 cx hw ha0 k_f_X6_21 dX6_isRoad_1 (fun v1 e1 h1 => ?_)
  refine lv_iload_n hx hb dX6_isRoad_4 rfl (lv_at hl 1 rfl) ?_
  refine o_iald cx hw h1 (by decide) rfl (iv_in ia1 (by decide)) dX6_isRoad_5 (fun v2 e2 b2 => ?_)
  have i2 : Iv v2 (-1) (-1) := b2 (vp_lt (iv_in ia1 (by decide)))
  refine lv_iconst (v := (-1)) hx hb dX6_isRoad_6 (by decide) ?_
  refine lv_icmp_eq (tgt := 29) hx hb dX6_isRoad_7 (by decide) (fun c3 => ?_) (fun c3 => ?_)
  · --
    refine lv_iconst (v := 0) hx hb dX6_isRoad_29 (by decide) ?_
    rw [← hQ]
    exact o_rz cx rx hw (iv_nz01 (iv_w (⟨by decide, by decide⟩ : Iv 0 0 0) (by decide))) dX6_isRoad_30 ⟨rfl, (iv_w (⟨by decide, by decide⟩ : Iv 0 0 0) (by decide))⟩
  · --
    exact iv_no (iv_ne1 c3 i2 (⟨by decide, by decide⟩ : Iv (-1) (-1) (-1)) (by decide)) (by decide)
set_option maxHeartbeats 4000000 in
set_option maxRecDepth 100000 in
theorem c_X6_herdsAt (a0 : Nat) (ha0 : oA L τ a0 5) (a1 : Int32) : oMet l A L τ cy D K yX6_herdsAt cX6_herdsAt 4 (some .int) 0 0 [.ref a0, .int a1] σ (va_Qi (fun r σ1 => σ1 = σ ∧ Iv r 0 0) (oPo A L τ cy D) A) := by
  refine oMk (by decide) (Nat.le_of_ble_eq_true rfl) rfl ?_
  intro p e s m args below meth c ls cx rx hA hw hl
  generalize hQ : MQ below _ args s 0 0 A = Q
  have hx := cx.1.1
  have hb := cx.1.2.1
  have hml := cx.1.2.2.1
  have hown := cx.1.2.2.2.1
  have hts := cx.1.2.2.2.2
  have hl : lv_has ls 4 [(0, .ref a0), (1, .int a1)] := hl
  refine lv_iconst (v := 0) hx hb dX6_herdsAt_0 (by decide) ?_
  refine lv_istore_n (lv' := [(2, .int 0), (0, .ref a0), (1, .int a1)]) hx hb dX6_herdsAt_1 rfl hl (by decide) rfl (fun ls hl => ?_)
  refine lv_iconst (v := 0) hx hb dX6_herdsAt_2 (by decide) ?_
  refine lv_istore_n (lv' := [(3, .int 0), (2, .int 0), (0, .ref a0), (1, .int a1)]) hx hb dX6_herdsAt_3 rfl hl (by decide) rfl (fun ls hl => ?_)
  have J_4 : ∀ n4 : Nat, ∀ (H : Heap) (locs : List Loc), oI A L τ cy D s.heap σ H locs → 0 < n4 → ∀ (ls : Array Slot), lv_has ls 4 [(0, .ref a0), (1, .int a1), (2, .int 0), (3, .int 0)] → W p l e ({ frames := 0, cells := 0, slots := 0, locals := 0 } : Room) s m args below meth c H locs 0 0 Q (F0 m 4 ls []) := by
    intro n4
    induction n4 with
    | zero => intro  H locs hw  hn_4   ls hl; exact absurd hn_4 (Nat.not_lt_zero _)
    | succ n4 ih_4 =>
      intro  H locs hw  hn_4   ls hl
      refine lv_iload_n hx hb dX6_herdsAt_4 rfl (lv_at hl 3 rfl) ?_
      refine lv_aload_n hx hb dX6_herdsAt_5 rfl (lv_at hl 0 rfl) ?_
      refine g_327 cx hw ha0 k_f_X6_39 dX6_herdsAt_6 (fun v1 e1 i1 => ?_)
      refine lv_icmp_ge (tgt := 34) hx hb dX6_herdsAt_9 (by decide) (fun c2 => ?_) (fun c2 => ?_)
      · --
        refine lv_iload_n hx hb dX6_herdsAt_34 rfl (lv_at hl 2 rfl) ?_
        rw [← hQ]
        exact o_ri cx rx hw dX6_herdsAt_35 ⟨rfl, (iv_w (⟨by decide, by decide⟩ : Iv 0 0 0) (by decide))⟩
      · --
        exact iv_no (iv_lt1 (b' := (-1)) (iv_nle c2) (⟨by decide, by decide⟩ : Iv 0 0 0) i1 (by decide)) (by decide)
  exact J_4 _ _ _ hw (Nat.lt_succ_self _) _ (lv_sub hl [2, 3, 1, 0] rfl)
set_option maxHeartbeats 4000000 in
set_option maxRecDepth 100000 in
theorem c_X6_hasHerd (a0 : Nat) (ha0 : oA L τ a0 5) (a1 : Int32) : oMet l A L τ cy D K yX6_hasHerd cX6_hasHerd 2 (some .boolean) 0 0 [.ref a0, .int a1] σ (va_Qi (fun r σ1 => σ1 = σ ∧ Iv r 0 0 ∧ (¬ r = 0 → Iv a1 0 5)) (oPo A L τ cy D) A) := by
  refine oMk (by decide) (Nat.le_of_ble_eq_true rfl) rfl ?_
  intro p e s m args below meth c ls cx rx hA hw hl
  generalize hQ : MQ below _ args s 0 0 A = Q
  have hx := cx.1.1
  have hb := cx.1.2.1
  have hml := cx.1.2.2.1
  have hown := cx.1.2.2.2.1
  have hts := cx.1.2.2.2.2
  have hl : lv_has ls 2 [(0, .ref a0), (1, .int a1)] := hl
  refine lv_iload_n hx hb dX6_hasHerd_0 rfl (lv_at hl 1 rfl) ?_
  refine lv_if_lt (tgt := 16) hx hb dX6_hasHerd_1 (by decide) (fun c1 => ?_) (fun c1 => ?_)
  · --
    have i2 : Iv a1 (-2147483648) (-1) := iv_lt1 c1 (iv_top a1) (⟨by decide, by decide⟩ : Iv 0 0 0) (by decide)
    refine lv_iconst (v := 0) hx hb dX6_hasHerd_16 (by decide) ?_
    rw [← hQ]
    exact o_rz cx rx hw (iv_nz01 (iv_w (⟨by decide, by decide⟩ : Iv 0 0 0) (by decide))) dX6_hasHerd_17 ⟨rfl, (iv_w (⟨by decide, by decide⟩ : Iv 0 0 0) (by decide)), (fun h => absurd rfl h)⟩
  · --
    have i3 : Iv a1 0 2147483647 := iv_le2 (iv_nlt c1) (⟨by decide, by decide⟩ : Iv 0 0 0) (iv_top a1) (by decide)
    refine lv_iload_n hx hb dX6_hasHerd_4 rfl (lv_at hl 1 rfl) ?_
    refine lv_aload_n hx hb dX6_hasHerd_5 rfl (lv_at hl 0 rfl) ?_
    refine g_327 cx hw ha0 k_f_X6_39 dX6_hasHerd_6 (fun v4 e4 i4 => ?_)
    refine lv_icmp_ge (tgt := 16) hx hb dX6_hasHerd_9 (by decide) (fun c5 => ?_) (fun c5 => ?_)
    · --
      refine lv_iconst (v := 0) hx hb dX6_hasHerd_16 (by decide) ?_
      rw [← hQ]
      exact o_rz cx rx hw (iv_nz01 (iv_w (⟨by decide, by decide⟩ : Iv 0 0 0) (by decide))) dX6_hasHerd_17 ⟨rfl, (iv_w (⟨by decide, by decide⟩ : Iv 0 0 0) (by decide)), (fun h => absurd rfl h)⟩
    · --
      exact iv_no (iv_lt1 (b' := (-1)) (iv_nle c5) i3 i4 (by decide)) (by decide)
set_option maxHeartbeats 4000000 in
set_option maxRecDepth 100000 in
theorem c_J6_bitCount_0f7a4 (a0 : Int32) : oMet l A L τ cy D K yJ6_bitCount_0f7a4 cJ6_bitCount_0f7a4 1 (some .int) 0 0 [.int a0] σ (va_Qi (fun r σ1 => σ1 = σ ∧ Iv r 0 63) (oPo A L τ cy D) A) := by
  refine oMk (by decide) (Nat.le_of_ble_eq_true rfl) rfl ?_
  intro p e s m args below meth c ls cx rx hA hw hl
  generalize hQ : MQ below _ args s 0 0 A = Q
  have hx := cx.1.1
  have hb := cx.1.2.1
  have hml := cx.1.2.2.1
  have hown := cx.1.2.2.2.1
  have hts := cx.1.2.2.2.2
  have hl : lv_has ls 1 [(0, .int a0)] := hl
  refine lv_iload_n hx hb dJ6_bitCount_0f7a4_0 rfl (lv_at hl 0 rfl) ?_
  refine lv_iload_n hx hb dJ6_bitCount_0f7a4_1 rfl (lv_at hl 0 rfl) ?_
  refine lv_iconst (v := 1) hx hb dJ6_bitCount_0f7a4_2 (by decide) ?_
  refine lv_iushr hx hb dJ6_bitCount_0f7a4_3 rfl ?_
  refine lv_topi (fun v1 e1 => ?_)
  refine lv_ldcw (v := 1431655765) hx hb hown (hts _ k_k_J6_265) dJ6_bitCount_0f7a4_4 ?_
  refine lv_iand hx hb dJ6_bitCount_0f7a4_7 ?_
  refine lv_topi (fun v2 e2 => ?_)
  have i2 : Iv v2 0 1431655765 := iv_and e2 (⟨by decide, by decide⟩ : Iv 1431655765 1431655765 1431655765) (by decide)
  refine lv_isub hx hb dJ6_bitCount_0f7a4_8 ?_
  refine lv_topi (fun v3 e3 => ?_)
  refine lv_istore_n (lv' := [(0, .int v3)]) hx hb dJ6_bitCount_0f7a4_9 rfl hl (by decide) rfl (fun ls hl => ?_)
  refine lv_iload_n hx hb dJ6_bitCount_0f7a4_10 rfl (lv_at hl 0 rfl) ?_
  refine lv_ldcw (v := 858993459) hx hb hown (hts _ k_k_J6_266) dJ6_bitCount_0f7a4_11 ?_
  refine lv_iand hx hb dJ6_bitCount_0f7a4_14 ?_
  refine lv_topi (fun v4 e4 => ?_)
  have i4 : Iv v4 0 858993459 := iv_and e4 (⟨by decide, by decide⟩ : Iv 858993459 858993459 858993459) (by decide)
  refine lv_iload_n hx hb dJ6_bitCount_0f7a4_15 rfl (lv_at hl 0 rfl) ?_
  refine lv_iconst (v := 2) hx hb dJ6_bitCount_0f7a4_16 (by decide) ?_
  refine lv_iushr hx hb dJ6_bitCount_0f7a4_17 rfl ?_
  refine lv_topi (fun v5 e5 => ?_)
  refine lv_ldcw (v := 858993459) hx hb hown (hts _ k_k_J6_266) dJ6_bitCount_0f7a4_18 ?_
  refine lv_iand hx hb dJ6_bitCount_0f7a4_21 ?_
  refine lv_topi (fun v6 e6 => ?_)
  have i6 : Iv v6 0 858993459 := iv_and e6 (⟨by decide, by decide⟩ : Iv 858993459 858993459 858993459) (by decide)
  refine lv_iadd hx hb dJ6_bitCount_0f7a4_22 ?_
  refine lv_topi (fun v7 e7 => ?_)
  have i7 : Iv v7 0 1717986918 := iv_add e7 i4 i6 (by decide)
  have x7 : v7.toInt = v4.toInt + v6.toInt := ex_add e7 i4 i6 (by decide)
  refine lv_istore_n (lv' := [(0, .int v7)]) hx hb dJ6_bitCount_0f7a4_23 rfl hl (by decide) rfl (fun ls hl => ?_)
  refine lv_iload_n hx hb dJ6_bitCount_0f7a4_24 rfl (lv_at hl 0 rfl) ?_
  refine lv_iload_n hx hb dJ6_bitCount_0f7a4_25 rfl (lv_at hl 0 rfl) ?_
  refine lv_iconst (v := 4) hx hb dJ6_bitCount_0f7a4_26 (by decide) ?_
  refine lv_iushr hx hb dJ6_bitCount_0f7a4_27 rfl ?_
  refine lv_topi (fun v8 e8 => ?_)
  refine lv_iadd hx hb dJ6_bitCount_0f7a4_28 ?_
  refine lv_topi (fun v9 e9 => ?_)
  refine lv_ldcw (v := 252645135) hx hb hown (hts _ k_k_J6_267) dJ6_bitCount_0f7a4_29 ?_
  refine lv_iand hx hb dJ6_bitCount_0f7a4_32 ?_
  refine lv_topi (fun v10 e10 => ?_)
  have i10 : Iv v10 0 252645135 := iv_and e10 (⟨by decide, by decide⟩ : Iv 252645135 252645135 252645135) (by decide)
  refine lv_istore_n (lv' := [(0, .int v10)]) hx hb dJ6_bitCount_0f7a4_33 rfl hl (by decide) rfl (fun ls hl => ?_)
  refine lv_iload_n hx hb dJ6_bitCount_0f7a4_34 rfl (lv_at hl 0 rfl) ?_
  refine lv_iload_n hx hb dJ6_bitCount_0f7a4_35 rfl (lv_at hl 0 rfl) ?_
  refine lv_bipush (v := 8) hx hb dJ6_bitCount_0f7a4_36 (by decide) ?_
  refine lv_iushr hx hb dJ6_bitCount_0f7a4_38 rfl ?_
  refine lv_topi (fun v11 e11 => ?_)
  refine lv_iadd hx hb dJ6_bitCount_0f7a4_39 ?_
  refine lv_topi (fun v12 e12 => ?_)
  refine lv_istore_n (lv' := [(0, .int v12)]) hx hb dJ6_bitCount_0f7a4_40 rfl hl (by decide) rfl (fun ls hl => ?_)
  refine lv_iload_n hx hb dJ6_bitCount_0f7a4_41 rfl (lv_at hl 0 rfl) ?_
  refine lv_iload_n hx hb dJ6_bitCount_0f7a4_42 rfl (lv_at hl 0 rfl) ?_
  refine lv_bipush (v := 16) hx hb dJ6_bitCount_0f7a4_43 (by decide) ?_
  refine lv_iushr hx hb dJ6_bitCount_0f7a4_45 rfl ?_
  refine lv_topi (fun v13 e13 => ?_)
  have i13 : Iv v13 0 65535 := iv_ushr16 e13
  refine lv_iadd hx hb dJ6_bitCount_0f7a4_46 ?_
  refine lv_topi (fun v14 e14 => ?_)
  refine lv_istore_n (lv' := [(0, .int v14)]) hx hb dJ6_bitCount_0f7a4_47 rfl hl (by decide) rfl (fun ls hl => ?_)
  refine lv_iload_n hx hb dJ6_bitCount_0f7a4_48 rfl (lv_at hl 0 rfl) ?_
  refine lv_bipush (v := 63) hx hb dJ6_bitCount_0f7a4_49 (by decide) ?_
  refine lv_iand hx hb dJ6_bitCount_0f7a4_51 ?_
  refine lv_topi (fun v15 e15 => ?_)
  have i15 : Iv v15 0 63 := iv_and e15 (⟨by decide, by decide⟩ : Iv 63 63 63) (by decide)
  rw [← hQ]
  exact o_ri cx rx hw dJ6_bitCount_0f7a4_52 ⟨rfl, (iv_w i15 (by decide))⟩
abbrev fs_X5_reckon : List Nat := []
abbrev ts_X5_reckon : List Nat := [37]
set_option maxHeartbeats 4000000 in
set_option maxRecDepth 100000 in
theorem c_X5_reckon (a0 : Nat) (ha0 : oA L τ a0 4) (a1 : Nat) (ha1 : oA L τ a1 38) : oMet l A L τ cy D K yX5_reckon cX5_reckon 7 (some .int) 0 0 [.ref a0, .ref a1] σ (va_Qi (fun r σ1 => oFr τ fs_X5_reckon ts_X5_reckon σ σ1) (oPo A L τ cy D) A) := by
  refine oMk (by decide) (Nat.le_of_ble_eq_true rfl) rfl ?_
  intro p e s m args below meth c ls cx rx hA hw hl
  generalize hQ : MQ below _ args s 0 0 A = Q
  have hx := cx.1.1
  have hb := cx.1.2.1
  have hml := cx.1.2.2.1
  have hown := cx.1.2.2.2.1
  have hts := cx.1.2.2.2.2
  have hl : lv_has ls 7 [(0, .ref a0), (1, .ref a1)] := hl
  have fr : oFr τ fs_X5_reckon ts_X5_reckon σ σ := oFr_rf
  refine lv_iconst (v := 0) hx hb dX5_reckon_0 (by decide) ?_
  refine lv_istore_n (lv' := [(2, .int 0), (0, .ref a0), (1, .ref a1)]) hx hb dX5_reckon_1 rfl hl (by decide) rfl (fun ls hl => ?_)
  refine lv_aload_n hx hb dX5_reckon_2 rfl (lv_at hl 1 rfl) ?_
  refine g_262 cx hw ha0 k_f_X5_21 dX5_reckon_3 (fun v1 e1 h1 => ?_)
  refine lv_iconst (v := 0) hx hb dX5_reckon_6 (by decide) ?_
  refine lv_iconst (v := 0) hx hb dX5_reckon_7 (by decide) ?_
  refine o_iast cx hw h1 (by decide) rfl (iv_in (⟨by decide, by decide⟩ : Iv 0 0 0) (by decide)) trivial dX5_reckon_8 (fun σ2 H locs eσ2 hw => ?_)
  have fr := oFr_p fr eσ2 h1 (by decide)
  refine lv_iconst (v := 0) hx hb dX5_reckon_9 (by decide) ?_
  refine lv_istore_n (lv' := [(3, .int 0), (2, .int 0), (0, .ref a0), (1, .ref a1)]) hx hb dX5_reckon_10 rfl hl (by decide) rfl (fun ls hl => ?_)
  have frE_11 := fr
  have J_11 : ∀ n11 : Nat, ∀ (j11_2 : Int32) (ij11_2 : Iv j11_2 0 40) (j11_3 : Int32) (ij11_3 : Iv j11_3 0 40), ∀ (σ_11 : oSt) (H : Heap) (locs : List Loc), oI A L τ cy D s.heap σ_11 H locs → oFr τ fs_X5_reckon ts_X5_reckon σ σ_11 → (40 - j11_3.toInt).toNat < n11 → j11_2.toInt ≤ j11_3.toInt + 0 → ∀ (ls : Array Slot), lv_has ls 7 [(0, .ref a0), (1, .ref a1), (2, .int j11_2), (3, .int j11_3)] → W p l e ({ frames := 0, cells := 0, slots := 0, locals := 0 } : Room) s m args below meth c H locs 0 0 Q (F0 m 11 ls []) := by
    intro n11
    induction n11 with
    | zero => intro j11_2 ij11_2 j11_3 ij11_3 σ_11 H locs hw fr   hn_11   le11_0 ls hl; exact absurd hn_11 (Nat.not_lt_zero _)
    | succ n11 ih_11 =>
      intro j11_2 ij11_2 j11_3 ij11_3 σ_11 H locs hw fr   hn_11   le11_0 ls hl
      have fr_11 := fr
      refine lv_iload_n hx hb dX5_reckon_11 rfl (lv_at hl 3 rfl) ?_
      refine lv_aload_n hx hb dX5_reckon_12 rfl (lv_at hl 0 rfl) ?_
      refine g_257 cx hw ha0 k_f_X5_60 dX5_reckon_13 (fun v3 e3 i3 => ?_)
      refine lv_icmp_ge (tgt := 329) hx hb dX5_reckon_16 (by decide) (fun c4 => ?_) (fun c4 => ?_)
      · --
        refine lv_aload_n hx hb dX5_reckon_329 rfl (lv_at hl 0 rfl) ?_
        refine g_262 cx hw ha0 k_f_X5_21 dX5_reckon_330 (fun v5 e5 h5 => ?_)
        rw [show v5 = v1 from Option.some.inj (e5.symm.trans (((kr_c fr_11 (by decide)).trans ((kr_c frE_11 (by decide)).symm.trans (((kr_p eσ2).trans e1))))))]
        refine lv_iconst (v := 0) hx hb dX5_reckon_333 (by decide) ?_
        refine o_iald cx hw h1 (by decide) rfl (iv_in (⟨by decide, by decide⟩ : Iv 0 0 0) (by decide)) dX5_reckon_334 (fun v6 e6 b6 => ?_)
        rw [← hQ]
        exact o_ri cx rx hw dX5_reckon_335 fr
      · --
        have i7 : Iv j11_3 0 39 := iv_lt1 (iv_nle c4) ij11_3 i3 (by decide)
        have i8 : Iv j11_2 0 39 := iv_leh le11_0 ij11_2 i7 (by decide)
        have i9 : Iv v3 1 40 := iv_lt2 (iv_nle c4) ij11_3 i3 (by decide)
        refine lv_aload_n hx hb dX5_reckon_19 rfl (lv_at hl 0 rfl) ?_
        refine g_256 cx hw ha0 k_f_X5_9 dX5_reckon_20 (fun v10 e10 h10 => ?_)
        refine lv_iload_n hx hb dX5_reckon_23 rfl (lv_at hl 3 rfl) ?_
        refine o_iald cx hw h10 (by decide) rfl (iv_in i7 (by decide)) dX5_reckon_24 (fun v11 e11 b11 => ?_)
        refine lv_istore (lv' := [(4, .int v11), (0, .ref a0), (1, .ref a1), (2, .int j11_2), (3, .int j11_3)]) hx hb dX5_reckon_25 hl (by decide) rfl (fun ls hl => ?_)
        refine lv_iload hx hb dX5_reckon_27 (lv_at hl 0 rfl) ?_
        refine lv_aload_n hx hb dX5_reckon_29 rfl (lv_at hl 2 rfl) ?_
        refine o_alen (v := 9) cx hw ha1 (by decide) rfl (by decide) dX5_reckon_30 ?_
        have frE_323 := fr
        have J_323 : ∀ (j323_2 : Int32) (ij323_2 : Iv j323_2 0 40), ∀ (σ_323 : oSt) (H : Heap) (locs : List Loc), oI A L τ cy D s.heap σ_323 H locs → oFr τ fs_X5_reckon ts_X5_reckon σ σ_323 → j323_2.toInt ≤ j11_3.toInt + 1 → ∀ (ls : Array Slot), lv_has ls 7 [(0, .ref a0), (1, .ref a1), (2, .int j323_2), (3, .int j11_3), (4, .int v11)] → W p l e ({ frames := 0, cells := 0, slots := 0, locals := 0 } : Room) s m args below meth c H locs 0 0 Q (F0 m 323 ls []) := by
          intro j323_2 ij323_2 σ_323 H locs hw fr      le323_0 ls hl
          have fr_323 := fr
          obtain ⟨v12, e12⟩ : ∃ y : Int32, y = j11_3 + 1 := ⟨_, rfl⟩
          have i12 : Iv v12 1 40 := iv_add e12 i7 (⟨by decide, by decide⟩ : Iv 1 1 1) (by decide)
          have x12 : v12.toInt = j11_3.toInt + 1 := ex_add e12 i7 (⟨by decide, by decide⟩ : Iv 1 1 1) (by decide)
          refine lv_iinc (v := v12) (lv' := [(3, .int v12), (0, .ref a0), (1, .ref a1), (2, .int j323_2), (4, .int v11)]) hx hb dX5_reckon_323 hl (k := 3) rfl (by rw [e12]; rfl) (by decide) rfl (fun ls hl => ?_)
          refine lv_goto (tgt := 11) hx hb dX5_reckon_326 (by decide) ?_
          exact ih_11 j323_2 ij323_2 v12 (iv_w i12 (by decide)) σ_323 _ _ hw fr (ms_up x12 (by decide) (iv_w (a' := 0) (b' := 40) i12 (by decide)).2 hn_11) (le_lin (Int.add_zero _).symm x12 le323_0 (by decide)) _ (lv_sub hl [1, 2, 3, 0] rfl)
        refine lv_icmp_gt (tgt := 63) hx hb dX5_reckon_31 (by decide) (fun c13 => ?_) (fun c13 => ?_)
        · --
          have i14 : Iv v11 10 2147483647 := iv_lt2 c13 (⟨by decide, by decide⟩ : Iv 9 9 9) (iv_top v11) (by decide)
          refine lv_iload hx hb dX5_reckon_63 (lv_at hl 0 rfl) ?_
          refine lv_sipush (v := 256) hx hb dX5_reckon_65 (by decide) ?_
          have J_96 : ∀ (H : Heap) (locs : List Loc), oI A L τ cy D s.heap σ_11 H locs → ∀ (ls : Array Slot), lv_has ls 7 [(0, .ref a0), (1, .ref a1), (2, .int j11_2), (3, .int j11_3), (4, .int v11)] → W p l e ({ frames := 0, cells := 0, slots := 0, locals := 0 } : Room) s m args below meth c H locs 0 0 Q (F0 m 96 ls []) := by
            intro  H locs hw     ls hl
            refine lv_iload_n hx hb dX5_reckon_96 rfl (lv_at hl 2 rfl) ?_
            refine lv_iconst (v := 2) hx hb dX5_reckon_97 (by decide) ?_
            refine lv_icmp_lt (tgt := 323) hx hb dX5_reckon_98 (by decide) (fun c15 => ?_) (fun c15 => ?_)
            · --
              have i16 : Iv j11_2 0 1 := iv_lt1 c15 i8 (⟨by decide, by decide⟩ : Iv 2 2 2) (by decide)
              exact J_323 j11_2 (iv_w i16 (by decide)) σ_11 _ _ hw fr (le_iv i16 i7 (by decide)) _ (lv_sub hl [0, 1, 2, 3, 4] rfl)
            · --
              have i17 : Iv j11_2 2 39 := iv_le2 (iv_nlt c15) (⟨by decide, by decide⟩ : Iv 2 2 2) i8 (by decide)
              have i18 : Iv j11_3 2 39 := iv_lel le11_0 i17 i7 (by decide)
              refine lv_aload_n hx hb dX5_reckon_101 rfl (lv_at hl 0 rfl) ?_
              refine g_262 cx hw ha0 k_f_X5_21 dX5_reckon_102 (fun v19 e19 h19 => ?_)
              rw [show v19 = v1 from Option.some.inj (e19.symm.trans (((kr_c fr_11 (by decide)).trans ((kr_c frE_11 (by decide)).symm.trans (((kr_p eσ2).trans e1))))))]
              refine lv_iload_n hx hb dX5_reckon_105 rfl (lv_at hl 2 rfl) ?_
              refine lv_iconst (v := 1) hx hb dX5_reckon_106 (by decide) ?_
              refine lv_isub hx hb dX5_reckon_107 ?_
              refine lv_topi (fun v20 e20 => ?_)
              have i20 : Iv v20 1 38 := iv_sub e20 i17 (⟨by decide, by decide⟩ : Iv 1 1 1) (by decide)
              have x20 : v20.toInt = j11_2.toInt + (-1) := ex_sub e20 i17 (⟨by decide, by decide⟩ : Iv 1 1 1) (by decide)
              refine o_iald cx hw h1 (by decide) rfl (iv_in i20 (by decide)) dX5_reckon_108 (fun v21 e21 b21 => ?_)
              refine lv_istore (lv' := [(5, .int v21), (0, .ref a0), (1, .ref a1), (2, .int j11_2), (3, .int j11_3), (4, .int v11)]) hx hb dX5_reckon_109 hl (by decide) rfl (fun ls hl => ?_)
              refine lv_aload_n hx hb dX5_reckon_111 rfl (lv_at hl 1 rfl) ?_
              refine g_262 cx hw ha0 k_f_X5_21 dX5_reckon_112 (fun v22 e22 h22 => ?_)
              rw [show v22 = v1 from Option.some.inj (e22.symm.trans (((kr_c fr_11 (by decide)).trans ((kr_c frE_11 (by decide)).symm.trans (((kr_p eσ2).trans e1))))))]
              refine lv_iload_n hx hb dX5_reckon_115 rfl (lv_at hl 3 rfl) ?_
              refine lv_iconst (v := 2) hx hb dX5_reckon_116 (by decide) ?_
              refine lv_isub hx hb dX5_reckon_117 ?_
              refine lv_topi (fun v23 e23 => ?_)
              have i23 : Iv v23 0 37 := iv_sub e23 i17 (⟨by decide, by decide⟩ : Iv 2 2 2) (by decide)
              have x23 : v23.toInt = j11_2.toInt + (-2) := ex_sub e23 i17 (⟨by decide, by decide⟩ : Iv 2 2 2) (by decide)
              refine o_iald cx hw h1 (by decide) rfl (iv_in i23 (by decide)) dX5_reckon_118 (fun v24 e24 b24 => ?_)
              refine lv_istore (lv' := [(6, .int v24), (5, .int v21), (0, .ref a0), (1, .ref a1), (2, .int j11_2), (3, .int j11_3), (4, .int v11)]) hx hb dX5_reckon_119 hl (by decide) rfl (fun ls hl => ?_)
              obtain ⟨v25, e25⟩ : ∃ y : Int32, y = j11_2 + (-1) := ⟨_, rfl⟩
              have i25 : Iv v25 1 38 := iv_add e25 i17 (⟨by decide, by decide⟩ : Iv (-1) (-1) (-1)) (by decide)
              have x25 : v25.toInt = j11_2.toInt + (-1) := ex_add e25 i17 (⟨by decide, by decide⟩ : Iv (-1) (-1) (-1)) (by decide)
              refine lv_iinc (v := v25) (lv' := [(2, .int v25), (6, .int v24), (5, .int v21), (0, .ref a0), (1, .ref a1), (3, .int j11_3), (4, .int v11)]) hx hb dX5_reckon_121 hl (k := 4) rfl (by rw [e25]; rfl) (by decide) rfl (fun ls hl => ?_)
              refine lv_iload hx hb dX5_reckon_124 (lv_at hl 6 rfl) ?_
              by_cases q26 : v11 = 42
              · --
                refine lv_lookup (off := 159) (tgt := 285) hx hb dX5_reckon_126 (by decide) (by rw [q26] <;> decide) (by decide) ?_
                have i27 : Iv v11 42 42 := iv_eq1 q26 i14 (⟨by decide, by decide⟩ : Iv 42 42 42) (by decide)
                refine lv_aload_n hx hb dX5_reckon_285 rfl (lv_at hl 3 rfl) ?_
                refine g_262 cx hw ha0 k_f_X5_21 dX5_reckon_286 (fun v28 e28 h28 => ?_)
                rw [show v28 = v1 from Option.some.inj (e28.symm.trans (((kr_c fr_11 (by decide)).trans ((kr_c frE_11 (by decide)).symm.trans (((kr_p eσ2).trans e1))))))]
                refine lv_iload_n hx hb dX5_reckon_289 rfl (lv_at hl 0 rfl) ?_
                refine lv_iconst (v := 1) hx hb dX5_reckon_290 (by decide) ?_
                refine lv_isub hx hb dX5_reckon_291 ?_
                refine lv_topi (fun v29 e29 => ?_)
                have i29 : Iv v29 0 37 := iv_sub e29 i25 (⟨by decide, by decide⟩ : Iv 1 1 1) (by decide)
                have x29 : v29.toInt = v25.toInt + (-1) := ex_sub e29 i25 (⟨by decide, by decide⟩ : Iv 1 1 1) (by decide)
                refine lv_iload hx hb dX5_reckon_292 (lv_at hl 1 rfl) ?_
                refine lv_iload hx hb dX5_reckon_294 (lv_at hl 2 rfl) ?_
                refine lv_imul hx hb dX5_reckon_296 ?_
                refine lv_topi (fun v30 e30 => ?_)
                refine o_iast cx hw h1 (by decide) rfl (iv_in i29 (by decide)) trivial dX5_reckon_297 (fun σ31 H locs eσ31 hw => ?_)
                have fr := oFr_p fr eσ31 h1 (by decide)
                refine lv_goto (tgt := 323) hx hb dX5_reckon_298 (by decide) ?_
                exact J_323 v25 (iv_w i25 (by decide)) σ31 _ _ hw fr (le_lin x25 (Int.add_zero _).symm le11_0 (by decide)) _ (lv_sub hl [3, 4, 0, 5, 6] rfl)
              by_cases q32 : v11 = 43
              · --
                refine lv_lookup (off := 127) (tgt := 253) hx hb dX5_reckon_126 (by decide) (by rw [q32] <;> decide) (by decide) ?_
                have i33 : Iv v11 43 43 := iv_eq1 q32 i14 (⟨by decide, by decide⟩ : Iv 43 43 43) (by decide)
                refine lv_aload_n hx hb dX5_reckon_253 rfl (lv_at hl 3 rfl) ?_
                refine g_262 cx hw ha0 k_f_X5_21 dX5_reckon_254 (fun v34 e34 h34 => ?_)
                rw [show v34 = v1 from Option.some.inj (e34.symm.trans (((kr_c fr_11 (by decide)).trans ((kr_c frE_11 (by decide)).symm.trans (((kr_p eσ2).trans e1))))))]
                refine lv_iload_n hx hb dX5_reckon_257 rfl (lv_at hl 0 rfl) ?_
                refine lv_iconst (v := 1) hx hb dX5_reckon_258 (by decide) ?_
                refine lv_isub hx hb dX5_reckon_259 ?_
                refine lv_topi (fun v35 e35 => ?_)
                have i35 : Iv v35 0 37 := iv_sub e35 i25 (⟨by decide, by decide⟩ : Iv 1 1 1) (by decide)
                have x35 : v35.toInt = v25.toInt + (-1) := ex_sub e35 i25 (⟨by decide, by decide⟩ : Iv 1 1 1) (by decide)
                refine lv_iload hx hb dX5_reckon_260 (lv_at hl 1 rfl) ?_
                refine lv_iload hx hb dX5_reckon_262 (lv_at hl 2 rfl) ?_
                refine lv_iadd hx hb dX5_reckon_264 ?_
                refine lv_topi (fun v36 e36 => ?_)
                refine o_iast cx hw h1 (by decide) rfl (iv_in i35 (by decide)) trivial dX5_reckon_265 (fun σ37 H locs eσ37 hw => ?_)
                have fr := oFr_p fr eσ37 h1 (by decide)
                refine lv_goto (tgt := 323) hx hb dX5_reckon_266 (by decide) ?_
                exact J_323 v25 (iv_w i25 (by decide)) σ37 _ _ hw fr (le_lin x25 (Int.add_zero _).symm le11_0 (by decide)) _ (lv_sub hl [3, 4, 0, 5, 6] rfl)
              by_cases q38 : v11 = 45
              · --
                refine lv_lookup (off := 143) (tgt := 269) hx hb dX5_reckon_126 (by decide) (by rw [q38] <;> decide) (by decide) ?_
                have i39 : Iv v11 45 45 := iv_eq1 q38 i14 (⟨by decide, by decide⟩ : Iv 45 45 45) (by decide)
                refine lv_aload_n hx hb dX5_reckon_269 rfl (lv_at hl 3 rfl) ?_
                refine g_262 cx hw ha0 k_f_X5_21 dX5_reckon_270 (fun v40 e40 h40 => ?_)
                rw [show v40 = v1 from Option.some.inj (e40.symm.trans (((kr_c fr_11 (by decide)).trans ((kr_c frE_11 (by decide)).symm.trans (((kr_p eσ2).trans e1))))))]
                refine lv_iload_n hx hb dX5_reckon_273 rfl (lv_at hl 0 rfl) ?_
                refine lv_iconst (v := 1) hx hb dX5_reckon_274 (by decide) ?_
                refine lv_isub hx hb dX5_reckon_275 ?_
                refine lv_topi (fun v41 e41 => ?_)
                have i41 : Iv v41 0 37 := iv_sub e41 i25 (⟨by decide, by decide⟩ : Iv 1 1 1) (by decide)
                have x41 : v41.toInt = v25.toInt + (-1) := ex_sub e41 i25 (⟨by decide, by decide⟩ : Iv 1 1 1) (by decide)
                refine lv_iload hx hb dX5_reckon_276 (lv_at hl 1 rfl) ?_
                refine lv_iload hx hb dX5_reckon_278 (lv_at hl 2 rfl) ?_
                refine lv_isub hx hb dX5_reckon_280 ?_
                refine lv_topi (fun v42 e42 => ?_)
                refine o_iast cx hw h1 (by decide) rfl (iv_in i41 (by decide)) trivial dX5_reckon_281 (fun σ43 H locs eσ43 hw => ?_)
                have fr := oFr_p fr eσ43 h1 (by decide)
                refine lv_goto (tgt := 323) hx hb dX5_reckon_282 (by decide) ?_
                exact J_323 v25 (iv_w i25 (by decide)) σ43 _ _ hw fr (le_lin x25 (Int.add_zero _).symm le11_0 (by decide)) _ (lv_sub hl [3, 4, 0, 5, 6] rfl)
              by_cases q44 : v11 = 60
              · --
                refine lv_lookup (off := 58) (tgt := 184) hx hb dX5_reckon_126 (by decide) (by rw [q44] <;> decide) (by decide) ?_
                have i45 : Iv v11 60 60 := iv_eq1 q44 i14 (⟨by decide, by decide⟩ : Iv 60 60 60) (by decide)
                refine lv_aload_n hx hb dX5_reckon_184 rfl (lv_at hl 3 rfl) ?_
                refine g_262 cx hw ha0 k_f_X5_21 dX5_reckon_185 (fun v46 e46 h46 => ?_)
                rw [show v46 = v1 from Option.some.inj (e46.symm.trans (((kr_c fr_11 (by decide)).trans ((kr_c frE_11 (by decide)).symm.trans (((kr_p eσ2).trans e1))))))]
                refine lv_iload_n hx hb dX5_reckon_188 rfl (lv_at hl 0 rfl) ?_
                refine lv_iconst (v := 1) hx hb dX5_reckon_189 (by decide) ?_
                refine lv_isub hx hb dX5_reckon_190 ?_
                refine lv_topi (fun v47 e47 => ?_)
                have i47 : Iv v47 0 37 := iv_sub e47 i25 (⟨by decide, by decide⟩ : Iv 1 1 1) (by decide)
                have x47 : v47.toInt = v25.toInt + (-1) := ex_sub e47 i25 (⟨by decide, by decide⟩ : Iv 1 1 1) (by decide)
                refine lv_iload hx hb dX5_reckon_191 (lv_at hl 1 rfl) ?_
                refine lv_iload hx hb dX5_reckon_193 (lv_at hl 2 rfl) ?_
                have J_203 : ∀ (k203_2 : Int32) (ik203_2 : Iv k203_2 0 1), ∀ (H : Heap) (locs : List Loc), oI A L τ cy D s.heap σ_11 H locs → ∀ (ls : Array Slot), lv_has ls 7 [(0, .ref a0), (1, .ref a1), (2, .int v25), (3, .int j11_3), (4, .int v11), (5, .int v21), (6, .int v24)] → W p l e ({ frames := 0, cells := 0, slots := 0, locals := 0 } : Room) s m args below meth c H locs 0 0 Q (F0 m 203 ls [.int k203_2, .int v47, .ref v1]) := by
                  intro k203_2 ik203_2 H locs hw     ls hl
                  refine o_iast cx hw h1 (by decide) rfl (iv_in i47 (by decide)) trivial dX5_reckon_203 (fun σ48 H locs eσ48 hw => ?_)
                  have fr := oFr_p fr eσ48 h1 (by decide)
                  refine lv_goto (tgt := 323) hx hb dX5_reckon_204 (by decide) ?_
                  exact J_323 v25 (iv_w i25 (by decide)) σ48 _ _ hw fr (le_lin x25 (Int.add_zero _).symm le11_0 (by decide)) _ (lv_sub hl [0, 1, 2, 3, 4] rfl)
                refine lv_icmp_ge (tgt := 202) hx hb dX5_reckon_195 (by decide) (fun c49 => ?_) (fun c49 => ?_)
                · --
                  refine lv_iconst (v := 0) hx hb dX5_reckon_202 (by decide) ?_
                  exact J_203 0 (iv_w (⟨by decide, by decide⟩ : Iv 0 0 0) (by decide)) _ _ hw _ (lv_sub hl [3, 4, 0, 5, 6, 2, 1] rfl)
                · --
                  have i50 : Iv v24 (-2147483648) 2147483646 := iv_lt1 (iv_nle c49) (iv_top v24) (iv_top v21) (by decide)
                  have i51 : Iv v21 (-2147483647) 2147483647 := iv_lt2 (iv_nle c49) (iv_top v24) (iv_top v21) (by decide)
                  refine lv_iconst (v := 1) hx hb dX5_reckon_198 (by decide) ?_
                  refine lv_goto (tgt := 203) hx hb dX5_reckon_199 (by decide) ?_
                  exact J_203 1 (iv_w (⟨by decide, by decide⟩ : Iv 1 1 1) (by decide)) _ _ hw _ (lv_sub hl [3, 4, 0, 5, 6, 2, 1] rfl)
              by_cases q52 : v11 = 61
              · --
                refine lv_lookup (off := 104) (tgt := 230) hx hb dX5_reckon_126 (by decide) (by rw [q52] <;> decide) (by decide) ?_
                have i53 : Iv v11 61 61 := iv_eq1 q52 i14 (⟨by decide, by decide⟩ : Iv 61 61 61) (by decide)
                refine lv_aload_n hx hb dX5_reckon_230 rfl (lv_at hl 3 rfl) ?_
                refine g_262 cx hw ha0 k_f_X5_21 dX5_reckon_231 (fun v54 e54 h54 => ?_)
                rw [show v54 = v1 from Option.some.inj (e54.symm.trans (((kr_c fr_11 (by decide)).trans ((kr_c frE_11 (by decide)).symm.trans (((kr_p eσ2).trans e1))))))]
                refine lv_iload_n hx hb dX5_reckon_234 rfl (lv_at hl 0 rfl) ?_
                refine lv_iconst (v := 1) hx hb dX5_reckon_235 (by decide) ?_
                refine lv_isub hx hb dX5_reckon_236 ?_
                refine lv_topi (fun v55 e55 => ?_)
                have i55 : Iv v55 0 37 := iv_sub e55 i25 (⟨by decide, by decide⟩ : Iv 1 1 1) (by decide)
                have x55 : v55.toInt = v25.toInt + (-1) := ex_sub e55 i25 (⟨by decide, by decide⟩ : Iv 1 1 1) (by decide)
                refine lv_iload hx hb dX5_reckon_237 (lv_at hl 1 rfl) ?_
                refine lv_iload hx hb dX5_reckon_239 (lv_at hl 2 rfl) ?_
                have J_249 : ∀ (k249_2 : Int32) (ik249_2 : Iv k249_2 0 1), ∀ (H : Heap) (locs : List Loc), oI A L τ cy D s.heap σ_11 H locs → ∀ (ls : Array Slot), lv_has ls 7 [(0, .ref a0), (1, .ref a1), (2, .int v25), (3, .int j11_3), (4, .int v11), (5, .int v21), (6, .int v24)] → W p l e ({ frames := 0, cells := 0, slots := 0, locals := 0 } : Room) s m args below meth c H locs 0 0 Q (F0 m 249 ls [.int k249_2, .int v55, .ref v1]) := by
                  intro k249_2 ik249_2 H locs hw     ls hl
                  refine o_iast cx hw h1 (by decide) rfl (iv_in i55 (by decide)) trivial dX5_reckon_249 (fun σ56 H locs eσ56 hw => ?_)
                  have fr := oFr_p fr eσ56 h1 (by decide)
                  refine lv_goto (tgt := 323) hx hb dX5_reckon_250 (by decide) ?_
                  exact J_323 v25 (iv_w i25 (by decide)) σ56 _ _ hw fr (le_lin x25 (Int.add_zero _).symm le11_0 (by decide)) _ (lv_sub hl [0, 1, 2, 3, 4] rfl)
                refine lv_icmp_ne (tgt := 248) hx hb dX5_reckon_241 (by decide) (fun c57 => ?_) (fun c57 => ?_)
                · --
                  refine lv_iconst (v := 0) hx hb dX5_reckon_248 (by decide) ?_
                  exact J_249 0 (iv_w (⟨by decide, by decide⟩ : Iv 0 0 0) (by decide)) _ _ hw _ (lv_sub hl [3, 4, 0, 5, 6, 2, 1] rfl)
                · --
                  refine lv_iconst (v := 1) hx hb dX5_reckon_244 (by decide) ?_
                  refine lv_goto (tgt := 249) hx hb dX5_reckon_245 (by decide) ?_
                  exact J_249 1 (iv_w (⟨by decide, by decide⟩ : Iv 1 1 1) (by decide)) _ _ hw _ (lv_sub hl [3, 4, 0, 5, 6, 2, 1] rfl)
              by_cases q58 : v11 = 62
              · --
                refine lv_lookup (off := 81) (tgt := 207) hx hb dX5_reckon_126 (by decide) (by rw [q58] <;> decide) (by decide) ?_
                have i59 : Iv v11 62 62 := iv_eq1 q58 i14 (⟨by decide, by decide⟩ : Iv 62 62 62) (by decide)
                refine lv_aload_n hx hb dX5_reckon_207 rfl (lv_at hl 3 rfl) ?_
                refine g_262 cx hw ha0 k_f_X5_21 dX5_reckon_208 (fun v60 e60 h60 => ?_)
                rw [show v60 = v1 from Option.some.inj (e60.symm.trans (((kr_c fr_11 (by decide)).trans ((kr_c frE_11 (by decide)).symm.trans (((kr_p eσ2).trans e1))))))]
                refine lv_iload_n hx hb dX5_reckon_211 rfl (lv_at hl 0 rfl) ?_
                refine lv_iconst (v := 1) hx hb dX5_reckon_212 (by decide) ?_
                refine lv_isub hx hb dX5_reckon_213 ?_
                refine lv_topi (fun v61 e61 => ?_)
                have i61 : Iv v61 0 37 := iv_sub e61 i25 (⟨by decide, by decide⟩ : Iv 1 1 1) (by decide)
                have x61 : v61.toInt = v25.toInt + (-1) := ex_sub e61 i25 (⟨by decide, by decide⟩ : Iv 1 1 1) (by decide)
                refine lv_iload hx hb dX5_reckon_214 (lv_at hl 1 rfl) ?_
                refine lv_iload hx hb dX5_reckon_216 (lv_at hl 2 rfl) ?_
                have J_226 : ∀ (k226_2 : Int32) (ik226_2 : Iv k226_2 0 1), ∀ (H : Heap) (locs : List Loc), oI A L τ cy D s.heap σ_11 H locs → ∀ (ls : Array Slot), lv_has ls 7 [(0, .ref a0), (1, .ref a1), (2, .int v25), (3, .int j11_3), (4, .int v11), (5, .int v21), (6, .int v24)] → W p l e ({ frames := 0, cells := 0, slots := 0, locals := 0 } : Room) s m args below meth c H locs 0 0 Q (F0 m 226 ls [.int k226_2, .int v61, .ref v1]) := by
                  intro k226_2 ik226_2 H locs hw     ls hl
                  refine o_iast cx hw h1 (by decide) rfl (iv_in i61 (by decide)) trivial dX5_reckon_226 (fun σ62 H locs eσ62 hw => ?_)
                  have fr := oFr_p fr eσ62 h1 (by decide)
                  refine lv_goto (tgt := 323) hx hb dX5_reckon_227 (by decide) ?_
                  exact J_323 v25 (iv_w i25 (by decide)) σ62 _ _ hw fr (le_lin x25 (Int.add_zero _).symm le11_0 (by decide)) _ (lv_sub hl [0, 1, 2, 3, 4] rfl)
                refine lv_icmp_le (tgt := 225) hx hb dX5_reckon_218 (by decide) (fun c63 => ?_) (fun c63 => ?_)
                · --
                  refine lv_iconst (v := 0) hx hb dX5_reckon_225 (by decide) ?_
                  exact J_226 0 (iv_w (⟨by decide, by decide⟩ : Iv 0 0 0) (by decide)) _ _ hw _ (lv_sub hl [3, 4, 0, 5, 6, 2, 1] rfl)
                · --
                  have i64 : Iv v21 (-2147483648) 2147483646 := iv_lt1 (iv_nle c63) (iv_top v21) (iv_top v24) (by decide)
                  have i65 : Iv v24 (-2147483647) 2147483647 := iv_lt2 (iv_nle c63) (iv_top v21) (iv_top v24) (by decide)
                  refine lv_iconst (v := 1) hx hb dX5_reckon_221 (by decide) ?_
                  refine lv_goto (tgt := 226) hx hb dX5_reckon_222 (by decide) ?_
                  exact J_226 1 (iv_w (⟨by decide, by decide⟩ : Iv 1 1 1) (by decide)) _ _ hw _ (lv_sub hl [3, 4, 0, 5, 6, 2, 1] rfl)
              have q26 := iv_nt q26 (k := 42) (by decide)
              have q32 := iv_nt q32 (k := 43) (by decide)
              have q38 := iv_nt q38 (k := 45) (by decide)
              have q44 := iv_nt q44 (k := 60) (by decide)
              have q52 := iv_nt q52 (k := 61) (by decide)
              have q58 := iv_nt q58 (k := 62) (by decide)
              refine lv_lookup (off := 175) (tgt := 301) hx hb dX5_reckon_126 (by decide) (by simp [Op.lookupswitch.offset, q26, Ne.symm q26, q32, Ne.symm q32, q38, Ne.symm q38, q44, Ne.symm q44, q52, Ne.symm q52, q58, Ne.symm q58]) (by decide) ?_
              refine lv_aload_n hx hb dX5_reckon_301 rfl (lv_at hl 3 rfl) ?_
              refine g_262 cx hw ha0 k_f_X5_21 dX5_reckon_302 (fun v66 e66 h66 => ?_)
              rw [show v66 = v1 from Option.some.inj (e66.symm.trans (((kr_c fr_11 (by decide)).trans ((kr_c frE_11 (by decide)).symm.trans (((kr_p eσ2).trans e1))))))]
              refine lv_iload_n hx hb dX5_reckon_305 rfl (lv_at hl 0 rfl) ?_
              refine lv_iconst (v := 1) hx hb dX5_reckon_306 (by decide) ?_
              refine lv_isub hx hb dX5_reckon_307 ?_
              refine lv_topi (fun v67 e67 => ?_)
              have i67 : Iv v67 0 37 := iv_sub e67 i25 (⟨by decide, by decide⟩ : Iv 1 1 1) (by decide)
              have x67 : v67.toInt = v25.toInt + (-1) := ex_sub e67 i25 (⟨by decide, by decide⟩ : Iv 1 1 1) (by decide)
              refine lv_iload hx hb dX5_reckon_308 (lv_at hl 2 rfl) ?_
              have J_322 : ∀ (k322_2 : Int32), ∀ (H : Heap) (locs : List Loc), oI A L τ cy D s.heap σ_11 H locs → ∀ (ls : Array Slot), lv_has ls 7 [(0, .ref a0), (1, .ref a1), (2, .int v25), (3, .int j11_3), (4, .int v11), (5, .int v21), (6, .int v24)] → W p l e ({ frames := 0, cells := 0, slots := 0, locals := 0 } : Room) s m args below meth c H locs 0 0 Q (F0 m 322 ls [.int k322_2, .int v67, .ref v1]) := by
                intro k322_2 H locs hw     ls hl
                refine o_iast cx hw h1 (by decide) rfl (iv_in i67 (by decide)) trivial dX5_reckon_322 (fun σ68 H locs eσ68 hw => ?_)
                have fr := oFr_p fr eσ68 h1 (by decide)
                exact J_323 v25 (iv_w i25 (by decide)) σ68 _ _ hw fr (le_lin x25 (Int.add_zero _).symm le11_0 (by decide)) _ (lv_sub hl [0, 1, 2, 3, 4] rfl)
              refine lv_if_ne (tgt := 317) hx hb dX5_reckon_310 (by decide) (fun c69 => ?_) (fun c69 => ?_)
              · --
                refine lv_iload hx hb dX5_reckon_317 (lv_at hl 1 rfl) ?_
                refine lv_iload hx hb dX5_reckon_319 (lv_at hl 2 rfl) ?_
                refine lv_idiv hx hb dX5_reckon_321 c69 ?_
                refine lv_topi (fun v70 e70 => ?_)
                exact J_322 v70 _ _ hw _ (lv_sub hl [3, 4, 0, 5, 6, 2, 1] rfl)
              · --
                have i71 : Iv v21 0 0 := iv_eq1 c69 (iv_top v21) (⟨by decide, by decide⟩ : Iv 0 0 0) (by decide)
                refine lv_iconst (v := 0) hx hb dX5_reckon_313 (by decide) ?_
                refine lv_goto (tgt := 322) hx hb dX5_reckon_314 (by decide) ?_
                exact J_322 0 _ _ hw _ (lv_sub hl [3, 4, 0, 5, 6, 2, 1] rfl)
          refine lv_icmp_ne (tgt := 96) hx hb dX5_reckon_68 (by decide) (fun c72 => ?_) (fun c72 => ?_)
          · --
            exact J_96 _ _ hw _ (lv_sub hl [1, 2, 3, 4, 0] rfl)
          · --
            have i73 : Iv v11 256 256 := iv_eq1 c72 i14 (⟨by decide, by decide⟩ : Iv 256 256 256) (by decide)
            refine lv_iload_n hx hb dX5_reckon_71 rfl (lv_at hl 3 rfl) ?_
            refine lv_iconst (v := 1) hx hb dX5_reckon_72 (by decide) ?_
            refine lv_icmp_lt (tgt := 96) hx hb dX5_reckon_73 (by decide) (fun c74 => ?_) (fun c74 => ?_)
            · --
              have i75 : Iv j11_2 0 0 := iv_lt1 c74 i8 (⟨by decide, by decide⟩ : Iv 1 1 1) (by decide)
              exact J_96 _ _ hw _ (lv_sub hl [1, 2, 3, 4, 0] rfl)
            · --
              have i76 : Iv j11_2 1 39 := iv_le2 (iv_nlt c74) (⟨by decide, by decide⟩ : Iv 1 1 1) i8 (by decide)
              have i77 : Iv j11_3 1 39 := iv_lel le11_0 i76 i7 (by decide)
              refine lv_aload_n hx hb dX5_reckon_76 rfl (lv_at hl 1 rfl) ?_
              refine g_262 cx hw ha0 k_f_X5_21 dX5_reckon_77 (fun v78 e78 h78 => ?_)
              rw [show v78 = v1 from Option.some.inj (e78.symm.trans (((kr_c fr_11 (by decide)).trans ((kr_c frE_11 (by decide)).symm.trans (((kr_p eσ2).trans e1))))))]
              refine lv_iload_n hx hb dX5_reckon_80 rfl (lv_at hl 3 rfl) ?_
              refine lv_iconst (v := 1) hx hb dX5_reckon_81 (by decide) ?_
              refine lv_isub hx hb dX5_reckon_82 ?_
              refine lv_topi (fun v79 e79 => ?_)
              have i79 : Iv v79 0 38 := iv_sub e79 i76 (⟨by decide, by decide⟩ : Iv 1 1 1) (by decide)
              have x79 : v79.toInt = j11_2.toInt + (-1) := ex_sub e79 i76 (⟨by decide, by decide⟩ : Iv 1 1 1) (by decide)
              refine lv_aload_n hx hb dX5_reckon_83 rfl (lv_at hl 1 rfl) ?_
              refine g_262 cx hw ha0 k_f_X5_21 dX5_reckon_84 (fun v80 e80 h80 => ?_)
              rw [show v80 = v1 from Option.some.inj (e80.symm.trans (((kr_c fr_11 (by decide)).trans ((kr_c frE_11 (by decide)).symm.trans (((kr_p eσ2).trans e1))))))]
              refine lv_iload_n hx hb dX5_reckon_87 rfl (lv_at hl 3 rfl) ?_
              refine lv_iconst (v := 1) hx hb dX5_reckon_88 (by decide) ?_
              refine lv_isub hx hb dX5_reckon_89 ?_
              refine lv_topi (fun v81 e81 => ?_)
              have i81 : Iv v81 0 38 := iv_sub e81 i76 (⟨by decide, by decide⟩ : Iv 1 1 1) (by decide)
              have x81 : v81.toInt = j11_2.toInt + (-1) := ex_sub e81 i76 (⟨by decide, by decide⟩ : Iv 1 1 1) (by decide)
              refine o_iald cx hw h1 (by decide) rfl (iv_in i81 (by decide)) dX5_reckon_90 (fun v82 e82 b82 => ?_)
              refine lv_ineg hx hb dX5_reckon_91 ?_
              refine lv_topi (fun v83 e83 => ?_)
              refine o_iast cx hw h1 (by decide) rfl (iv_in i79 (by decide)) trivial dX5_reckon_92 (fun σ84 H locs eσ84 hw => ?_)
              have fr := oFr_p fr eσ84 h1 (by decide)
              refine lv_goto (tgt := 323) hx hb dX5_reckon_93 (by decide) ?_
              exact J_323 j11_2 (iv_w i76 (by decide)) σ84 _ _ hw fr (le_lin (Int.add_zero _).symm (Int.add_zero _).symm le11_0 (by decide)) _ (lv_sub hl [1, 2, 3, 4, 0] rfl)
        · --
          have i85 : Iv v11 (-2147483648) 9 := iv_le1 (iv_nlt c13) (iv_top v11) (⟨by decide, by decide⟩ : Iv 9 9 9) (by decide)
          refine lv_aload_n hx hb dX5_reckon_34 rfl (lv_at hl 1 rfl) ?_
          refine g_262 cx hw ha0 k_f_X5_21 dX5_reckon_35 (fun v86 e86 h86 => ?_)
          rw [show v86 = v1 from Option.some.inj (e86.symm.trans (((kr_c fr_11 (by decide)).trans ((kr_c frE_11 (by decide)).symm.trans (((kr_p eσ2).trans e1))))))]
          refine lv_iload_n hx hb dX5_reckon_38 rfl (lv_at hl 3 rfl) ?_
          refine lv_iload hx hb dX5_reckon_39 (lv_at hl 0 rfl) ?_
          have J_56 : ∀ (k56_2 : Int32), ∀ (H : Heap) (locs : List Loc), oI A L τ cy D s.heap σ_11 H locs → ∀ (ls : Array Slot), lv_has ls 7 [(0, .ref a0), (1, .ref a1), (2, .int j11_2), (3, .int j11_3), (4, .int v11)] → W p l e ({ frames := 0, cells := 0, slots := 0, locals := 0 } : Room) s m args below meth c H locs 0 0 Q (F0 m 56 ls [.int k56_2, .int j11_2, .ref v1]) := by
            intro k56_2 H locs hw     ls hl
            refine o_iast cx hw h1 (by decide) rfl (iv_in i8 (by decide)) trivial dX5_reckon_56 (fun σ87 H locs eσ87 hw => ?_)
            have fr := oFr_p fr eσ87 h1 (by decide)
            obtain ⟨v88, e88⟩ : ∃ y : Int32, y = j11_2 + 1 := ⟨_, rfl⟩
            have i88 : Iv v88 1 40 := iv_add e88 i8 (⟨by decide, by decide⟩ : Iv 1 1 1) (by decide)
            have x88 : v88.toInt = j11_2.toInt + 1 := ex_add e88 i8 (⟨by decide, by decide⟩ : Iv 1 1 1) (by decide)
            refine lv_iinc (v := v88) (lv' := [(2, .int v88), (0, .ref a0), (1, .ref a1), (3, .int j11_3), (4, .int v11)]) hx hb dX5_reckon_57 hl (k := 2) rfl (by rw [e88]; rfl) (by decide) rfl (fun ls hl => ?_)
            refine lv_goto (tgt := 323) hx hb dX5_reckon_60 (by decide) ?_
            exact J_323 v88 (iv_w i88 (by decide)) σ87 _ _ hw fr (le_lin x88 (Int.add_zero _).symm le11_0 (by decide)) _ (lv_sub hl [1, 2, 0, 3, 4] rfl)
          refine lv_if_gt (tgt := 50) hx hb dX5_reckon_41 (by decide) (fun c89 => ?_) (fun c89 => ?_)
          · --
            have i90 : Iv v11 1 9 := iv_lt2 c89 (⟨by decide, by decide⟩ : Iv 0 0 0) i85 (by decide)
            refine lv_aload_n hx hb dX5_reckon_50 rfl (lv_at hl 2 rfl) ?_
            refine lv_iload hx hb dX5_reckon_51 (lv_at hl 0 rfl) ?_
            refine lv_iconst (v := 1) hx hb dX5_reckon_53 (by decide) ?_
            refine lv_isub hx hb dX5_reckon_54 ?_
            refine lv_topi (fun v91 e91 => ?_)
            have i91 : Iv v91 0 8 := iv_sub e91 i90 (⟨by decide, by decide⟩ : Iv 1 1 1) (by decide)
            have x91 : v91.toInt = v11.toInt + (-1) := ex_sub e91 i90 (⟨by decide, by decide⟩ : Iv 1 1 1) (by decide)
            refine o_iald cx hw ha1 (by decide) rfl (iv_in i91 (by decide)) dX5_reckon_55 (fun v92 e92 b92 => ?_)
            exact J_56 v92 _ _ hw _ (lv_sub hl [1, 2, 3, 4, 0] rfl)
          · --
            have i93 : Iv v11 (-2147483648) 0 := iv_le1 (iv_nlt c89) i85 (⟨by decide, by decide⟩ : Iv 0 0 0) (by decide)
            refine lv_iload hx hb dX5_reckon_44 (lv_at hl 0 rfl) ?_
            refine lv_ineg hx hb dX5_reckon_46 ?_
            refine lv_topi (fun v94 e94 => ?_)
            refine lv_goto (tgt := 56) hx hb dX5_reckon_47 (by decide) ?_
            exact J_56 v94 _ _ hw _ (lv_sub hl [1, 2, 3, 4, 0] rfl)
  exact J_11 _ 0 (iv_w (⟨by decide, by decide⟩ : Iv 0 0 0) (by decide)) 0 (iv_w (⟨by decide, by decide⟩ : Iv 0 0 0) (by decide)) σ2 _ _ hw fr (Nat.lt_succ_self _) (le_iv (⟨by decide, by decide⟩ : Iv 0 0 0) (⟨by decide, by decide⟩ : Iv 0 0 0) (by decide)) _ (lv_sub hl [2, 3, 1, 0] rfl)
abbrev fs_X9_weigh : List Nat := [517]
abbrev ts_X9_weigh : List Nat := [37, 38]
set_option maxHeartbeats 4000000 in
set_option maxRecDepth 100000 in
theorem c_X9_weigh (a0 : Nat) (ha0 : oA L τ a0 8) (a1 : Nat) (ha1 : oA L τ a1 5) (a2 : Int32) (ia2 : Iv a2 0 5) (a3 : Int32) (ia3 : Iv a3 0 63) : oMet l A L τ cy D K yX9_weigh cX9_weigh 4 (some .int) 1 26 [.ref a0, .ref a1, .int a2, .int a3] σ (va_Qi (fun r σ1 => oFr τ fs_X9_weigh ts_X9_weigh σ σ1) (oPo A L τ cy D) A) := by
  refine oMk (by decide) (Nat.le_of_ble_eq_true rfl) rfl ?_
  intro p e s m args below meth c ls cx rx hA hw hl
  generalize hQ : MQ below _ args s 0 0 A = Q
  have hx := cx.1.1
  have hb := cx.1.2.1
  have hml := cx.1.2.2.1
  have hown := cx.1.2.2.2.1
  have hts := cx.1.2.2.2.2
  have hl : lv_has ls 4 [(0, .ref a0), (1, .ref a1), (2, .int a2), (3, .int a3)] := hl
  have fr : oFr τ fs_X9_weigh ts_X9_weigh σ σ := oFr_rf
  refine lv_aload_n hx hb dX9_weigh_0 rfl (lv_at hl 0 rfl) ?_
  refine lv_dup hx hb dX9_weigh_1 rfl ?_
  refine g_517 cx hw ha0 k_f_X9_32 dX9_weigh_2 (fun v1 e1 => ?_)
  refine lv_iload_n hx hb dX9_weigh_5 rfl (lv_at hl 3 rfl) ?_
  refine o_cl hw (oRunS cx hA hw q_X0_bit k_m_X9_100 (As := [.int a3]) (c_X0_bit a3) (by decide) rfl hl.1 rfl (Nat.le_of_ble_eq_true rfl) dX9_weigh_6 (by decide)) (fun v3 σ2 H locs hp hw => ?_)
  have p3_0 := hp
  rw [p3_0] at hw
  refine lv_lor hx hb dX9_weigh_9 ?_
  refine lv_topl (fun v4 e4 => ?_)
  refine p_517 cx hw ha0 k_f_X9_32 dX9_weigh_10 (fun σ5 H locs eσ5 hw => ?_)
  have fr := oFr_l fr eσ5 (by decide)
  refine lv_aload_n hx hb dX9_weigh_13 rfl (lv_at hl 0 rfl) ?_
  refine g_516 cx hw ha0 k_f_X9_20 dX9_weigh_14 (fun v6 e6 h6 => ?_)
  refine lv_iconst (v := 0) hx hb dX9_weigh_17 (by decide) ?_
  refine lv_aload_n hx hb dX9_weigh_18 rfl (lv_at hl 1 rfl) ?_
  refine g_320 cx hw ha1 k_f_X9_103 dX9_weigh_19 (fun v7 e7 h7 => ?_)
  refine lv_iload_n hx hb dX9_weigh_22 rfl (lv_at hl 3 rfl) ?_
  refine o_iald cx hw h7 (by decide) rfl (iv_in ia3 (by decide)) dX9_weigh_23 (fun v8 e8 b8 => ?_)
  refine o_iast cx hw h6 (by decide) rfl (iv_in (⟨by decide, by decide⟩ : Iv 0 0 0) (by decide)) trivial dX9_weigh_24 (fun σ9 H locs eσ9 hw => ?_)
  have fr := oFr_p fr eσ9 h6 (by decide)
  refine lv_aload_n hx hb dX9_weigh_25 rfl (lv_at hl 0 rfl) ?_
  refine g_516 cx hw ha0 k_f_X9_20 dX9_weigh_26 (fun v10 e10 h10 => ?_)
  rw [show v10 = v6 from Option.some.inj (e10.symm.trans (((kr_p eσ9).trans e6)))]
  refine lv_iconst (v := 1) hx hb dX9_weigh_29 (by decide) ?_
  refine lv_aload_n hx hb dX9_weigh_30 rfl (lv_at hl 1 rfl) ?_
  refine g_321 cx hw ha1 k_f_X9_106 dX9_weigh_31 (fun v11 e11 h11 => ?_)
  refine lv_iload_n hx hb dX9_weigh_34 rfl (lv_at hl 3 rfl) ?_
  refine o_iald cx hw h11 (by decide) rfl (iv_in ia3 (by decide)) dX9_weigh_35 (fun v12 e12 b12 => ?_)
  refine o_iast cx hw h6 (by decide) rfl (iv_in (⟨by decide, by decide⟩ : Iv 1 1 1) (by decide)) trivial dX9_weigh_36 (fun σ13 H locs eσ13 hw => ?_)
  have fr := oFr_p fr eσ13 h6 (by decide)
  refine lv_aload_n hx hb dX9_weigh_37 rfl (lv_at hl 0 rfl) ?_
  refine g_516 cx hw ha0 k_f_X9_20 dX9_weigh_38 (fun v14 e14 h14 => ?_)
  rw [show v14 = v6 from Option.some.inj (e14.symm.trans (((kr_p eσ13).trans ((kr_p eσ9).trans e6))))]
  refine lv_iconst (v := 2) hx hb dX9_weigh_41 (by decide) ?_
  refine lv_aload_n hx hb dX9_weigh_42 rfl (lv_at hl 1 rfl) ?_
  refine g_322 cx hw ha1 k_f_X9_109 dX9_weigh_43 (fun v15 e15 h15 => ?_)
  refine lv_iload_n hx hb dX9_weigh_46 rfl (lv_at hl 3 rfl) ?_
  refine o_iald cx hw h15 (by decide) rfl (iv_in ia3 (by decide)) dX9_weigh_47 (fun v16 e16 b16 => ?_)
  refine o_iast cx hw h6 (by decide) rfl (iv_in (⟨by decide, by decide⟩ : Iv 2 2 2) (by decide)) trivial dX9_weigh_48 (fun σ17 H locs eσ17 hw => ?_)
  have fr := oFr_p fr eσ17 h6 (by decide)
  refine lv_aload_n hx hb dX9_weigh_49 rfl (lv_at hl 0 rfl) ?_
  refine g_516 cx hw ha0 k_f_X9_20 dX9_weigh_50 (fun v18 e18 h18 => ?_)
  rw [show v18 = v6 from Option.some.inj (e18.symm.trans (((kr_p eσ17).trans ((kr_p eσ13).trans ((kr_p eσ9).trans e6)))))]
  refine lv_iconst (v := 3) hx hb dX9_weigh_53 (by decide) ?_
  refine lv_aload_n hx hb dX9_weigh_54 rfl (lv_at hl 1 rfl) ?_
  refine lv_iload_n hx hb dX9_weigh_55 rfl (lv_at hl 3 rfl) ?_
  refine lv_aload_n hx hb dX9_weigh_56 rfl (lv_at hl 0 rfl) ?_
  refine g_514 cx hw ha0 k_f_X9_9 dX9_weigh_57 (fun v19 e19 => ?_)
  refine o_ci hw (oRunV cx hA hw q_X6_isRoad k_m_X9_112 rfl ha1 (by decide) (As := [.int a3, .int v19]) (c_X6_isRoad a1 ha1 a3 (iv_w ia3 (by decide)) v19) (by decide) rfl hl.1 rfl (Nat.le_of_ble_eq_true rfl) dX9_weigh_60 (by decide)) (fun v21 σ20 H locs hp hw => ?_)
  obtain ⟨p21_0, p21_1⟩ := hp
  rw [p21_0] at hw
  have J_71 : ∀ (k71_2 : Int32) (ik71_2 : Iv k71_2 0 0), ∀ (H : Heap) (locs : List Loc), oI A L τ cy D s.heap σ17 H locs → ∀ (ls : Array Slot), lv_has ls 4 [(0, .ref a0), (1, .ref a1), (2, .int a2), (3, .int a3)] → W p l e ({ frames := 1, cells := 0, slots := 0, locals := 26 } : Room) s m args below meth c H locs 0 0 Q (F0 m 71 ls [.int k71_2, .int 3, .ref v6]) := by
    intro k71_2 ik71_2 H locs hw     ls hl
    refine o_iast cx hw h6 (by decide) rfl (iv_in (⟨by decide, by decide⟩ : Iv 3 3 3) (by decide)) trivial dX9_weigh_71 (fun σ22 H locs eσ22 hw => ?_)
    have fr := oFr_p fr eσ22 h6 (by decide)
    refine lv_aload_n hx hb dX9_weigh_72 rfl (lv_at hl 0 rfl) ?_
    refine g_516 cx hw ha0 k_f_X9_20 dX9_weigh_73 (fun v23 e23 h23 => ?_)
    rw [show v23 = v6 from Option.some.inj (e23.symm.trans (((kr_p eσ22).trans ((kr_p eσ17).trans ((kr_p eσ13).trans ((kr_p eσ9).trans e6))))))]
    refine lv_iconst (v := 4) hx hb dX9_weigh_76 (by decide) ?_
    refine lv_aload_n hx hb dX9_weigh_77 rfl (lv_at hl 1 rfl) ?_
    refine g_325 cx hw ha1 k_f_X9_57 dX9_weigh_78 (fun v24 e24 h24 => ?_)
    refine lv_iload_n hx hb dX9_weigh_81 rfl (lv_at hl 2 rfl) ?_
    refine o_iald cx hw h24 (by decide) rfl (iv_in ia2 (by decide)) dX9_weigh_82 (fun v25 e25 b25 => ?_)
    have i25 : Iv v25 0 63 := b25
    refine lv_iload_n hx hb dX9_weigh_83 rfl (lv_at hl 3 rfl) ?_
    have J_92 : ∀ (k92_2 : Int32) (ik92_2 : Iv k92_2 0 1), ∀ (H : Heap) (locs : List Loc), oI A L τ cy D s.heap σ22 H locs → ∀ (ls : Array Slot), lv_has ls 4 [(0, .ref a0), (1, .ref a1), (2, .int a2), (3, .int a3)] → W p l e ({ frames := 1, cells := 0, slots := 0, locals := 26 } : Room) s m args below meth c H locs 0 0 Q (F0 m 92 ls [.int k92_2, .int 4, .ref v6]) := by
      intro k92_2 ik92_2 H locs hw     ls hl
      refine o_iast cx hw h6 (by decide) rfl (iv_in (⟨by decide, by decide⟩ : Iv 4 4 4) (by decide)) trivial dX9_weigh_92 (fun σ26 H locs eσ26 hw => ?_)
      have fr := oFr_p fr eσ26 h6 (by decide)
      refine lv_aload_n hx hb dX9_weigh_93 rfl (lv_at hl 0 rfl) ?_
      refine g_516 cx hw ha0 k_f_X9_20 dX9_weigh_94 (fun v27 e27 h27 => ?_)
      rw [show v27 = v6 from Option.some.inj (e27.symm.trans (((kr_p eσ26).trans ((kr_p eσ22).trans ((kr_p eσ17).trans ((kr_p eσ13).trans ((kr_p eσ9).trans e6)))))))]
      refine lv_iconst (v := 5) hx hb dX9_weigh_97 (by decide) ?_
      refine lv_aload_n hx hb dX9_weigh_98 rfl (lv_at hl 1 rfl) ?_
      refine lv_iload_n hx hb dX9_weigh_99 rfl (lv_at hl 3 rfl) ?_
      refine o_ci hw (oRunV cx hA hw q_X6_herdsAt k_m_X9_116 rfl ha1 (by decide) (As := [.int a3]) (c_X6_herdsAt a1 ha1 a3) (by decide) rfl hl.1 rfl (Nat.le_of_ble_eq_true rfl) dX9_weigh_100 (by decide)) (fun v29 σ28 H locs hp hw => ?_)
      obtain ⟨p29_0, p29_1⟩ := hp
      rw [p29_0] at hw
      refine lv_iconst (v := 1) hx hb dX9_weigh_103 (by decide) ?_
      refine lv_iload_n hx hb dX9_weigh_104 rfl (lv_at hl 2 rfl) ?_
      refine lv_ishl hx hb dX9_weigh_105 ?_
      refine lv_topi (fun v30 e30 => ?_)
      have i30 : Iv v30 1 32 := iv_shl1 e30 ia2 (by decide)
      refine lv_iconst (v := (-1)) hx hb dX9_weigh_106 (by decide) ?_
      refine lv_ixor hx hb dX9_weigh_107 ?_
      refine lv_topi (fun v31 e31 => ?_)
      refine lv_iand hx hb dX9_weigh_108 ?_
      refine lv_topi (fun v32 e32 => ?_)
      have i32 : Iv v32 0 0 := iv_and0 e32 p29_1
      refine o_ci hw (oRunS cx hA hw q_J6_bitCount_0f7a4 k_m_X9_120 (As := [.int v32]) (c_J6_bitCount_0f7a4 v32) (by decide) rfl hl.1 rfl (Nat.le_of_ble_eq_true rfl) dX9_weigh_109 (by decide)) (fun v34 σ33 H locs hp hw => ?_)
      obtain ⟨p34_0, p34_1⟩ := hp
      rw [p34_0] at hw
      refine o_iast cx hw h6 (by decide) rfl (iv_in (⟨by decide, by decide⟩ : Iv 5 5 5) (by decide)) trivial dX9_weigh_112 (fun σ35 H locs eσ35 hw => ?_)
      have fr := oFr_p fr eσ35 h6 (by decide)
      refine lv_aload_n hx hb dX9_weigh_113 rfl (lv_at hl 0 rfl) ?_
      refine g_516 cx hw ha0 k_f_X9_20 dX9_weigh_114 (fun v36 e36 h36 => ?_)
      rw [show v36 = v6 from Option.some.inj (e36.symm.trans (((kr_p eσ35).trans ((kr_p eσ26).trans ((kr_p eσ22).trans ((kr_p eσ17).trans ((kr_p eσ13).trans ((kr_p eσ9).trans e6))))))))]
      refine lv_bipush (v := 6) hx hb dX9_weigh_117 (by decide) ?_
      refine lv_aload_n hx hb dX9_weigh_119 rfl (lv_at hl 1 rfl) ?_
      refine g_326 cx hw ha1 k_f_X9_125 dX9_weigh_120 (fun v37 e37 h37 => ?_)
      refine lv_iload_n hx hb dX9_weigh_123 rfl (lv_at hl 2 rfl) ?_
      refine o_iald cx hw h37 (by decide) rfl (iv_in ia2 (by decide)) dX9_weigh_124 (fun v38 e38 b38 => ?_)
      refine o_iast cx hw h6 (by decide) rfl (iv_in (⟨by decide, by decide⟩ : Iv 6 6 6) (by decide)) trivial dX9_weigh_125 (fun σ39 H locs eσ39 hw => ?_)
      have fr := oFr_p fr eσ39 h6 (by decide)
      refine lv_aload_n hx hb dX9_weigh_126 rfl (lv_at hl 0 rfl) ?_
      refine g_516 cx hw ha0 k_f_X9_20 dX9_weigh_127 (fun v40 e40 h40 => ?_)
      rw [show v40 = v6 from Option.some.inj (e40.symm.trans (((kr_p eσ39).trans ((kr_p eσ35).trans ((kr_p eσ26).trans ((kr_p eσ22).trans ((kr_p eσ17).trans ((kr_p eσ13).trans ((kr_p eσ9).trans e6)))))))))]
      refine lv_bipush (v := 7) hx hb dX9_weigh_130 (by decide) ?_
      refine lv_iload_n hx hb dX9_weigh_132 rfl (lv_at hl 2 rfl) ?_
      refine o_iast cx hw h6 (by decide) rfl (iv_in (⟨by decide, by decide⟩ : Iv 7 7 7) (by decide)) trivial dX9_weigh_133 (fun σ41 H locs eσ41 hw => ?_)
      have fr := oFr_p fr eσ41 h6 (by decide)
      refine lv_aload_n hx hb dX9_weigh_134 rfl (lv_at hl 0 rfl) ?_
      refine g_516 cx hw ha0 k_f_X9_20 dX9_weigh_135 (fun v42 e42 h42 => ?_)
      rw [show v42 = v6 from Option.some.inj (e42.symm.trans (((kr_p eσ41).trans ((kr_p eσ39).trans ((kr_p eσ35).trans ((kr_p eσ26).trans ((kr_p eσ22).trans ((kr_p eσ17).trans ((kr_p eσ13).trans ((kr_p eσ9).trans e6))))))))))]
      refine lv_bipush (v := 8) hx hb dX9_weigh_138 (by decide) ?_
      refine lv_aload_n hx hb dX9_weigh_140 rfl (lv_at hl 1 rfl) ?_
      refine g_331 cx hw ha1 k_f_X9_51 dX9_weigh_141 (fun v43 e43 => ?_)
      refine o_iast cx hw h6 (by decide) rfl (iv_in (⟨by decide, by decide⟩ : Iv 8 8 8) (by decide)) trivial dX9_weigh_144 (fun σ44 H locs eσ44 hw => ?_)
      have fr := oFr_p fr eσ44 h6 (by decide)
      refine lv_aload_n hx hb dX9_weigh_145 rfl (lv_at hl 0 rfl) ?_
      refine g_513 cx hw ha0 k_f_X9_28 dX9_weigh_146 (fun v45 e45 h45 => ?_)
      refine lv_aload_n hx hb dX9_weigh_149 rfl (lv_at hl 0 rfl) ?_
      refine g_516 cx hw ha0 k_f_X9_20 dX9_weigh_150 (fun v46 e46 h46 => ?_)
      rw [show v46 = v6 from Option.some.inj (e46.symm.trans (((kr_p eσ44).trans ((kr_p eσ41).trans ((kr_p eσ39).trans ((kr_p eσ35).trans ((kr_p eσ26).trans ((kr_p eσ22).trans ((kr_p eσ17).trans ((kr_p eσ13).trans ((kr_p eσ9).trans e6)))))))))))]
      refine o_ci hw (oRunV cx hA hw q_X5_reckon k_m_X9_128 rfl h45 (by decide) (As := [.ref v6]) (c_X5_reckon v45 h45 v6 h6) (by decide) rfl hl.1 rfl (Nat.le_of_ble_eq_true rfl) dX9_weigh_153 (by decide)) (fun v48 σ47 H locs hp hw => ?_)
      have p48_0 := hp
      have fr := oFr_tr fr p48_0 (by decide)
      rw [← hQ]
      exact o_ri cx rx hw dX9_weigh_156 fr
    refine lv_icmp_ne (tgt := 91) hx hb dX9_weigh_84 (by decide) (fun c49 => ?_) (fun c49 => ?_)
    · --
      refine lv_iconst (v := 1) hx hb dX9_weigh_91 (by decide) ?_
      exact J_92 1 (iv_w (⟨by decide, by decide⟩ : Iv 1 1 1) (by decide)) _ _ hw _ (lv_sub hl [0, 1, 2, 3] rfl)
    · --
      refine lv_iconst (v := 0) hx hb dX9_weigh_87 (by decide) ?_
      refine lv_goto (tgt := 92) hx hb dX9_weigh_88 (by decide) ?_
      exact J_92 0 (iv_w (⟨by decide, by decide⟩ : Iv 0 0 0) (by decide)) _ _ hw _ (lv_sub hl [0, 1, 2, 3] rfl)
  refine lv_if_eq (tgt := 70) hx hb dX9_weigh_63 (by decide) (fun c50 => ?_) (fun c50 => ?_)
  · --
    refine lv_iconst (v := 0) hx hb dX9_weigh_70 (by decide) ?_
    exact J_71 0 (⟨by decide, by decide⟩ : Iv 0 0 0) _ _ hw _ (lv_sub hl [0, 1, 2, 3] rfl)
  · --
    exact iv_no (iv_ne1 c50 p21_1 (⟨by decide, by decide⟩ : Iv 0 0 0) (by decide)) (by decide)
set_option maxHeartbeats 4000000 in
set_option maxRecDepth 100000 in
theorem c_X0_next (a0 : Int32) (ia0 : Iv a0 0 63) (a1 : Int32) : oMet l A L τ cy D K yX0_next cX0_next 3 (some .int) 0 0 [.int a0, .int a1] σ (va_Qi (fun r σ1 => σ1 = σ ∧ Iv r (-1) 63) (oPo A L τ cy D) A) := by
  refine oMk (by decide) (Nat.le_of_ble_eq_true rfl) rfl ?_
  intro p e s m args below meth c ls cx rx hA hw hl
  generalize hQ : MQ below _ args s 0 0 A = Q
  have hx := cx.1.1
  have hb := cx.1.2.1
  have hml := cx.1.2.2.1
  have hown := cx.1.2.2.2.1
  have hts := cx.1.2.2.2.2
  have hl : lv_has ls 3 [(0, .int a0), (1, .int a1)] := hl
  refine lv_iload_n hx hb dX0_next_0 rfl (lv_at hl 0 rfl) ?_
  refine lv_bipush (v := 8) hx hb dX0_next_1 (by decide) ?_
  refine lv_irem hx hb dX0_next_3 (iv_nz (⟨by decide, by decide⟩ : Iv 8 8 8) (by decide)) ?_
  refine lv_topi (fun v1 e1 => ?_)
  have i1 : Iv v1 0 7 := iv_rem e1 ia0 (⟨by decide, by decide⟩ : Iv 8 8 8) (by decide)
  refine lv_istore_n (lv' := [(2, .int v1), (0, .int a0), (1, .int a1)]) hx hb dX0_next_4 rfl hl (by decide) rfl (fun ls hl => ?_)
  refine lv_iload_n hx hb dX0_next_5 rfl (lv_at hl 2 rfl) ?_
  by_cases q2 : a1 = 0
  · --
    refine lv_tableIn (tgt := 32) hx hb dX0_next_6 (by rw [q2]; decide) (by rw [q2]; decide) (by rw [q2]; rfl) (by decide) ?_
    have i3 : Iv a1 0 0 := iv_eq1 q2 (iv_top a1) (⟨by decide, by decide⟩ : Iv 0 0 0) (by decide)
    refine lv_iload_n hx hb dX0_next_32 rfl (lv_at hl 1 rfl) ?_
    refine lv_bipush (v := 8) hx hb dX0_next_33 (by decide) ?_
    refine lv_icmp_lt (tgt := 45) hx hb dX0_next_35 (by decide) (fun c4 => ?_) (fun c4 => ?_)
    · --
      have i5 : Iv a0 0 7 := iv_lt1 c4 ia0 (⟨by decide, by decide⟩ : Iv 8 8 8) (by decide)
      refine lv_iconst (v := (-1)) hx hb dX0_next_45 (by decide) ?_
      rw [← hQ]
      exact o_ri cx rx hw dX0_next_46 ⟨rfl, (iv_w (⟨by decide, by decide⟩ : Iv (-1) (-1) (-1)) (by decide))⟩
    · --
      have i6 : Iv a0 8 63 := iv_le2 (iv_nlt c4) (⟨by decide, by decide⟩ : Iv 8 8 8) ia0 (by decide)
      refine lv_iload_n hx hb dX0_next_38 rfl (lv_at hl 1 rfl) ?_
      refine lv_bipush (v := 8) hx hb dX0_next_39 (by decide) ?_
      refine lv_isub hx hb dX0_next_41 ?_
      refine lv_topi (fun v7 e7 => ?_)
      have i7 : Iv v7 0 55 := iv_sub e7 i6 (⟨by decide, by decide⟩ : Iv 8 8 8) (by decide)
      have x7 : v7.toInt = a0.toInt + (-8) := ex_sub e7 i6 (⟨by decide, by decide⟩ : Iv 8 8 8) (by decide)
      refine lv_goto (tgt := 46) hx hb dX0_next_42 (by decide) ?_
      rw [← hQ]
      exact o_ri cx rx hw dX0_next_46 ⟨rfl, (iv_w i7 (by decide))⟩
  by_cases q8 : a1 = 1
  · --
    refine lv_tableIn (tgt := 47) hx hb dX0_next_6 (by rw [q8]; decide) (by rw [q8]; decide) (by rw [q8]; rfl) (by decide) ?_
    have i9 : Iv a1 1 1 := iv_eq1 q8 (iv_top a1) (⟨by decide, by decide⟩ : Iv 1 1 1) (by decide)
    refine lv_iload_n hx hb dX0_next_47 rfl (lv_at hl 0 rfl) ?_
    refine lv_bipush (v := 7) hx hb dX0_next_48 (by decide) ?_
    refine lv_icmp_ge (tgt := 59) hx hb dX0_next_50 (by decide) (fun c10 => ?_) (fun c10 => ?_)
    · --
      have i11 : Iv v1 7 7 := iv_le2 c10 (⟨by decide, by decide⟩ : Iv 7 7 7) i1 (by decide)
      have i12 : Iv a0 1 63 := rem8_lo e1 ia0 i11 (by decide)
      refine lv_iconst (v := (-1)) hx hb dX0_next_59 (by decide) ?_
      rw [← hQ]
      exact o_ri cx rx hw dX0_next_60 ⟨rfl, (iv_w (⟨by decide, by decide⟩ : Iv (-1) (-1) (-1)) (by decide))⟩
    · --
      have i13 : Iv v1 0 6 := iv_lt1 (iv_nle c10) i1 (⟨by decide, by decide⟩ : Iv 7 7 7) (by decide)
      have i14 : Iv a0 0 62 := rem8_hi e1 ia0 i13 (by decide)
      refine lv_iload_n hx hb dX0_next_53 rfl (lv_at hl 1 rfl) ?_
      refine lv_iconst (v := 1) hx hb dX0_next_54 (by decide) ?_
      refine lv_iadd hx hb dX0_next_55 ?_
      refine lv_topi (fun v15 e15 => ?_)
      have i15 : Iv v15 1 63 := iv_add e15 i14 (⟨by decide, by decide⟩ : Iv 1 1 1) (by decide)
      have x15 : v15.toInt = a0.toInt + 1 := ex_add e15 i14 (⟨by decide, by decide⟩ : Iv 1 1 1) (by decide)
      refine lv_goto (tgt := 60) hx hb dX0_next_56 (by decide) ?_
      rw [← hQ]
      exact o_ri cx rx hw dX0_next_60 ⟨rfl, (iv_w i15 (by decide))⟩
  by_cases q16 : a1 = 2
  · --
    refine lv_tableIn (tgt := 61) hx hb dX0_next_6 (by rw [q16]; decide) (by rw [q16]; decide) (by rw [q16]; rfl) (by decide) ?_
    have i17 : Iv a1 2 2 := iv_eq1 q16 (iv_top a1) (⟨by decide, by decide⟩ : Iv 2 2 2) (by decide)
    refine lv_iload_n hx hb dX0_next_61 rfl (lv_at hl 1 rfl) ?_
    refine lv_bipush (v := 56) hx hb dX0_next_62 (by decide) ?_
    refine lv_icmp_ge (tgt := 74) hx hb dX0_next_64 (by decide) (fun c18 => ?_) (fun c18 => ?_)
    · --
      have i19 : Iv a0 56 63 := iv_le2 c18 (⟨by decide, by decide⟩ : Iv 56 56 56) ia0 (by decide)
      refine lv_iconst (v := (-1)) hx hb dX0_next_74 (by decide) ?_
      rw [← hQ]
      exact o_ri cx rx hw dX0_next_75 ⟨rfl, (iv_w (⟨by decide, by decide⟩ : Iv (-1) (-1) (-1)) (by decide))⟩
    · --
      have i20 : Iv a0 0 55 := iv_lt1 (iv_nle c18) ia0 (⟨by decide, by decide⟩ : Iv 56 56 56) (by decide)
      refine lv_iload_n hx hb dX0_next_67 rfl (lv_at hl 1 rfl) ?_
      refine lv_bipush (v := 8) hx hb dX0_next_68 (by decide) ?_
      refine lv_iadd hx hb dX0_next_70 ?_
      refine lv_topi (fun v21 e21 => ?_)
      have i21 : Iv v21 8 63 := iv_add e21 i20 (⟨by decide, by decide⟩ : Iv 8 8 8) (by decide)
      have x21 : v21.toInt = a0.toInt + 8 := ex_add e21 i20 (⟨by decide, by decide⟩ : Iv 8 8 8) (by decide)
      refine lv_goto (tgt := 75) hx hb dX0_next_71 (by decide) ?_
      rw [← hQ]
      exact o_ri cx rx hw dX0_next_75 ⟨rfl, (iv_w i21 (by decide))⟩
  have q2 := iv_nt q2 (k := 0) (by decide)
  have q8 := iv_nt q8 (k := 1) (by decide)
  have q16 := iv_nt q16 (k := 2) (by decide)
  refine lv_tableOut (tgt := 76) hx hb dX0_next_6 (by omega) (by decide) ?_
  refine lv_iload_n hx hb dX0_next_76 rfl (lv_at hl 0 rfl) ?_
  refine lv_if_le (tgt := 86) hx hb dX0_next_77 (by decide) (fun c22 => ?_) (fun c22 => ?_)
  · --
    have i23 : Iv v1 0 0 := iv_le1 c22 i1 (⟨by decide, by decide⟩ : Iv 0 0 0) (by decide)
    have i24 : Iv a0 0 62 := rem8_hi e1 ia0 i23 (by decide)
    refine lv_iconst (v := (-1)) hx hb dX0_next_86 (by decide) ?_
    rw [← hQ]
    exact o_ri cx rx hw dX0_next_87 ⟨rfl, (iv_w (⟨by decide, by decide⟩ : Iv (-1) (-1) (-1)) (by decide))⟩
  · --
    have i25 : Iv v1 1 7 := iv_lt2 (iv_nle c22) (⟨by decide, by decide⟩ : Iv 0 0 0) i1 (by decide)
    have i26 : Iv a0 1 63 := rem8_lo e1 ia0 i25 (by decide)
    refine lv_iload_n hx hb dX0_next_80 rfl (lv_at hl 1 rfl) ?_
    refine lv_iconst (v := 1) hx hb dX0_next_81 (by decide) ?_
    refine lv_isub hx hb dX0_next_82 ?_
    refine lv_topi (fun v27 e27 => ?_)
    have i27 : Iv v27 0 62 := iv_sub e27 i26 (⟨by decide, by decide⟩ : Iv 1 1 1) (by decide)
    have x27 : v27.toInt = a0.toInt + (-1) := ex_sub e27 i26 (⟨by decide, by decide⟩ : Iv 1 1 1) (by decide)
    refine lv_goto (tgt := 87) hx hb dX0_next_83 (by decide) ?_
    rw [← hQ]
    exact o_ri cx rx hw dX0_next_87 ⟨rfl, (iv_w i27 (by decide))⟩
abbrev fs_X9_choose : List Nat := [517]
abbrev ts_X9_choose : List Nat := [37, 38]
set_option maxHeartbeats 4000000 in
set_option maxRecDepth 100000 in
theorem c_X9_choose (a0 : Nat) (ha0 : oA L τ a0 8) (a1 : Nat) (ha1 : oA L τ a1 5) (a2 : Int32) (ia2 : Iv a2 0 5) (a3 : Int64) : oMet l A L τ cy D K yX9_choose cX9_choose 11 (some .int) 2 49 [.ref a0, .ref a1, .int a2, .long a3] σ (va_Qi (fun r σ1 => oFr τ fs_X9_choose ts_X9_choose σ σ1 ∧ Iv r 0 63) (oPo A L τ cy D) A) := by
  refine oMk (by decide) (Nat.le_of_ble_eq_true rfl) rfl ?_
  intro p e s m args below meth c ls cx rx hA hw hl
  generalize hQ : MQ below _ args s 0 0 A = Q
  have hx := cx.1.1
  have hb := cx.1.2.1
  have hml := cx.1.2.2.1
  have hown := cx.1.2.2.2.1
  have hts := cx.1.2.2.2.2
  have hl : lv_has ls 11 [(0, .ref a0), (1, .ref a1), (2, .int a2), (3, .long a3)] := hl
  have fr : oFr τ fs_X9_choose ts_X9_choose σ σ := oFr_rf
  refine lv_aload_n hx hb dX9_choose_0 rfl (lv_at hl 1 rfl) ?_
  refine g_325 cx hw ha1 k_f_X9_57 dX9_choose_1 (fun v1 e1 h1 => ?_)
  refine lv_iload_n hx hb dX9_choose_4 rfl (lv_at hl 2 rfl) ?_
  refine o_iald cx hw h1 (by decide) rfl (iv_in ia2 (by decide)) dX9_choose_5 (fun v2 e2 b2 => ?_)
  have i2 : Iv v2 0 63 := b2
  refine lv_istore (lv' := [(5, .int v2), (0, .ref a0), (1, .ref a1), (2, .int a2), (3, .long a3)]) hx hb dX9_choose_6 hl (by decide) rfl (fun ls hl => ?_)
  refine lv_aload_n hx hb dX9_choose_8 rfl (lv_at hl 2 rfl) ?_
  refine g_328 cx hw ha1 k_f_X9_83 dX9_choose_9 (fun v3 e3 => ?_)
  refine lv_iload_n hx hb dX9_choose_12 rfl (lv_at hl 3 rfl) ?_
  refine lv_ishr hx hb dX9_choose_13 ?_
  refine lv_topi (fun v4 e4 => ?_)
  refine lv_iconst (v := 1) hx hb dX9_choose_14 (by decide) ?_
  refine lv_iand hx hb dX9_choose_15 ?_
  refine lv_topi (fun v5 e5 => ?_)
  have i5 : Iv v5 0 1 := iv_and e5 (⟨by decide, by decide⟩ : Iv 1 1 1) (by decide)
  have J_31 : ∀ (H : Heap) (locs : List Loc), oI A L τ cy D s.heap σ H locs → ∀ (ls : Array Slot), lv_has ls 11 [(0, .ref a0), (1, .ref a1), (2, .int a2), (3, .long a3), (5, .int v2)] → W p l e ({ frames := 2, cells := 0, slots := 0, locals := 49 } : Room) s m args below meth c H locs 0 0 Q (F0 m 31 ls []) := by
    intro  H locs hw     ls hl
    refine lv_iload hx hb dX9_choose_31 (lv_at hl 4 rfl) ?_
    refine lv_istore (lv' := [(6, .int v2), (0, .ref a0), (1, .ref a1), (2, .int a2), (3, .long a3), (5, .int v2)]) hx hb dX9_choose_33 hl (by decide) rfl (fun ls hl => ?_)
    refine lv_aload_n hx hb dX9_choose_35 rfl (lv_at hl 1 rfl) ?_
    refine lv_aload_n hx hb dX9_choose_36 rfl (lv_at hl 2 rfl) ?_
    refine lv_iload_n hx hb dX9_choose_37 rfl (lv_at hl 3 rfl) ?_
    refine lv_iload hx hb dX9_choose_38 (lv_at hl 5 rfl) ?_
    refine o_ci hw (oRunV cx hA hw q_X9_weigh k_m_X9_86 rfl ha0 (by decide) (As := [.ref a1, .int a2, .int v2]) (c_X9_weigh a0 ha0 a1 ha1 a2 (iv_w ia2 (by decide)) v2 (iv_w i2 (by decide))) (by decide) rfl hl.1 rfl (Nat.le_of_ble_eq_true rfl) dX9_choose_40 (by decide)) (fun v7 σ6 H locs hp hw => ?_)
    have p7_0 := hp
    have fr := oFr_tr fr p7_0 (by decide)
    refine lv_istore (lv' := [(7, .int v7), (6, .int v2), (0, .ref a0), (1, .ref a1), (2, .int a2), (3, .long a3), (5, .int v2)]) hx hb dX9_choose_43 hl (by decide) rfl (fun ls hl => ?_)
    refine lv_iconst (v := 0) hx hb dX9_choose_45 (by decide) ?_
    refine lv_istore (lv' := [(8, .int 0), (7, .int v7), (6, .int v2), (0, .ref a0), (1, .ref a1), (2, .int a2), (3, .long a3), (5, .int v2)]) hx hb dX9_choose_46 hl (by decide) rfl (fun ls hl => ?_)
    have frE_48 := fr
    have J_48 : ∀ n48 : Nat, ∀ (j48_6 : Int32) (ij48_6 : Iv j48_6 0 63) (j48_7 : Int32) (j48_8 : Int32) (ij48_8 : Iv j48_8 0 4), ∀ (σ_48 : oSt) (H : Heap) (locs : List Loc), oI A L τ cy D s.heap σ_48 H locs → oFr τ fs_X9_choose ts_X9_choose σ σ_48 → (4 - j48_8.toInt).toNat < n48 → ∀ (ls : Array Slot), lv_has ls 11 [(0, .ref a0), (1, .ref a1), (2, .int a2), (3, .long a3), (5, .int v2), (6, .int j48_6), (7, .int j48_7), (8, .int j48_8)] → W p l e ({ frames := 2, cells := 0, slots := 0, locals := 49 } : Room) s m args below meth c H locs 0 0 Q (F0 m 48 ls []) := by
      intro n48
      induction n48 with
      | zero => intro j48_6 ij48_6 j48_7 j48_8 ij48_8 σ_48 H locs hw fr   hn_48   ls hl; exact absurd hn_48 (Nat.not_lt_zero _)
      | succ n48 ih_48 =>
        intro j48_6 ij48_6 j48_7 j48_8 ij48_8 σ_48 H locs hw fr   hn_48   ls hl
        have fr_48 := fr
        refine lv_iload hx hb dX9_choose_48 (lv_at hl 7 rfl) ?_
        refine lv_iconst (v := 3) hx hb dX9_choose_50 (by decide) ?_
        refine lv_icmp_gt (tgt := 103) hx hb dX9_choose_51 (by decide) (fun c8 => ?_) (fun c8 => ?_)
        · --
          have i9 : Iv j48_8 4 4 := iv_lt2 c8 (⟨by decide, by decide⟩ : Iv 3 3 3) ij48_8 (by decide)
          refine lv_iload hx hb dX9_choose_103 (lv_at hl 5 rfl) ?_
          rw [← hQ]
          exact o_ri cx rx hw dX9_choose_105 ⟨fr, (iv_w ij48_6 (by decide))⟩
        · --
          have i10 : Iv j48_8 0 3 := iv_le1 (iv_nlt c8) ij48_8 (⟨by decide, by decide⟩ : Iv 3 3 3) (by decide)
          refine lv_iload hx hb dX9_choose_54 (lv_at hl 4 rfl) ?_
          refine lv_iload hx hb dX9_choose_56 (lv_at hl 7 rfl) ?_
          refine o_ci hw (oRunS cx hA hw q_X0_next k_m_X9_92 (As := [.int v2, .int j48_8]) (c_X0_next v2 (iv_w i2 (by decide)) j48_8) (by decide) rfl hl.1 rfl (Nat.le_of_ble_eq_true rfl) dX9_choose_58 (by decide)) (fun v12 σ11 H locs hp hw => ?_)
          obtain ⟨p12_0, p12_1⟩ := hp
          rw [p12_0] at hw
          refine lv_istore (lv' := [(9, .int v12), (0, .ref a0), (1, .ref a1), (2, .int a2), (3, .long a3), (5, .int v2), (6, .int j48_6), (7, .int j48_7), (8, .int j48_8)]) hx hb dX9_choose_61 hl (by decide) rfl (fun ls hl => ?_)
          refine lv_lload_n hx hb dX9_choose_63 rfl (lv_at hl 4 rfl) ?_
          refine lv_iload hx hb dX9_choose_64 (lv_at hl 0 rfl) ?_
          refine o_ci hw (oRunS cx hA hw q_X0_has k_m_X9_96 (As := [.long a3, .int v12]) (c_X0_has a3 v12) (by decide) rfl hl.1 rfl (Nat.le_of_ble_eq_true rfl) dX9_choose_66 (by decide)) (fun v14 σ13 H locs hp hw => ?_)
          obtain ⟨p14_0, p14_1, p14_2, p14_3⟩ := hp
          rw [p14_0] at hw
          have frE_97 := fr
          have J_97 : ∀ (j97_6 : Int32) (ij97_6 : Iv j97_6 0 63) (j97_7 : Int32), ∀ (σ_97 : oSt) (H : Heap) (locs : List Loc), oI A L τ cy D s.heap σ_97 H locs → oFr τ fs_X9_choose ts_X9_choose σ σ_97 → ∀ (ls : Array Slot), lv_has ls 11 [(0, .ref a0), (1, .ref a1), (2, .int a2), (3, .long a3), (5, .int v2), (6, .int j97_6), (7, .int j97_7), (8, .int j48_8), (9, .int v12)] → W p l e ({ frames := 2, cells := 0, slots := 0, locals := 49 } : Room) s m args below meth c H locs 0 0 Q (F0 m 97 ls []) := by
            intro j97_6 ij97_6 j97_7 σ_97 H locs hw fr      ls hl
            have fr_97 := fr
            obtain ⟨v15, e15⟩ : ∃ y : Int32, y = j48_8 + 1 := ⟨_, rfl⟩
            have i15 : Iv v15 1 4 := iv_add e15 i10 (⟨by decide, by decide⟩ : Iv 1 1 1) (by decide)
            have x15 : v15.toInt = j48_8.toInt + 1 := ex_add e15 i10 (⟨by decide, by decide⟩ : Iv 1 1 1) (by decide)
            refine lv_iinc (v := v15) (lv' := [(8, .int v15), (0, .ref a0), (1, .ref a1), (2, .int a2), (3, .long a3), (5, .int v2), (6, .int j97_6), (7, .int j97_7), (9, .int v12)]) hx hb dX9_choose_97 hl (k := 7) rfl (by rw [e15]; rfl) (by decide) rfl (fun ls hl => ?_)
            refine lv_goto (tgt := 48) hx hb dX9_choose_100 (by decide) ?_
            exact ih_48 j97_6 ij97_6 j97_7 v15 (iv_w i15 (by decide)) σ_97 _ _ hw fr (ms_up x15 (by decide) (iv_w (a' := 0) (b' := 4) i15 (by decide)).2 hn_48) _ (lv_sub hl [1, 2, 3, 4, 5, 6, 7, 0] rfl)
          refine lv_if_eq (tgt := 97) hx hb dX9_choose_69 (by decide) (fun c16 => ?_) (fun c16 => ?_)
          · --
            have i17 : Iv v14 0 0 := iv_eq1 c16 p14_1 (⟨by decide, by decide⟩ : Iv 0 0 0) (by decide)
            exact J_97 j48_6 ij48_6 j48_7 σ_48 _ _ hw fr _ (lv_sub hl [1, 2, 3, 4, 5, 6, 7, 8, 0] rfl)
          · --
            have i18 : Iv v14 1 1 := iv_ne1 c16 p14_1 (⟨by decide, by decide⟩ : Iv 0 0 0) (by decide)
            have i19 : Iv v12 0 63 := p14_2 c16
            refine lv_aload_n hx hb dX9_choose_72 rfl (lv_at hl 1 rfl) ?_
            refine lv_aload_n hx hb dX9_choose_73 rfl (lv_at hl 2 rfl) ?_
            refine lv_iload_n hx hb dX9_choose_74 rfl (lv_at hl 3 rfl) ?_
            refine lv_iload hx hb dX9_choose_75 (lv_at hl 0 rfl) ?_
            refine o_ci hw (oRunV cx hA hw q_X9_weigh k_m_X9_86 rfl ha0 (by decide) (As := [.ref a1, .int a2, .int v12]) (c_X9_weigh a0 ha0 a1 ha1 a2 (iv_w ia2 (by decide)) v12 (iv_w i19 (by decide))) (by decide) rfl hl.1 rfl (Nat.le_of_ble_eq_true rfl) dX9_choose_77 (by decide)) (fun v21 σ20 H locs hp hw => ?_)
            have p21_0 := hp
            have fr := oFr_tr fr p21_0 (by decide)
            refine lv_istore (lv' := [(10, .int v21), (9, .int v12), (0, .ref a0), (1, .ref a1), (2, .int a2), (3, .long a3), (5, .int v2), (6, .int j48_6), (7, .int j48_7), (8, .int j48_8)]) hx hb dX9_choose_80 hl (by decide) rfl (fun ls hl => ?_)
            refine lv_iload hx hb dX9_choose_82 (lv_at hl 0 rfl) ?_
            refine lv_iload hx hb dX9_choose_84 (lv_at hl 8 rfl) ?_
            refine lv_icmp_le (tgt := 97) hx hb dX9_choose_86 (by decide) (fun c22 => ?_) (fun c22 => ?_)
            · --
              exact J_97 j48_6 ij48_6 j48_7 σ20 _ _ hw fr _ (lv_sub hl [2, 3, 4, 5, 6, 7, 8, 9, 1] rfl)
            · --
              have i23 : Iv j48_7 (-2147483648) 2147483646 := iv_lt1 (iv_nle c22) (iv_top j48_7) (iv_top v21) (by decide)
              have i24 : Iv v21 (-2147483647) 2147483647 := iv_lt2 (iv_nle c22) (iv_top j48_7) (iv_top v21) (by decide)
              refine lv_iload hx hb dX9_choose_89 (lv_at hl 0 rfl) ?_
              refine lv_istore (lv' := [(7, .int v21), (10, .int v21), (9, .int v12), (0, .ref a0), (1, .ref a1), (2, .int a2), (3, .long a3), (5, .int v2), (6, .int j48_6), (8, .int j48_8)]) hx hb dX9_choose_91 hl (by decide) rfl (fun ls hl => ?_)
              refine lv_iload hx hb dX9_choose_93 (lv_at hl 2 rfl) ?_
              refine lv_istore (lv' := [(6, .int v12), (7, .int v21), (10, .int v21), (9, .int v12), (0, .ref a0), (1, .ref a1), (2, .int a2), (3, .long a3), (5, .int v2), (8, .int j48_8)]) hx hb dX9_choose_95 hl (by decide) rfl (fun ls hl => ?_)
              exact J_97 v12 i19 v21 σ20 _ _ hw fr _ (lv_sub hl [4, 5, 6, 7, 8, 0, 1, 9, 3] rfl)
    exact J_48 _ v2 i2 v7 0 (iv_w (⟨by decide, by decide⟩ : Iv 0 0 0) (by decide)) σ6 _ _ hw fr (Nat.lt_succ_self _) _ (lv_sub hl [3, 4, 5, 6, 7, 2, 1, 0] rfl)
  refine lv_if_eq (tgt := 31) hx hb dX9_choose_16 (by decide) (fun c25 => ?_) (fun c25 => ?_)
  · --
    have i26 : Iv v5 0 0 := iv_eq1 c25 i5 (⟨by decide, by decide⟩ : Iv 0 0 0) (by decide)
    exact J_31 _ _ hw _ (lv_sub hl [1, 2, 3, 4, 0] rfl)
  · --
    have i27 : Iv v5 1 1 := iv_ne1 c25 i5 (⟨by decide, by decide⟩ : Iv 0 0 0) (by decide)
    refine lv_aload_n hx hb dX9_choose_19 rfl (lv_at hl 2 rfl) ?_
    refine g_331 cx hw ha1 k_f_X9_51 dX9_choose_20 (fun v28 e28 => ?_)
    refine lv_iconst (v := 2) hx hb dX9_choose_23 (by decide) ?_
    refine lv_irem hx hb dX9_choose_24 (iv_nz (⟨by decide, by decide⟩ : Iv 2 2 2) (by decide)) ?_
    refine lv_topi (fun v29 e29 => ?_)
    have i29 : Iv v29 (-1) 1 := iv_remA e29 (⟨by decide, by decide⟩ : Iv 2 2 2) (by decide)
    refine lv_if_eq (tgt := 31) hx hb dX9_choose_25 (by decide) (fun c30 => ?_) (fun c30 => ?_)
    · --
      have i31 : Iv v29 0 0 := iv_eq1 c30 i29 (⟨by decide, by decide⟩ : Iv 0 0 0) (by decide)
      exact J_31 _ _ hw _ (lv_sub hl [1, 2, 3, 4, 0] rfl)
    · --
      refine lv_iload hx hb dX9_choose_28 (lv_at hl 0 rfl) ?_
      rw [← hQ]
      exact o_ri cx rx hw dX9_choose_30 ⟨fr, (iv_w i2 (by decide))⟩
set_option maxHeartbeats 4000000 in
set_option maxRecDepth 100000 in
theorem c_X10_greedOf (a0 : Int32) (a1 : Int32) : oMet l A L τ cy D K yX10_greedOf cX10_greedOf 3 (some .int) 1 40 [.int a0, .int a1] σ (va_Qi (fun r σ1 => σ1 = σ ∧ Iv r 0 9) (oPo A L τ cy D) A) := by
  refine oMk (by decide) (Nat.le_of_ble_eq_true rfl) rfl ?_
  intro p e s m args below meth c ls cx rx hA hw hl
  generalize hQ : MQ below _ args s 0 0 A = Q
  have hx := cx.1.1
  have hb := cx.1.2.1
  have hml := cx.1.2.2.1
  have hown := cx.1.2.2.2.1
  have hts := cx.1.2.2.2.2
  have hl : lv_has ls 3 [(0, .int a0), (1, .int a1)] := hl
  refine lv_iload_n hx hb dX10_greedOf_0 rfl (lv_at hl 1 rfl) ?_
  refine lv_istore_n (lv' := [(2, .int a1), (0, .int a0), (1, .int a1)]) hx hb dX10_greedOf_1 rfl hl (by decide) rfl (fun ls hl => ?_)
  refine lv_iload_n hx hb dX10_greedOf_2 rfl (lv_at hl 1 rfl) ?_
  have J_20 : ∀ (j20_2 : Int32), ∀ (H : Heap) (locs : List Loc), oI A L τ cy D s.heap σ H locs → ∀ (ls : Array Slot), lv_has ls 3 [(0, .int a0), (1, .int a1), (2, .int j20_2)] → W p l e ({ frames := 1, cells := 0, slots := 0, locals := 40 } : Room) s m args below meth c H locs 0 0 Q (F0 m 20 ls []) := by
    intro j20_2 H locs hw     ls hl
    refine lv_iconst (v := 0) hx hb dX10_greedOf_20 (by decide) ?_
    refine lv_bipush (v := 9) hx hb dX10_greedOf_21 (by decide) ?_
    refine lv_iload_n hx hb dX10_greedOf_23 rfl (lv_at hl 2 rfl) ?_
    refine va_mmin hx hb (hml.trans hl.1.symm) hown (hts _ k_m_X10_212) (hts _ k_s_J9_min_7cf53) (hts _ k_i_J9) (hts _ k_code_J9_min_7cf53) (by decide) (Nat.le_of_ble_eq_true rfl) (by decide) (by decide) dX10_greedOf_24 ?_
    refine lv_topi (fun v1 e1 => ?_)
    have i1 : Iv v1 (-2147483648) 9 := iv_min e1 (⟨by decide, by decide⟩ : Iv 9 9 9) (iv_top j20_2) (by decide)
    refine va_mmax hx hb (hml.trans hl.1.symm) hown (hts _ k_m_X10_217) (hts _ k_s_J9_max_7cf53) (hts _ k_i_J9) (hts _ k_code_J9_max_7cf53) (by decide) (Nat.le_of_ble_eq_true rfl) (by decide) (by decide) dX10_greedOf_27 ?_
    refine lv_topi (fun v2 e2 => ?_)
    have i2 : Iv v2 0 9 := iv_max e2 (⟨by decide, by decide⟩ : Iv 0 0 0) i1 (by decide)
    rw [← hQ]
    exact o_ri cx rx hw dX10_greedOf_30 ⟨rfl, (iv_w i2 (by decide))⟩
  refine lv_if_ne (tgt := 12) hx hb dX10_greedOf_3 (by decide) (fun c3 => ?_) (fun c3 => ?_)
  · --
    refine lv_iload_n hx hb dX10_greedOf_12 rfl (lv_at hl 1 rfl) ?_
    refine lv_iconst (v := 1) hx hb dX10_greedOf_13 (by decide) ?_
    refine lv_icmp_ne (tgt := 20) hx hb dX10_greedOf_14 (by decide) (fun c4 => ?_) (fun c4 => ?_)
    · --
      exact J_20 a1 _ _ hw _ (lv_sub hl [1, 2, 0] rfl)
    · --
      have i5 : Iv a0 1 1 := iv_eq1 c4 (iv_top a0) (⟨by decide, by decide⟩ : Iv 1 1 1) (by decide)
      refine lv_iload_n hx hb dX10_greedOf_17 rfl (lv_at hl 2 rfl) ?_
      refine lv_i2s hx hb dX10_greedOf_18 rfl ?_
      refine lv_topi (fun v6 e6 => ?_)
      refine lv_istore_n (lv' := [(2, .int v6), (0, .int a0), (1, .int a1)]) hx hb dX10_greedOf_19 rfl hl (by decide) rfl (fun ls hl => ?_)
      exact J_20 v6 _ _ hw _ (lv_sub hl [1, 2, 0] rfl)
  · --
    have i7 : Iv a0 0 0 := iv_eq1 c3 (iv_top a0) (⟨by decide, by decide⟩ : Iv 0 0 0) (by decide)
    refine lv_iload_n hx hb dX10_greedOf_6 rfl (lv_at hl 2 rfl) ?_
    refine lv_i2b hx hb dX10_greedOf_7 rfl ?_
    refine lv_topi (fun v8 e8 => ?_)
    refine lv_istore_n (lv' := [(2, .int v8), (0, .int a0), (1, .int a1)]) hx hb dX10_greedOf_8 rfl hl (by decide) rfl (fun ls hl => ?_)
    refine lv_goto (tgt := 20) hx hb dX10_greedOf_9 (by decide) ?_
    exact J_20 v8 _ _ hw _ (lv_sub hl [1, 2, 0] rfl)
set_option maxHeartbeats 4000000 in
set_option maxRecDepth 100000 in
theorem c_X10_lay (a0 : Nat) (ha0 : oA L τ a0 9) (a1 : Nat) (ha1 : oA L τ a1 32) (a2 : Int32) (a3 : Int32) (hz : HZ L τ σ) : oMet l A L τ cy D K yX10_lay cX10_lay 5 (some .int) 2 43 [.ref a0, .ref a1, .int a2, .int a3] σ (va_Qi (fun r σ1 => σ1 = σ ∧ Iv r (-1) (-1)) (oPo A L τ cy D) A) := by
  refine oMk (by decide) (Nat.le_of_ble_eq_true rfl) rfl ?_
  intro p e s m args below meth c ls cx rx hA hw hl
  generalize hQ : MQ below _ args s 0 0 A = Q
  have hx := cx.1.1
  have hb := cx.1.2.1
  have hml := cx.1.2.2.1
  have hown := cx.1.2.2.2.1
  have hts := cx.1.2.2.2.2
  have hl : lv_has ls 5 [(0, .ref a0), (1, .ref a1), (2, .int a2), (3, .int a3)] := hl
  refine lv_aload_n hx hb dX10_lay_0 rfl (lv_at hl 0 rfl) ?_
  refine g_578 cx hw ha0 k_f_X10_26 dX10_lay_1 (fun v1 e1 h1 => ?_)
  refine lv_iload_n hx hb dX10_lay_4 rfl (lv_at hl 2 rfl) ?_
  refine o_ci hw (oRunV cx hA hw q_X2_isThere k_m_X10_135 rfl h1 (by decide) (As := [.int a2]) (c_X2_isThere v1 h1 a2 hz) (by decide) rfl hl.1 rfl (Nat.le_of_ble_eq_true rfl) dX10_lay_5 (by decide)) (fun v3 σ2 H locs hp hw => ?_)
  obtain ⟨p3_0, p3_1⟩ := hp
  rw [p3_0] at hw
  refine lv_if_ne (tgt := 13) hx hb dX10_lay_8 (by decide) (fun c4 => ?_) (fun c4 => ?_)
  · --
    exact iv_no (iv_ne1 c4 p3_1 (⟨by decide, by decide⟩ : Iv 0 0 0) (by decide)) (by decide)
  · --
    refine lv_iconst (v := (-1)) hx hb dX10_lay_11 (by decide) ?_
    rw [← hQ]
    exact o_ri cx rx hw dX10_lay_12 ⟨rfl, (iv_w (⟨by decide, by decide⟩ : Iv (-1) (-1) (-1)) (by decide))⟩
abbrev fs_X3_add : List Nat := [129, 130, 327, 328, 329, 330, 331]
abbrev ts_X3_add : List Nat := [32, 33, 34, 70]
set_option maxHeartbeats 4000000 in
set_option maxRecDepth 100000 in
theorem c_X3_add (a0 : Nat) (ha0 : oA L τ a0 2) (a1 : Nat) (ha1 : oA L τ a1 5) : oMet l A L τ cy D K yX3_add cX3_add 2 none 2 81 [.ref a0, .ref a1] σ (va_Qv (fun σ1 => oFr τ fs_X3_add ts_X3_add σ σ1) (oPo A L τ cy D) A) := by
  refine oMk (by decide) (Nat.le_of_ble_eq_true rfl) rfl ?_
  intro p e s m args below meth c ls cx rx hA hw hl
  generalize hQ : MQ below _ args s 0 0 A = Q
  have hx := cx.1.1
  have hb := cx.1.2.1
  have hml := cx.1.2.2.1
  have hown := cx.1.2.2.2.1
  have hts := cx.1.2.2.2.2
  have hl : lv_has ls 2 [(0, .ref a0), (1, .ref a1)] := hl
  have fr : oFr τ fs_X3_add ts_X3_add σ σ := oFr_rf
  refine lv_aload_n hx hb dX3_add_0 rfl (lv_at hl 0 rfl) ?_
  refine g_128 cx hw ha0 k_f_X3_11 dX3_add_1 (fun v1 e1 h1 => ?_)
  refine lv_aload_n hx hb dX3_add_4 rfl (lv_at hl 0 rfl) ?_
  refine g_129 cx hw ha0 k_f_X3_20 dX3_add_5 (fun v2 e2 i2 => ?_)
  refine o_aald cx hw h1 (by decide) rfl (iv_in i2 (by decide)) (by decide) dX3_add_8 (fun v3 e3 h3 => ?_)
  refine lv_aload_n hx hb dX3_add_9 rfl (lv_at hl 1 rfl) ?_
  refine o_cv hw (oRunV cx hA hw q_X6_copyFrom k_m_X3_23 rfl h3 (by decide) (As := [.ref a1]) (c_X6_copyFrom v3 h3 a1 ha1) (by decide) rfl hl.1 rfl (Nat.le_of_ble_eq_true rfl) dX3_add_10 (by decide)) (fun σ4 H locs hp hw => ?_)
  have p5_0 := hp
  have fr := oFr_tr fr p5_0 (by decide)
  refine lv_aload_n hx hb dX3_add_13 rfl (lv_at hl 0 rfl) ?_
  refine lv_aload_n hx hb dX3_add_14 rfl (lv_at hl 0 rfl) ?_
  refine g_129 cx hw ha0 k_f_X3_20 dX3_add_15 (fun v6 e6 i6 => ?_)
  rw [show v6 = v2 from e6.trans ((kp_c p5_0 (by decide)).trans e2.symm)]
  refine lv_iconst (v := 1) hx hb dX3_add_18 (by decide) ?_
  refine lv_iadd hx hb dX3_add_19 ?_
  refine lv_topi (fun v7 e7 => ?_)
  have i7 : Iv v7 1 10 := iv_add e7 i2 (⟨by decide, by decide⟩ : Iv 1 1 1) (by decide)
  have x7 : v7.toInt = v2.toInt + 1 := ex_add e7 i2 (⟨by decide, by decide⟩ : Iv 1 1 1) (by decide)
  refine lv_bipush (v := 10) hx hb dX3_add_20 (by decide) ?_
  refine lv_irem hx hb dX3_add_22 (iv_nz (⟨by decide, by decide⟩ : Iv 10 10 10) (by decide)) ?_
  refine lv_topi (fun v8 e8 => ?_)
  have i8 : Iv v8 0 9 := iv_rem e8 i7 (⟨by decide, by decide⟩ : Iv 10 10 10) (by decide)
  refine p_129 cx hw ha0 (iv_w i8 (by decide)) k_f_X3_20 dX3_add_23 (fun σ9 H locs eσ9 hw => ?_)
  have fr := oFr_i fr eσ9 (by decide)
  refine lv_aload_n hx hb dX3_add_26 rfl (lv_at hl 0 rfl) ?_
  refine lv_bipush (v := 10) hx hb dX3_add_27 (by decide) ?_
  refine lv_aload_n hx hb dX3_add_29 rfl (lv_at hl 0 rfl) ?_
  refine g_130 cx hw ha0 k_f_X3_16 dX3_add_30 (fun v10 e10 i10 => ?_)
  refine lv_iconst (v := 1) hx hb dX3_add_33 (by decide) ?_
  refine lv_iadd hx hb dX3_add_34 ?_
  refine lv_topi (fun v11 e11 => ?_)
  have i11 : Iv v11 1 11 := iv_add e11 i10 (⟨by decide, by decide⟩ : Iv 1 1 1) (by decide)
  have x11 : v11.toInt = v10.toInt + 1 := ex_add e11 i10 (⟨by decide, by decide⟩ : Iv 1 1 1) (by decide)
  refine va_mmin hx hb (hml.trans hl.1.symm) hown (hts _ k_m_X3_27) (hts _ k_s_J9_min_7cf53) (hts _ k_i_J9) (hts _ k_code_J9_min_7cf53) (by decide) (Nat.le_of_ble_eq_true rfl) (by decide) (by decide) dX3_add_35 ?_
  refine lv_topi (fun v12 e12 => ?_)
  have i12 : Iv v12 1 10 := iv_min e12 (⟨by decide, by decide⟩ : Iv 10 10 10) i11 (by decide)
  refine p_130 cx hw ha0 (iv_w i12 (by decide)) k_f_X3_16 dX3_add_38 (fun σ13 H locs eσ13 hw => ?_)
  have fr := oFr_i fr eσ13 (by decide)
  rw [← hQ]
  exact o_rv cx rx hw dX3_add_41 fr
end OM
