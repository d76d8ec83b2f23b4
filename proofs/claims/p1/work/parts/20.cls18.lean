section OM
variable {l : Launch} {A : Nat → Prop} {L : List Nat} {τ : Nat → Nat} {cy : Nat → ClassId} {D : va_G} {K : (Nat → Nat) × (Nat → Nat)} {σ : oSt}
abbrev fs_X11_meadow : List Nat := [655, 658, 659, 660, 661, 662, 663]
abbrev ts_X11_meadow : List Nat := []
set_option maxHeartbeats 4000000 in
set_option maxRecDepth 100000 in
theorem c_X11_meadow (a0 : Nat) (ha0 : oA L τ a0 10) (hf655 : Iv (σ.1 655 a0) 0 0) : oMet l A L τ cy D K yX11_meadow cX11_meadow 7 (some .int) 2 43 [.ref a0] σ (va_Qi (fun r σ1 => oFr τ fs_X11_meadow ts_X11_meadow σ σ1 ∧ Iv r (-1) (-1)) (oPo A L τ cy D) A) := by
  refine oMk (by decide) (Nat.le_of_ble_eq_true rfl) rfl ?_
  intro p e s m args below meth c ls cx rx hA hw hl
  generalize hQ : MQ below _ args s 0 0 A = Q
  have hx := cx.1.1
  have hb := cx.1.2.1
  have hml := cx.1.2.2.1
  have hown := cx.1.2.2.2.1
  have hts := cx.1.2.2.2.2
  have hl : lv_has ls 7 [(0, .ref a0)] := hl
  have fr : oFr τ fs_X11_meadow ts_X11_meadow σ σ := oFr_rf
  refine lv_aload_n hx hb dX11_meadow_0 rfl (lv_at hl 0 rfl) ?_
  refine lv_iconst (v := 0) hx hb dX11_meadow_1 (by decide) ?_
  refine p_658 cx hw ha0 k_f_X11_89 dX11_meadow_2 (fun σ1 H locs eσ1 hw => ?_)
  have fr := oFr_i fr eσ1 (by decide)
  refine lv_aload_n hx hb dX11_meadow_5 rfl (lv_at hl 0 rfl) ?_
  refine lv_aload_n hx hb dX11_meadow_6 rfl (lv_at hl 0 rfl) ?_
  refine g_654 cx hw ha0 k_f_X11_32 dX11_meadow_7 (fun v2 e2 h2 => ?_)
  refine lv_aload_n hx hb dX11_meadow_10 rfl (lv_at hl 0 rfl) ?_
  refine g_655 cx hw ha0 k_f_X11_108 dX11_meadow_11 (fun v3 e3 i3 => ?_)
  rw [show v3 = (σ.1 655 a0) from e3.trans ((kp_i eσ1 (by decide)).trans rfl)]
  refine lv_bipush (v := 76) hx hb dX11_meadow_14 (by decide) ?_
  have i4 : Iv (σ1.1 660 a0) 0 0 := o_fb (j := 660) hw ha0 rfl
  have i5 : Iv (σ1.1 661 a0) 0 80 := o_fb (j := 661) hw ha0 rfl
  refine o_cv hw (oRunV cx hA hw q_X11_begin k_m_X11_142 rfl ha0 (by decide) (As := [.ref v2, .int (σ.1 655 a0), .int 76]) (c_X11_beginT a0 ha0 v2 h2 (σ.1 655 a0) (iv_w hf655 (by decide)) 76 (iv_w (⟨by decide, by decide⟩ : Iv 76 76 76) (by decide))) (by decide) rfl hl.1 rfl (Nat.le_of_ble_eq_true rfl) dX11_meadow_16 (by decide)) (fun σ6 H locs hp hw => ?_)
  obtain ⟨p7_0, p7_1, p7_2, p7_3, p7_4, p7_5, p7_6⟩ := hp
  have fr := oFr_tr fr p7_0 (by decide)
  refine lv_aload_n hx hb dX11_meadow_19 rfl (lv_at hl 0 rfl) ?_
  refine lv_iconst (v := 0) hx hb dX11_meadow_20 (by decide) ?_
  refine p_655 cx hw ha0 (iv_w (⟨by decide, by decide⟩ : Iv 0 0 0) (by decide)) k_f_X11_108 dX11_meadow_21 (fun σ8 H locs eσ8 hw => ?_)
  have fr := oFr_i fr eσ8 (by decide)
  refine lv_iconst (v := 0) hx hb dX11_meadow_24 (by decide) ?_
  refine lv_istore_n (lv' := [(1, .int 0), (0, .ref a0)]) hx hb dX11_meadow_25 rfl hl (by decide) rfl (fun ls hl => ?_)
  refine lv_iconst (v := 0) hx hb dX11_meadow_26 (by decide) ?_
  refine lv_istore_n (lv' := [(2, .int 0), (1, .int 0), (0, .ref a0)]) hx hb dX11_meadow_27 rfl hl (by decide) rfl (fun ls hl => ?_)
  refine lv_iconst (v := 0) hx hb dX11_meadow_28 (by decide) ?_
  refine lv_istore_n (lv' := [(3, .int 0), (2, .int 0), (1, .int 0), (0, .ref a0)]) hx hb dX11_meadow_29 rfl hl (by decide) rfl (fun ls hl => ?_)
  refine lv_iconst (v := 1) hx hb dX11_meadow_30 (by decide) ?_
  refine lv_istore (lv' := [(4, .int 1), (3, .int 0), (2, .int 0), (1, .int 0), (0, .ref a0)]) hx hb dX11_meadow_31 hl (by decide) rfl (fun ls hl => ?_)
  refine lv_iload hx hb dX11_meadow_33 (lv_at hl 0 rfl) ?_
  refine lv_if_eq (tgt := 267) hx hb dX11_meadow_35 (by decide) (fun c9 => ?_) (fun c9 => ?_)
  · --
    exact iv_no (iv_eq1 (lo := 1) (hi := 0) c9 (⟨by decide, by decide⟩ : Iv 1 1 1) (⟨by decide, by decide⟩ : Iv 0 0 0) (by decide)) (by decide)
  · --
    refine lv_aload_n hx hb dX11_meadow_38 rfl (lv_at hl 4 rfl) ?_
    have z10 : (σ8.1 663 a0).toInt = ((σ6.1 663 a0) : Int32).toInt := congrArg Int32.toInt (show σ8.1 663 a0 = (σ6.1 663 a0) from ((kp_i eσ8 (by decide)).trans rfl))
    refine o_ci hw (oRunV cx hA hw q_X11_fine k_m_X11_126 rfl ha0 (by decide) (As := []) (c_X11_fine a0 ha0) (by decide) rfl hl.1 rfl (Nat.le_of_ble_eq_true rfl) dX11_meadow_39 (by decide)) (fun v12 σ11 H locs hp hw => ?_)
    obtain ⟨p12_0, p12_1, p12_2⟩ := hp
    rw [p12_0] at hw
    have i13 : Iv v12 1 1 := (by have := (p12_1).1; have := (p12_1).2; have := (p7_2).1; have := (p7_2).2; have := (p7_3).1; have := (p7_3).2; have := (p7_4).1; have := (p7_4).2; have := (p7_5).1; have := (p7_5).2; have := (hf655).1; have := (hf655).2; have := (i4).1; have := (i4).2; have := (i5).1; have := (i5).2; have : (σ8.1 658 a0).toInt = (0 : Int32).toInt := congrArg Int32.toInt (show σ8.1 658 a0 = 0 from ((kp_i eσ8 (by decide)).trans ((kp_c p7_0 (by decide)).trans (kp_s eσ1)))); have : (σ8.1 660 a0).toInt = ((σ6.1 660 a0) : Int32).toInt := congrArg Int32.toInt (show σ8.1 660 a0 = (σ6.1 660 a0) from ((kp_i eσ8 (by decide)).trans rfl)); have : (σ8.1 661 a0).toInt = ((σ6.1 661 a0) : Int32).toInt := congrArg Int32.toInt (show σ8.1 661 a0 = (σ6.1 661 a0) from ((kp_i eσ8 (by decide)).trans rfl)); have : (σ8.1 662 a0).toInt = ((σ6.1 662 a0) : Int32).toInt := congrArg Int32.toInt (show σ8.1 662 a0 = (σ6.1 662 a0) from ((kp_i eσ8 (by decide)).trans rfl)); have : (σ8.1 663 a0).toInt = ((σ6.1 663 a0) : Int32).toInt := congrArg Int32.toInt (show σ8.1 663 a0 = (σ6.1 663 a0) from ((kp_i eσ8 (by decide)).trans rfl)); have : (σ8.1 655 a0).toInt = (0 : Int32).toInt := congrArg Int32.toInt (show σ8.1 655 a0 = 0 from (kp_s eσ8)); have : (0 : Int32).toInt = 0 := (by decide); have : (1 : Int32).toInt = 1 := (by decide); have : (76 : Int32).toInt = 76 := (by decide); exact ⟨by omega, by omega⟩)
    have J_45 : ∀ n45 : Nat, ∀ (H : Heap) (locs : List Loc), oI A L τ cy D s.heap σ8 H locs → 0 < n45 → ∀ (ls : Array Slot), lv_has ls 7 [(0, .ref a0), (1, .int 0), (2, .int 0), (3, .int 0), (4, .int 1)] → W p l e ({ frames := 2, cells := 0, slots := 0, locals := 43 } : Room) s m args below meth c H locs 0 0 Q (F0 m 45 ls []) := by
      intro n45
      induction n45 with
      | zero => intro  H locs hw  hn_45   ls hl; exact absurd hn_45 (Nat.not_lt_zero _)
      | succ n45 ih_45 =>
        intro  H locs hw  hn_45   ls hl
        refine lv_iconst (v := 0) hx hb dX11_meadow_45 (by decide) ?_
        refine lv_istore (lv' := [(5, .int 0), (0, .ref a0), (1, .int 0), (2, .int 0), (3, .int 0), (4, .int 1)]) hx hb dX11_meadow_46 hl (by decide) rfl (fun ls hl => ?_)
        have J_48 : ∀ n48 : Nat, ∀ (H : Heap) (locs : List Loc), oI A L τ cy D s.heap σ8 H locs → 0 < n48 → ∀ (ls : Array Slot), lv_has ls 7 [(0, .ref a0), (1, .int 0), (2, .int 0), (3, .int 0), (4, .int 1), (5, .int 0)] → W p l e ({ frames := 2, cells := 0, slots := 0, locals := 43 } : Room) s m args below meth c H locs 0 0 Q (F0 m 48 ls []) := by
          intro n48
          induction n48 with
          | zero => intro  H locs hw  hn_48   ls hl; exact absurd hn_48 (Nat.not_lt_zero _)
          | succ n48 ih_48 =>
            intro  H locs hw  hn_48   ls hl
            refine lv_aload_n hx hb dX11_meadow_48 rfl (lv_at hl 0 rfl) ?_
            have z14 : (σ8.1 663 a0).toInt = ((σ6.1 663 a0) : Int32).toInt := congrArg Int32.toInt (show σ8.1 663 a0 = (σ6.1 663 a0) from ((kp_i eσ8 (by decide)).trans rfl))
            refine o_ci hw (oRunV cx hA hw q_X11_fine k_m_X11_126 rfl ha0 (by decide) (As := []) (c_X11_fine a0 ha0) (by decide) rfl hl.1 rfl (Nat.le_of_ble_eq_true rfl) dX11_meadow_49 (by decide)) (fun v16 σ15 H locs hp hw => ?_)
            obtain ⟨p16_0, p16_1, p16_2⟩ := hp
            rw [p16_0] at hw
            have i17 : Iv v16 1 1 := (by have := (p16_1).1; have := (p16_1).2; have := (p7_2).1; have := (p7_2).2; have := (p7_3).1; have := (p7_3).2; have := (p7_4).1; have := (p7_4).2; have := (p7_5).1; have := (p7_5).2; have := (hf655).1; have := (hf655).2; have := (i4).1; have := (i4).2; have := (i5).1; have := (i5).2; have := (i13).1; have := (i13).2; have : (σ8.1 658 a0).toInt = (0 : Int32).toInt := congrArg Int32.toInt (show σ8.1 658 a0 = 0 from ((kp_i eσ8 (by decide)).trans ((kp_c p7_0 (by decide)).trans (kp_s eσ1)))); have : (σ8.1 660 a0).toInt = ((σ6.1 660 a0) : Int32).toInt := congrArg Int32.toInt (show σ8.1 660 a0 = (σ6.1 660 a0) from ((kp_i eσ8 (by decide)).trans rfl)); have : (σ8.1 661 a0).toInt = ((σ6.1 661 a0) : Int32).toInt := congrArg Int32.toInt (show σ8.1 661 a0 = (σ6.1 661 a0) from ((kp_i eσ8 (by decide)).trans rfl)); have : (σ8.1 662 a0).toInt = ((σ6.1 662 a0) : Int32).toInt := congrArg Int32.toInt (show σ8.1 662 a0 = (σ6.1 662 a0) from ((kp_i eσ8 (by decide)).trans rfl)); have : (σ8.1 663 a0).toInt = ((σ6.1 663 a0) : Int32).toInt := congrArg Int32.toInt (show σ8.1 663 a0 = (σ6.1 663 a0) from ((kp_i eσ8 (by decide)).trans rfl)); have : (σ8.1 655 a0).toInt = (0 : Int32).toInt := congrArg Int32.toInt (show σ8.1 655 a0 = 0 from (kp_s eσ8)); have : (0 : Int32).toInt = 0 := (by decide); have : (1 : Int32).toInt = 1 := (by decide); have : (76 : Int32).toInt = 76 := (by decide); exact ⟨by omega, by omega⟩)
            have J_187 : ∀ (H : Heap) (locs : List Loc), oI A L τ cy D s.heap σ8 H locs → ∀ (ls : Array Slot), lv_has ls 7 [(0, .ref a0), (1, .int 0), (2, .int 0), (3, .int 0), (4, .int 1), (5, .int 0)] → W p l e ({ frames := 2, cells := 0, slots := 0, locals := 43 } : Room) s m args below meth c H locs 0 0 Q (F0 m 187 ls []) := by
              intro  H locs hw     ls hl
              refine lv_iload hx hb dX11_meadow_187 (lv_at hl 5 rfl) ?_
              refine lv_if_eq (tgt := 202) hx hb dX11_meadow_189 (by decide) (fun c18 => ?_) (fun c18 => ?_)
              · --
                refine lv_aload_n hx hb dX11_meadow_202 rfl (lv_at hl 0 rfl) ?_
                refine lv_aload_n hx hb dX11_meadow_203 rfl (lv_at hl 0 rfl) ?_
                refine g_662 cx hw ha0 k_f_X11_120 dX11_meadow_204 (fun v19 e19 i19 => ?_)
                rw [show v19 = (σ6.1 662 a0) from e19.trans ((kp_i eσ8 (by decide)).trans rfl)]
                have z20 : (σ8.1 663 a0).toInt = ((σ6.1 663 a0) : Int32).toInt := congrArg Int32.toInt (show σ8.1 663 a0 = (σ6.1 663 a0) from ((kp_i eσ8 (by decide)).trans rfl))
                refine o_cv hw (oRunV cx hA hw q_X11_fault k_m_X11_138 rfl ha0 (by decide) (As := [.int (σ6.1 662 a0)]) (c_X11_fault a0 ha0 (σ6.1 662 a0) (iv_w p7_4 (by decide))) (by decide) rfl hl.1 rfl (Nat.le_of_ble_eq_true rfl) dX11_meadow_207 (by decide)) (fun σ21 H locs hp hw => ?_)
                obtain ⟨p22_0, p22_1⟩ := hp
                have fr := oFr_tr fr p22_0 (by decide)
                have i23 : Iv (σ21.1 663 a0) (-1) 200 := o_fb (j := 663) hw ha0 rfl
                have i24 : Iv (σ21.1 663 a0) 0 200 := (by have := (p7_2).1; have := (p7_2).2; have := (p7_3).1; have := (p7_3).2; have := (p7_4).1; have := (p7_4).2; have := (i23).1; have := (i23).2; have := (hf655).1; have := (hf655).2; have := (i4).1; have := (i4).2; have := (i5).1; have := (i5).2; have := (p7_5).1; have := (p7_5).2; have := (i13).1; have := (i13).2; have := (i17).1; have := (i17).2; have : (σ21.1 658 a0).toInt = (0 : Int32).toInt := congrArg Int32.toInt (show σ21.1 658 a0 = 0 from ((kp_c p22_0 (by decide)).trans ((kp_i eσ8 (by decide)).trans ((kp_c p7_0 (by decide)).trans (kp_s eσ1))))); have : (σ21.1 660 a0).toInt = ((σ6.1 660 a0) : Int32).toInt := congrArg Int32.toInt (show σ21.1 660 a0 = (σ6.1 660 a0) from ((kp_c p22_0 (by decide)).trans ((kp_i eσ8 (by decide)).trans rfl))); have : (σ21.1 661 a0).toInt = ((σ6.1 661 a0) : Int32).toInt := congrArg Int32.toInt (show σ21.1 661 a0 = (σ6.1 661 a0) from ((kp_c p22_0 (by decide)).trans ((kp_i eσ8 (by decide)).trans rfl))); have : (σ21.1 662 a0).toInt = ((σ6.1 662 a0) : Int32).toInt := congrArg Int32.toInt (show σ21.1 662 a0 = (σ6.1 662 a0) from ((kp_c p22_0 (by decide)).trans ((kp_i eσ8 (by decide)).trans rfl))); have : (σ21.1 655 a0).toInt = (0 : Int32).toInt := congrArg Int32.toInt (show σ21.1 655 a0 = 0 from ((kp_c p22_0 (by decide)).trans (kp_s eσ8))); have : (0 : Int32).toInt = (0 : Int32).toInt := congrArg Int32.toInt c18; have : (0 : Int32).toInt = 0 := (by decide); have : (1 : Int32).toInt = 1 := (by decide); have : (76 : Int32).toInt = 76 := (by decide); exact ⟨by omega, by omega⟩)
                have i25 : Iv (σ21.1 663 a0) 0 0 := (by have := (p7_2).1; have := (p7_2).2; have := (p7_3).1; have := (p7_3).2; have := (p7_4).1; have := (p7_4).2; have := (i24).1; have := (i24).2; have := (hf655).1; have := (hf655).2; have := (i4).1; have := (i4).2; have := (i5).1; have := (i5).2; have := (p7_5).1; have := (p7_5).2; have := (i13).1; have := (i13).2; have := (i17).1; have := (i17).2; have : (σ21.1 658 a0).toInt = (0 : Int32).toInt := congrArg Int32.toInt (show σ21.1 658 a0 = 0 from ((kp_c p22_0 (by decide)).trans ((kp_i eσ8 (by decide)).trans ((kp_c p7_0 (by decide)).trans (kp_s eσ1))))); have : (σ21.1 660 a0).toInt = ((σ6.1 660 a0) : Int32).toInt := congrArg Int32.toInt (show σ21.1 660 a0 = (σ6.1 660 a0) from ((kp_c p22_0 (by decide)).trans ((kp_i eσ8 (by decide)).trans rfl))); have : (σ21.1 661 a0).toInt = ((σ6.1 661 a0) : Int32).toInt := congrArg Int32.toInt (show σ21.1 661 a0 = (σ6.1 661 a0) from ((kp_c p22_0 (by decide)).trans ((kp_i eσ8 (by decide)).trans rfl))); have : (σ21.1 662 a0).toInt = ((σ6.1 662 a0) : Int32).toInt := congrArg Int32.toInt (show σ21.1 662 a0 = (σ6.1 662 a0) from ((kp_c p22_0 (by decide)).trans ((kp_i eσ8 (by decide)).trans rfl))); have : (σ21.1 655 a0).toInt = (0 : Int32).toInt := congrArg Int32.toInt (show σ21.1 655 a0 = 0 from ((kp_c p22_0 (by decide)).trans (kp_s eσ8))); have : (0 : Int32).toInt = (0 : Int32).toInt := congrArg Int32.toInt c18; have : (0 : Int32).toInt = 0 := (by decide); have : (1 : Int32).toInt = 1 := (by decide); have : (76 : Int32).toInt = 76 := (by decide); exact ⟨by omega, by omega⟩)
                refine lv_iload_n hx hb dX11_meadow_210 rfl (lv_at hl 2 rfl) ?_
                refine lv_if_ne (tgt := 217) hx hb dX11_meadow_211 (by decide) (fun c26 => ?_) (fun c26 => ?_)
                · --
                  exact absurd rfl c26
                · --
                  refine lv_iload hx hb dX11_meadow_214 (lv_at hl 5 rfl) ?_
                  refine lv_istore_n (lv' := [(1, .int 0), (0, .ref a0), (2, .int 0), (3, .int 0), (4, .int 1), (5, .int 0)]) hx hb dX11_meadow_216 rfl hl (by decide) rfl (fun ls hl => ?_)
                  refine lv_iinc (v := 1) (lv' := [(2, .int 1), (1, .int 0), (0, .ref a0), (3, .int 0), (4, .int 1), (5, .int 0)]) hx hb dX11_meadow_217 hl (k := 2) rfl (by decide) (by decide) rfl (fun ls hl => ?_)
                  refine lv_aload_n hx hb dX11_meadow_220 rfl (lv_at hl 2 rfl) ?_
                  refine o_ci hw (oRunV cx hA hw q_X11_fine k_m_X11_126 rfl ha0 (by decide) (As := []) (c_X11_fine a0 ha0) (by decide) rfl hl.1 rfl (Nat.le_of_ble_eq_true rfl) dX11_meadow_221 (by decide)) (fun v29 σ28 H locs hp hw => ?_)
                  obtain ⟨p29_0, p29_1, p29_2⟩ := hp
                  rw [p29_0] at hw
                  have i30 : Iv v29 0 0 := (by have := (p29_1).1; have := (p29_1).2; have := (p7_2).1; have := (p7_2).2; have := (p7_3).1; have := (p7_3).2; have := (p7_4).1; have := (p7_4).2; have := (i25).1; have := (i25).2; have := (hf655).1; have := (hf655).2; have := (i4).1; have := (i4).2; have := (i5).1; have := (i5).2; have := (p7_5).1; have := (p7_5).2; have := (i13).1; have := (i13).2; have := (i17).1; have := (i17).2; have : (σ21.1 658 a0).toInt = (0 : Int32).toInt := congrArg Int32.toInt (show σ21.1 658 a0 = 0 from ((kp_c p22_0 (by decide)).trans ((kp_i eσ8 (by decide)).trans ((kp_c p7_0 (by decide)).trans (kp_s eσ1))))); have : (σ21.1 660 a0).toInt = ((σ6.1 660 a0) : Int32).toInt := congrArg Int32.toInt (show σ21.1 660 a0 = (σ6.1 660 a0) from ((kp_c p22_0 (by decide)).trans ((kp_i eσ8 (by decide)).trans rfl))); have : (σ21.1 661 a0).toInt = ((σ6.1 661 a0) : Int32).toInt := congrArg Int32.toInt (show σ21.1 661 a0 = (σ6.1 661 a0) from ((kp_c p22_0 (by decide)).trans ((kp_i eσ8 (by decide)).trans rfl))); have : (σ21.1 662 a0).toInt = ((σ6.1 662 a0) : Int32).toInt := congrArg Int32.toInt (show σ21.1 662 a0 = (σ6.1 662 a0) from ((kp_c p22_0 (by decide)).trans ((kp_i eσ8 (by decide)).trans rfl))); have : (σ21.1 655 a0).toInt = (0 : Int32).toInt := congrArg Int32.toInt (show σ21.1 655 a0 = 0 from ((kp_c p22_0 (by decide)).trans (kp_s eσ8))); have : (0 : Int32).toInt = (0 : Int32).toInt := congrArg Int32.toInt c18; have : (0 : Int32).toInt = (0 : Int32).toInt := congrArg Int32.toInt c26; have : (0 : Int32).toInt = 0 := (by decide); have : (1 : Int32).toInt = 1 := (by decide); have : (76 : Int32).toInt = 76 := (by decide); exact ⟨by omega, by omega⟩)
                  refine lv_if_eq (tgt := 246) hx hb dX11_meadow_224 (by decide) (fun c31 => ?_) (fun c31 => ?_)
                  · --
                    refine lv_iconst (v := 0) hx hb dX11_meadow_246 (by decide) ?_
                    refine lv_istore (lv' := [(4, .int 0), (2, .int 1), (1, .int 0), (0, .ref a0), (3, .int 0), (5, .int 0)]) hx hb dX11_meadow_247 hl (by decide) rfl (fun ls hl => ?_)
                    refine lv_iload hx hb dX11_meadow_249 (lv_at hl 0 rfl) ?_
                    refine lv_if_eq (tgt := 264) hx hb dX11_meadow_251 (by decide) (fun c32 => ?_) (fun c32 => ?_)
                    · --
                      refine lv_goto (tgt := 33) hx hb dX11_meadow_264 (by decide) ?_
                      refine lv_iload hx hb dX11_meadow_33 (lv_at hl 0 rfl) ?_
                      refine lv_if_eq (tgt := 267) hx hb dX11_meadow_35 (by decide) (fun c33 => ?_) (fun c33 => ?_)
                      · --
                        refine lv_aload_n hx hb dX11_meadow_267 rfl (lv_at hl 3 rfl) ?_
                        refine g_662 cx hw ha0 k_f_X11_120 dX11_meadow_268 (fun v34 e34 i34 => ?_)
                        rw [show v34 = (σ6.1 662 a0) from e34.trans ((kp_c p22_0 (by decide)).trans ((kp_i eσ8 (by decide)).trans rfl))]
                        refine lv_aload_n hx hb dX11_meadow_271 rfl (lv_at hl 3 rfl) ?_
                        refine g_660 cx hw ha0 k_f_X11_114 dX11_meadow_272 (fun v35 e35 i35 => ?_)
                        rw [show v35 = (σ6.1 660 a0) from e35.trans ((kp_c p22_0 (by decide)).trans ((kp_i eσ8 (by decide)).trans rfl))]
                        refine lv_icmp_ge (tgt := 286) hx hb dX11_meadow_275 (by decide) (fun c36 => ?_) (fun c36 => ?_)
                        · --
                          refine lv_aload_n hx hb dX11_meadow_286 rfl (lv_at hl 3 rfl) ?_
                          refine o_ci hw (oRunV cx hA hw q_X11_fine k_m_X11_126 rfl ha0 (by decide) (As := []) (c_X11_fine a0 ha0) (by decide) rfl hl.1 rfl (Nat.le_of_ble_eq_true rfl) dX11_meadow_287 (by decide)) (fun v38 σ37 H locs hp hw => ?_)
                          obtain ⟨p38_0, p38_1, p38_2⟩ := hp
                          rw [p38_0] at hw
                          have i39 : Iv v38 0 0 := (by have := (p38_1).1; have := (p38_1).2; have := (p7_2).1; have := (p7_2).2; have := (p7_3).1; have := (p7_3).2; have := (p7_4).1; have := (p7_4).2; have := (i25).1; have := (i25).2; have := (hf655).1; have := (hf655).2; have := (i4).1; have := (i4).2; have := (i5).1; have := (i5).2; have := (p7_5).1; have := (p7_5).2; have := (i13).1; have := (i13).2; have := (i17).1; have := (i17).2; have := (i30).1; have := (i30).2; have : (σ21.1 658 a0).toInt = (0 : Int32).toInt := congrArg Int32.toInt (show σ21.1 658 a0 = 0 from ((kp_c p22_0 (by decide)).trans ((kp_i eσ8 (by decide)).trans ((kp_c p7_0 (by decide)).trans (kp_s eσ1))))); have : (σ21.1 660 a0).toInt = ((σ6.1 660 a0) : Int32).toInt := congrArg Int32.toInt (show σ21.1 660 a0 = (σ6.1 660 a0) from ((kp_c p22_0 (by decide)).trans ((kp_i eσ8 (by decide)).trans rfl))); have : (σ21.1 661 a0).toInt = ((σ6.1 661 a0) : Int32).toInt := congrArg Int32.toInt (show σ21.1 661 a0 = (σ6.1 661 a0) from ((kp_c p22_0 (by decide)).trans ((kp_i eσ8 (by decide)).trans rfl))); have : (σ21.1 662 a0).toInt = ((σ6.1 662 a0) : Int32).toInt := congrArg Int32.toInt (show σ21.1 662 a0 = (σ6.1 662 a0) from ((kp_c p22_0 (by decide)).trans ((kp_i eσ8 (by decide)).trans rfl))); have : (σ21.1 655 a0).toInt = (0 : Int32).toInt := congrArg Int32.toInt (show σ21.1 655 a0 = 0 from ((kp_c p22_0 (by decide)).trans (kp_s eσ8))); have : (0 : Int32).toInt = (0 : Int32).toInt := congrArg Int32.toInt c18; have : (0 : Int32).toInt = (0 : Int32).toInt := congrArg Int32.toInt c26; have : (v29 : Int32).toInt = (0 : Int32).toInt := congrArg Int32.toInt c31; have : (0 : Int32).toInt = (0 : Int32).toInt := congrArg Int32.toInt c32; have : (0 : Int32).toInt = (0 : Int32).toInt := congrArg Int32.toInt c33; have : ((σ6.1 660 a0) : Int32).toInt ≤ ((σ6.1 662 a0) : Int32).toInt := iv_le.mp c36; have : (0 : Int32).toInt = 0 := (by decide); have : (1 : Int32).toInt = 1 := (by decide); have : (76 : Int32).toInt = 76 := (by decide); exact ⟨by omega, by omega⟩)
                          refine lv_if_ne (tgt := 300) hx hb dX11_meadow_290 (by decide) (fun c40 => ?_) (fun c40 => ?_)
                          · --
                            exact iv_no (iv_ne1 c40 i39 (⟨by decide, by decide⟩ : Iv 0 0 0) (by decide)) (by decide)
                          · --
                            refine lv_iconst (v := (-1)) hx hb dX11_meadow_293 (by decide) ?_
                            refine lv_aload_n hx hb dX11_meadow_294 rfl (lv_at hl 3 rfl) ?_
                            refine g_663 cx hw ha0 k_f_X11_123 dX11_meadow_295 (fun v41 e41 i41 => ?_)
                            rw [show v41 = (σ21.1 663 a0) from e41.trans rfl]
                            refine lv_isub hx hb dX11_meadow_298 ?_
                            refine lv_topi (fun v42 e42 => ?_)
                            have i42 : Iv v42 (-1) (-1) := iv_sub e42 (⟨by decide, by decide⟩ : Iv (-1) (-1) (-1)) i25 (by decide)
                            have x42 : v42.toInt = (-1) - (σ21.1 663 a0).toInt := by have q9 := ex_sub e42 (⟨by decide, by decide⟩ : Iv (-1) (-1) (-1)) i25 (by decide); rw [show ((-1) : Int32).toInt = (-1) from by decide] at q9; exact q9
                            rw [← hQ]
                            exact o_ri cx rx hw dX11_meadow_299 ⟨fr, (iv_w i42 (by decide))⟩
                        · --
                          exact iv_no (iv_lt1 (b' := (-1)) (iv_nle c36) p7_4 p7_2 (by decide)) (by decide)
                      · --
                        exact absurd rfl c33
                    · --
                      exact absurd rfl c32
                  · --
                    exact iv_no (iv_ne1 c31 i30 (⟨by decide, by decide⟩ : Iv 0 0 0) (by decide)) (by decide)
              · --
                exact absurd rfl c18
            refine lv_if_eq (tgt := 187) hx hb dX11_meadow_52 (by decide) (fun c43 => ?_) (fun c43 => ?_)
            · --
              exact iv_no (iv_eq1 (lo := 1) (hi := 0) c43 i17 (⟨by decide, by decide⟩ : Iv 0 0 0) (by decide)) (by decide)
            · --
              refine lv_iload hx hb dX11_meadow_55 (lv_at hl 5 rfl) ?_
              refine lv_iload_n hx hb dX11_meadow_57 rfl (lv_at hl 2 rfl) ?_
              refine lv_if_ne (tgt := 66) hx hb dX11_meadow_58 (by decide) (fun c44 => ?_) (fun c44 => ?_)
              · --
                exact absurd rfl c44
              · --
                refine lv_bipush (v := 8) hx hb dX11_meadow_61 (by decide) ?_
                refine lv_goto (tgt := 67) hx hb dX11_meadow_63 (by decide) ?_
                refine lv_icmp_ge (tgt := 187) hx hb dX11_meadow_67 (by decide) (fun c45 => ?_) (fun c45 => ?_)
                · --
                  exact iv_no (iv_le1 (b' := 7) c45 (⟨by decide, by decide⟩ : Iv 8 8 8) (⟨by decide, by decide⟩ : Iv 0 0 0) (by decide)) (by decide)
                · --
                  refine lv_aload_n hx hb dX11_meadow_70 rfl (lv_at hl 0 rfl) ?_
                  have z46 : (σ8.1 662 a0).toInt = ((σ6.1 662 a0) : Int32).toInt := congrArg Int32.toInt (show σ8.1 662 a0 = (σ6.1 662 a0) from ((kp_i eσ8 (by decide)).trans rfl))
                  have z47 : (σ8.1 660 a0).toInt = ((σ6.1 660 a0) : Int32).toInt := congrArg Int32.toInt (show σ8.1 660 a0 = (σ6.1 660 a0) from ((kp_i eσ8 (by decide)).trans rfl))
                  have z48 : (σ8.1 661 a0).toInt = ((σ6.1 661 a0) : Int32).toInt := congrArg Int32.toInt (show σ8.1 661 a0 = (σ6.1 661 a0) from ((kp_i eσ8 (by decide)).trans rfl))
                  refine o_ci hw (oRunV cx hA hw q_X11_here k_m_X11_130 rfl ha0 (by decide) (As := []) (c_X11_hereT a0 ha0 v2 (((kr_i eσ8).trans p7_1)) h2 (kn_iv (((kp_i eσ8 (by decide)).trans rfl)) (iv_w p7_2 (by decide)))) (by decide) rfl hl.1 rfl (Nat.le_of_ble_eq_true rfl) dX11_meadow_71 (by decide)) (fun v50 σ49 H locs hp hw => ?_)
                  obtain ⟨p50_0, p50_1, p50_2, p50_3, p50_4, p50_5, p50_6⟩ := hp
                  rw [p50_0] at hw
                  have hnv50 := congrArg Int32.toInt p50_6
                  refine lv_iload_n hx hb dX11_meadow_74 rfl (lv_at hl 3 rfl) ?_
                  refine o_ci hw (oRunS cx hA hw q_X11_isGround k_m_X11_146 (As := [.int v50, .int 0]) (c_X11_isGround v50 0) (by decide) rfl hl.1 rfl (Nat.le_of_ble_eq_true rfl) dX11_meadow_75 (by decide)) (fun v52 σ51 H locs hp hw => ?_)
                  obtain ⟨p52_0, p52_1, p52_2, p52_3⟩ := hp
                  rw [p52_0] at hw
                  have i53 : Iv v52 0 0 := (by have := (p52_1).1; have := (p52_1).2; have := (p7_2).1; have := (p7_2).2; have := (p7_3).1; have := (p7_3).2; have := (p7_4).1; have := (p7_4).2; have := (p7_5).1; have := (p7_5).2; have := (hf655).1; have := (hf655).2; have := (i4).1; have := (i4).2; have := (i5).1; have := (i5).2; have := (i13).1; have := (i13).2; have := (i17).1; have := (i17).2; have := (p50_1).1; have := (p50_1).2; have : (σ8.1 658 a0).toInt = (0 : Int32).toInt := congrArg Int32.toInt (show σ8.1 658 a0 = 0 from ((kp_i eσ8 (by decide)).trans ((kp_c p7_0 (by decide)).trans (kp_s eσ1)))); have : (σ8.1 660 a0).toInt = ((σ6.1 660 a0) : Int32).toInt := congrArg Int32.toInt (show σ8.1 660 a0 = (σ6.1 660 a0) from ((kp_i eσ8 (by decide)).trans rfl)); have : (σ8.1 661 a0).toInt = ((σ6.1 661 a0) : Int32).toInt := congrArg Int32.toInt (show σ8.1 661 a0 = (σ6.1 661 a0) from ((kp_i eσ8 (by decide)).trans rfl)); have : (σ8.1 662 a0).toInt = ((σ6.1 662 a0) : Int32).toInt := congrArg Int32.toInt (show σ8.1 662 a0 = (σ6.1 662 a0) from ((kp_i eσ8 (by decide)).trans rfl)); have : (σ8.1 663 a0).toInt = ((σ6.1 663 a0) : Int32).toInt := congrArg Int32.toInt (show σ8.1 663 a0 = (σ6.1 663 a0) from ((kp_i eσ8 (by decide)).trans rfl)); have : (σ8.1 655 a0).toInt = (0 : Int32).toInt := congrArg Int32.toInt (show σ8.1 655 a0 = 0 from (kp_s eσ8)); have : (0 : Int32).toInt = (0 : Int32).toInt := congrArg Int32.toInt c44; have : (0 : Int32).toInt < (8 : Int32).toInt := iv_lt.mp (iv_nle c45); have : (0 : Int32).toInt = 0 := (by decide); have : (1 : Int32).toInt = 1 := (by decide); have : (76 : Int32).toInt = 76 := (by decide); have : (8 : Int32).toInt = 8 := (by decide); exact ⟨by omega, by omega⟩)
                  refine lv_if_eq (tgt := 187) hx hb dX11_meadow_78 (by decide) (fun c54 => ?_) (fun c54 => ?_)
                  · --
                    exact J_187 _ _ hw _ (lv_sub hl [0, 1, 2, 3, 4, 5] rfl)
                  · --
                    exact iv_no (iv_ne1 c54 i53 (⟨by decide, by decide⟩ : Iv 0 0 0) (by decide)) (by decide)
        exact J_48 _ _ _ hw (Nat.lt_succ_self _) _ (lv_sub hl [1, 2, 3, 4, 5, 0] rfl)
    refine lv_if_eq (tgt := 267) hx hb dX11_meadow_42 (by decide) (fun c55 => ?_) (fun c55 => ?_)
    · --
      exact iv_no (iv_eq1 (lo := 1) (hi := 0) c55 i13 (⟨by decide, by decide⟩ : Iv 0 0 0) (by decide)) (by decide)
    · --
      exact J_45 _ _ _ hw (Nat.lt_succ_self _) _ (lv_sub hl [4, 3, 2, 1, 0] rfl)
end OM
