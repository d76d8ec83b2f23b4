section OM
variable {l : Launch} {A : Nat → Prop} {L : List Nat} {τ : Nat → Nat} {cy : Nat → ClassId} {D : va_G} {K : (Nat → Nat) × (Nat → Nat)} {σ : oSt}
abbrev fs_X11_sheet : List Nat := [658]
abbrev ts_X11_sheet : List Nat := [69]
set_option maxHeartbeats 4000000 in
set_option maxRecDepth 100000 in
theorem c_X11_sheet (a0 : Nat) (ha0 : oA L τ a0 10) (a1 : Int32) (a2 : Int32) (a3 : Int32) (a4 : Int32) : oMet l A L τ cy D K yX11_sheet cX11_sheet 9 (some .int) 1 40 [.ref a0, .int a1, .int a2, .int a3, .int a4] σ (va_Qi (fun r σ1 => oFr τ fs_X11_sheet ts_X11_sheet σ σ1) (oPo A L τ cy D) A) := by
  refine oMk (by decide) (Nat.le_of_ble_eq_true rfl) rfl ?_
  intro p e s m args below meth c ls cx rx hA hw hl
  generalize hQ : MQ below _ args s 0 0 A = Q
  have hx := cx.1.1
  have hb := cx.1.2.1
  have hml := cx.1.2.2.1
  have hown := cx.1.2.2.2.1
  have hts := cx.1.2.2.2.2
  have hl : lv_has ls 9 [(0, .ref a0), (1, .int a1), (2, .int a2), (3, .int a3), (4, .int a4)] := hl
  have fr : oFr τ fs_X11_sheet ts_X11_sheet σ σ := oFr_rf
  refine lv_aload_n hx hb dX11_sheet_0 rfl (lv_at hl 0 rfl) ?_
  refine lv_iconst (v := 0) hx hb dX11_sheet_1 (by decide) ?_
  refine p_658 cx hw ha0 k_f_X11_89 dX11_sheet_2 (fun σ1 H locs eσ1 hw => ?_)
  have fr := oFr_i fr eσ1 (by decide)
  refine lv_iload_n hx hb dX11_sheet_5 rfl (lv_at hl 1 rfl) ?_
  refine lv_iconst (v := 0) hx hb dX11_sheet_6 (by decide) ?_
  refine lv_iconst (v := 3) hx hb dX11_sheet_7 (by decide) ?_
  refine o_ci hw (oRunS cx hA hw q_X11_in k_m_X11_95 (As := [.int a1, .int 0, .int 3]) (c_X11_in a1 0 3) (by decide) rfl hl.1 rfl (Nat.le_of_ble_eq_true rfl) dX11_sheet_8 (by decide)) (fun v3 σ2 H locs hp hw => ?_)
  obtain ⟨p3_0, p3_1, p3_2, p3_3, p3_4, p3_5⟩ := hp
  rw [p3_0] at hw
  refine lv_if_eq (tgt := 20) hx hb dX11_sheet_11 (by decide) (fun c4 => ?_) (fun c4 => ?_)
  · --
    have i5 : Iv v3 0 0 := iv_eq1 c4 p3_1 (⟨by decide, by decide⟩ : Iv 0 0 0) (by decide)
    refine lv_iconst (v := (-1)) hx hb dX11_sheet_20 (by decide) ?_
    rw [← hQ]
    exact o_ri cx rx hw dX11_sheet_21 fr
  · --
    have i6 : Iv v3 1 1 := iv_ne1 c4 p3_1 (⟨by decide, by decide⟩ : Iv 0 0 0) (by decide)
    have i7 : Iv a1 0 3 := (fun h => iv_rel (p3_2 h) (⟨by decide, by decide⟩ : Iv 0 0 0) (⟨by decide, by decide⟩ : Iv 3 3 3)) c4
    refine lv_iload_n hx hb dX11_sheet_14 rfl (lv_at hl 2 rfl) ?_
    refine lv_bipush (v := 6) hx hb dX11_sheet_15 (by decide) ?_
    refine lv_icmp_le (tgt := 22) hx hb dX11_sheet_17 (by decide) (fun c8 => ?_) (fun c8 => ?_)
    · --
      have i9 : Iv a2 (-2147483648) 6 := iv_le1 c8 (iv_top a2) (⟨by decide, by decide⟩ : Iv 6 6 6) (by decide)
      refine lv_iload_n hx hb dX11_sheet_22 rfl (lv_at hl 1 rfl) ?_
      refine lv_iconst (v := 3) hx hb dX11_sheet_23 (by decide) ?_
      have J_34 : ∀ (H : Heap) (locs : List Loc), oI A L τ cy D s.heap σ1 H locs → ∀ (ls : Array Slot), lv_has ls 9 [(0, .ref a0), (1, .int a1), (2, .int a2), (3, .int a3), (4, .int a4)] → W p l e ({ frames := 1, cells := 0, slots := 0, locals := 40 } : Room) s m args below meth c H locs 0 0 Q (F0 m 34 ls []) := by
        intro  H locs hw     ls hl
        refine lv_iconst (v := 0) hx hb dX11_sheet_34 (by decide) ?_
        refine lv_istore (lv' := [(5, .int 0), (0, .ref a0), (1, .int a1), (2, .int a2), (3, .int a3), (4, .int a4)]) hx hb dX11_sheet_35 hl (by decide) rfl (fun ls hl => ?_)
        refine lv_iload_n hx hb dX11_sheet_37 rfl (lv_at hl 4 rfl) ?_
        refine lv_istore (lv' := [(6, .int a3), (5, .int 0), (0, .ref a0), (1, .int a1), (2, .int a2), (3, .int a3), (4, .int a4)]) hx hb dX11_sheet_38 hl (by decide) rfl (fun ls hl => ?_)
        refine lv_iconst (v := 0) hx hb dX11_sheet_40 (by decide) ?_
        refine lv_istore (lv' := [(7, .int 0), (6, .int a3), (5, .int 0), (0, .ref a0), (1, .int a1), (2, .int a2), (3, .int a3), (4, .int a4)]) hx hb dX11_sheet_41 hl (by decide) rfl (fun ls hl => ?_)
        have frE_43 := fr
        have J_43 : ∀ n43 : Nat, ∀ (j43_5 : Int32) (j43_6 : Int32) (j43_7 : Int32) (ij43_7 : Iv j43_7 0 6), ∀ (σ_43 : oSt) (H : Heap) (locs : List Loc), oI A L τ cy D s.heap σ_43 H locs → oFr τ fs_X11_sheet ts_X11_sheet σ σ_43 → (6 - j43_7.toInt).toNat < n43 → ∀ (ls : Array Slot), lv_has ls 9 [(0, .ref a0), (1, .int a1), (2, .int a2), (3, .int a3), (4, .int a4), (5, .int j43_5), (6, .int j43_6), (7, .int j43_7)] → W p l e ({ frames := 1, cells := 0, slots := 0, locals := 40 } : Room) s m args below meth c H locs 0 0 Q (F0 m 43 ls []) := by
          intro n43
          induction n43 with
          | zero => intro j43_5 j43_6 j43_7 ij43_7 σ_43 H locs hw fr   hn_43   ls hl; exact absurd hn_43 (Nat.not_lt_zero _)
          | succ n43 ih_43 =>
            intro j43_5 j43_6 j43_7 ij43_7 σ_43 H locs hw fr   hn_43   ls hl
            have fr_43 := fr
            refine lv_iload hx hb dX11_sheet_43 (lv_at hl 7 rfl) ?_
            refine lv_aload_n hx hb dX11_sheet_45 rfl (lv_at hl 0 rfl) ?_
            refine g_647 cx hw ha0 k_f_X11_105 dX11_sheet_46 (fun v10 e10 i10 => ?_)
            refine lv_icmp_ge (tgt := 135) hx hb dX11_sheet_49 (by decide) (fun c11 => ?_) (fun c11 => ?_)
            · --
              refine lv_iload_n hx hb dX11_sheet_135 rfl (lv_at hl 1 rfl) ?_
              refine lv_iconst (v := 3) hx hb dX11_sheet_136 (by decide) ?_
              refine lv_icmp_ne (tgt := 145) hx hb dX11_sheet_137 (by decide) (fun c12 => ?_) (fun c12 => ?_)
              · --
                have i13 : Iv a1 0 2 := iv_ne2 c12 i7 (⟨by decide, by decide⟩ : Iv 3 3 3) (by decide)
                refine lv_iload hx hb dX11_sheet_145 (lv_at hl 5 rfl) ?_
                rw [← hQ]
                exact o_ri cx rx hw dX11_sheet_147 fr
              · --
                have i14 : Iv a1 3 3 := iv_eq1 c12 i7 (⟨by decide, by decide⟩ : Iv 3 3 3) (by decide)
                refine lv_bipush (v := (-3)) hx hb dX11_sheet_140 (by decide) ?_
                refine lv_goto (tgt := 147) hx hb dX11_sheet_142 (by decide) ?_
                rw [← hQ]
                exact o_ri cx rx hw dX11_sheet_147 fr
            · --
              have i15 : Iv j43_7 0 5 := iv_lt1 (iv_nle c11) ij43_7 i10 (by decide)
              have i16 : Iv v10 1 6 := iv_lt2 (iv_nle c11) ij43_7 i10 (by decide)
              refine lv_iload_n hx hb dX11_sheet_52 rfl (lv_at hl 1 rfl) ?_
              have J_75 : ∀ (k75_0 : Int32), ∀ (H : Heap) (locs : List Loc), oI A L τ cy D s.heap σ_43 H locs → ∀ (ls : Array Slot), lv_has ls 9 [(0, .ref a0), (1, .int a1), (2, .int a2), (3, .int a3), (4, .int a4), (5, .int j43_5), (6, .int j43_6), (7, .int j43_7)] → W p l e ({ frames := 1, cells := 0, slots := 0, locals := 40 } : Room) s m args below meth c H locs 0 0 Q (F0 m 75 ls [.int k75_0]) := by
                intro k75_0 H locs hw     ls hl
                refine lv_istore (lv' := [(8, .int k75_0), (0, .ref a0), (1, .int a1), (2, .int a2), (3, .int a3), (4, .int a4), (5, .int j43_5), (6, .int j43_6), (7, .int j43_7)]) hx hb dX11_sheet_75 hl (by decide) rfl (fun ls hl => ?_)
                refine lv_aload_n hx hb dX11_sheet_77 rfl (lv_at hl 1 rfl) ?_
                refine g_648 cx hw ha0 k_f_X11_22 dX11_sheet_78 (fun v17 e17 h17 => ?_)
                refine lv_iload hx hb dX11_sheet_81 (lv_at hl 8 rfl) ?_
                refine lv_iload_n hx hb dX11_sheet_83 rfl (lv_at hl 2 rfl) ?_
                refine lv_iconst (v := 3) hx hb dX11_sheet_84 (by decide) ?_
                have J_109 : ∀ (k109_2 : Int32) (ik109_2 : Iv k109_2 0 9), ∀ (H : Heap) (locs : List Loc), oI A L τ cy D s.heap σ_43 H locs → ∀ (ls : Array Slot), lv_has ls 9 [(0, .ref a0), (1, .int a1), (2, .int a2), (3, .int a3), (4, .int a4), (5, .int j43_5), (6, .int j43_6), (7, .int j43_7), (8, .int k75_0)] → W p l e ({ frames := 1, cells := 0, slots := 0, locals := 40 } : Room) s m args below meth c H locs 0 0 Q (F0 m 109 ls [.int k109_2, .int j43_7, .ref v17]) := by
                  intro k109_2 ik109_2 H locs hw     ls hl
                  refine o_iast cx hw h17 (by decide) rfl (iv_in i15 (by decide)) trivial dX11_sheet_109 (fun σ18 H locs eσ18 hw => ?_)
                  have fr := oFr_p fr eσ18 h17 (by decide)
                  refine lv_iload hx hb dX11_sheet_110 (lv_at hl 5 rfl) ?_
                  refine lv_aload_n hx hb dX11_sheet_112 rfl (lv_at hl 0 rfl) ?_
                  refine g_648 cx hw ha0 k_f_X11_22 dX11_sheet_113 (fun v19 e19 h19 => ?_)
                  rw [show v19 = v17 from Option.some.inj (e19.symm.trans (((kr_p eσ18).trans e17)))]
                  refine lv_iload hx hb dX11_sheet_116 (lv_at hl 7 rfl) ?_
                  refine o_iald cx hw h17 (by decide) rfl (iv_in i15 (by decide)) dX11_sheet_118 (fun v20 e20 b20 => ?_)
                  refine lv_iadd hx hb dX11_sheet_119 ?_
                  refine lv_topi (fun v21 e21 => ?_)
                  refine lv_istore (lv' := [(5, .int v21), (0, .ref a0), (1, .int a1), (2, .int a2), (3, .int a3), (4, .int a4), (6, .int j43_6), (7, .int j43_7), (8, .int k75_0)]) hx hb dX11_sheet_120 hl (by decide) rfl (fun ls hl => ?_)
                  refine lv_iload hx hb dX11_sheet_122 (lv_at hl 6 rfl) ?_
                  refine lv_iload hx hb dX11_sheet_124 (lv_at hl 5 rfl) ?_
                  refine lv_iadd hx hb dX11_sheet_126 ?_
                  refine lv_topi (fun v22 e22 => ?_)
                  refine lv_istore (lv' := [(6, .int v22), (5, .int v21), (0, .ref a0), (1, .int a1), (2, .int a2), (3, .int a3), (4, .int a4), (7, .int j43_7), (8, .int k75_0)]) hx hb dX11_sheet_127 hl (by decide) rfl (fun ls hl => ?_)
                  obtain ⟨v23, e23⟩ : ∃ y : Int32, y = j43_7 + 1 := ⟨_, rfl⟩
                  have i23 : Iv v23 1 6 := iv_add e23 i15 (⟨by decide, by decide⟩ : Iv 1 1 1) (by decide)
                  have x23 : v23.toInt = j43_7.toInt + 1 := ex_add e23 i15 (⟨by decide, by decide⟩ : Iv 1 1 1) (by decide)
                  refine lv_iinc (v := v23) (lv' := [(7, .int v23), (6, .int v22), (5, .int v21), (0, .ref a0), (1, .int a1), (2, .int a2), (3, .int a3), (4, .int a4), (8, .int k75_0)]) hx hb dX11_sheet_129 hl (k := 7) rfl (by rw [e23]; rfl) (by decide) rfl (fun ls hl => ?_)
                  refine lv_goto (tgt := 43) hx hb dX11_sheet_132 (by decide) ?_
                  exact ih_43 v21 v22 v23 (iv_w i23 (by decide)) σ18 _ _ hw fr (ms_up x23 (by decide) (iv_w (a' := 0) (b' := 6) i23 (by decide)).2 hn_43) _ (lv_sub hl [3, 4, 5, 6, 7, 2, 1, 0] rfl)
                have J_94 : ∀ (H : Heap) (locs : List Loc), oI A L τ cy D s.heap σ_43 H locs → ∀ (ls : Array Slot), lv_has ls 9 [(0, .ref a0), (1, .int a1), (2, .int a2), (3, .int a3), (4, .int a4), (5, .int j43_5), (6, .int j43_6), (7, .int j43_7), (8, .int k75_0)] → W p l e ({ frames := 1, cells := 0, slots := 0, locals := 40 } : Room) s m args below meth c H locs 0 0 Q (F0 m 94 ls [.int j43_7, .ref v17]) := by
                  intro  H locs hw     ls hl
                  refine lv_iconst (v := 0) hx hb dX11_sheet_94 (by decide) ?_
                  refine lv_goto (tgt := 109) hx hb dX11_sheet_95 (by decide) ?_
                  exact J_109 0 (iv_w (⟨by decide, by decide⟩ : Iv 0 0 0) (by decide)) _ _ hw _ (lv_sub hl [0, 1, 2, 3, 4, 5, 6, 7, 8] rfl)
                refine lv_icmp_eq (tgt := 94) hx hb dX11_sheet_85 (by decide) (fun c24 => ?_) (fun c24 => ?_)
                · --
                  have i25 : Iv a1 3 3 := iv_eq1 c24 i7 (⟨by decide, by decide⟩ : Iv 3 3 3) (by decide)
                  exact J_94 _ _ hw _ (lv_sub hl [1, 2, 3, 4, 5, 6, 7, 8, 0] rfl)
                · --
                  have i26 : Iv a1 0 2 := iv_ne2 c24 i7 (⟨by decide, by decide⟩ : Iv 3 3 3) (by decide)
                  refine lv_iload hx hb dX11_sheet_88 (lv_at hl 8 rfl) ?_
                  refine lv_iload_n hx hb dX11_sheet_90 rfl (lv_at hl 3 rfl) ?_
                  refine lv_icmp_lt (tgt := 98) hx hb dX11_sheet_91 (by decide) (fun c27 => ?_) (fun c27 => ?_)
                  · --
                    have i28 : Iv a2 1 6 := iv_lt2 c27 i15 i9 (by decide)
                    refine lv_iconst (v := 0) hx hb dX11_sheet_98 (by decide) ?_
                    refine lv_bipush (v := 9) hx hb dX11_sheet_99 (by decide) ?_
                    refine lv_iload hx hb dX11_sheet_101 (lv_at hl 0 rfl) ?_
                    refine va_mmin hx hb (hml.trans hl.1.symm) hown (hts _ k_m_X11_243) (hts _ k_s_J9_min_7cf53) (hts _ k_i_J9) (hts _ k_code_J9_min_7cf53) (by decide) (Nat.le_of_ble_eq_true rfl) (by decide) (by decide) dX11_sheet_103 ?_
                    refine lv_topi (fun v29 e29 => ?_)
                    have i29 : Iv v29 (-2147483648) 9 := iv_min e29 (⟨by decide, by decide⟩ : Iv 9 9 9) (iv_top k75_0) (by decide)
                    refine va_mmax hx hb (hml.trans hl.1.symm) hown (hts _ k_m_X11_248) (hts _ k_s_J9_max_7cf53) (hts _ k_i_J9) (hts _ k_code_J9_max_7cf53) (by decide) (Nat.le_of_ble_eq_true rfl) (by decide) (by decide) dX11_sheet_106 ?_
                    refine lv_topi (fun v30 e30 => ?_)
                    have i30 : Iv v30 0 9 := iv_max e30 (⟨by decide, by decide⟩ : Iv 0 0 0) i29 (by decide)
                    exact J_109 v30 i30 _ _ hw _ (lv_sub hl [1, 2, 3, 4, 5, 6, 7, 8, 0] rfl)
                  · --
                    have i31 : Iv a2 (-2147483648) 5 := iv_le1 (iv_nlt c27) i9 i15 (by decide)
                    exact J_94 _ _ hw _ (lv_sub hl [1, 2, 3, 4, 5, 6, 7, 8, 0] rfl)
              refine lv_if_ne (tgt := 62) hx hb dX11_sheet_53 (by decide) (fun c32 => ?_) (fun c32 => ?_)
              · --
                have i33 : Iv a1 1 3 := iv_ne1 c32 i7 (⟨by decide, by decide⟩ : Iv 0 0 0) (by decide)
                refine lv_iload_n hx hb dX11_sheet_62 rfl (lv_at hl 1 rfl) ?_
                refine lv_iconst (v := 1) hx hb dX11_sheet_63 (by decide) ?_
                refine lv_icmp_ne (tgt := 73) hx hb dX11_sheet_64 (by decide) (fun c34 => ?_) (fun c34 => ?_)
                · --
                  have i35 : Iv a1 2 3 := iv_ne1 c34 i33 (⟨by decide, by decide⟩ : Iv 1 1 1) (by decide)
                  refine lv_iload hx hb dX11_sheet_73 (lv_at hl 6 rfl) ?_
                  exact J_75 j43_6 _ _ hw _ (lv_sub hl [0, 1, 2, 3, 4, 5, 6, 7] rfl)
                · --
                  have i36 : Iv a1 1 1 := iv_eq1 c34 i33 (⟨by decide, by decide⟩ : Iv 1 1 1) (by decide)
                  refine lv_iload hx hb dX11_sheet_67 (lv_at hl 6 rfl) ?_
                  refine lv_i2s hx hb dX11_sheet_69 rfl ?_
                  refine lv_topi (fun v37 e37 => ?_)
                  refine lv_goto (tgt := 75) hx hb dX11_sheet_70 (by decide) ?_
                  exact J_75 v37 _ _ hw _ (lv_sub hl [0, 1, 2, 3, 4, 5, 6, 7] rfl)
              · --
                have i38 : Iv a1 0 0 := iv_eq1 c32 i7 (⟨by decide, by decide⟩ : Iv 0 0 0) (by decide)
                refine lv_iload hx hb dX11_sheet_56 (lv_at hl 6 rfl) ?_
                refine lv_i2b hx hb dX11_sheet_58 rfl ?_
                refine lv_topi (fun v39 e39 => ?_)
                refine lv_goto (tgt := 75) hx hb dX11_sheet_59 (by decide) ?_
                exact J_75 v39 _ _ hw _ (lv_sub hl [0, 1, 2, 3, 4, 5, 6, 7] rfl)
        exact J_43 _ 0 a3 0 (iv_w (⟨by decide, by decide⟩ : Iv 0 0 0) (by decide)) σ1 _ _ hw fr (Nat.lt_succ_self _) _ (lv_sub hl [3, 4, 5, 6, 7, 2, 1, 0] rfl)
      refine lv_icmp_ge (tgt := 34) hx hb dX11_sheet_24 (by decide) (fun c40 => ?_) (fun c40 => ?_)
      · --
        have i41 : Iv a1 3 3 := iv_le2 c40 (⟨by decide, by decide⟩ : Iv 3 3 3) i7 (by decide)
        exact J_34 _ _ hw _ (lv_sub hl [0, 1, 2, 3, 4] rfl)
      · --
        have i42 : Iv a1 0 2 := iv_lt1 (iv_nle c40) i7 (⟨by decide, by decide⟩ : Iv 3 3 3) (by decide)
        refine lv_iload_n hx hb dX11_sheet_27 rfl (lv_at hl 2 rfl) ?_
        refine lv_if_ge (tgt := 34) hx hb dX11_sheet_28 (by decide) (fun c43 => ?_) (fun c43 => ?_)
        · --
          have i44 : Iv a2 0 6 := iv_le2 c43 (⟨by decide, by decide⟩ : Iv 0 0 0) i9 (by decide)
          exact J_34 _ _ hw _ (lv_sub hl [0, 1, 2, 3, 4] rfl)
        · --
          have i45 : Iv a2 (-2147483648) (-1) := iv_lt1 (iv_nle c43) i9 (⟨by decide, by decide⟩ : Iv 0 0 0) (by decide)
          refine lv_bipush (v := (-2)) hx hb dX11_sheet_31 (by decide) ?_
          rw [← hQ]
          exact o_ri cx rx hw dX11_sheet_33 fr
    · --
      have i46 : Iv a2 7 2147483647 := iv_lt2 (iv_nle c8) (⟨by decide, by decide⟩ : Iv 6 6 6) (iv_top a2) (by decide)
      refine lv_iconst (v := (-1)) hx hb dX11_sheet_20 (by decide) ?_
      rw [← hQ]
      exact o_ri cx rx hw dX11_sheet_21 fr
abbrev fs_X11_salt : List Nat := [658, 672]
abbrev ts_X11_salt : List Nat := [48, 56]
set_option maxHeartbeats 4000000 in
set_option maxRecDepth 100000 in
theorem c_X11_salt (a0 : Nat) (ha0 : oA L τ a0 10) (a1 : Int32) (a2 : Int32) : oMet l A L τ cy D K yX11_salt cX11_salt 3 (some .int) 4 90 [.ref a0, .int a1, .int a2] σ (va_Qi (fun r σ1 => oFr τ fs_X11_salt ts_X11_salt σ σ1) (oPo A L τ cy D) A) := by
  refine oMk (by decide) (Nat.le_of_ble_eq_true rfl) rfl ?_
  intro p e s m args below meth c ls cx rx hA hw hl
  generalize hQ : MQ below _ args s 0 0 A = Q
  have hx := cx.1.1
  have hb := cx.1.2.1
  have hml := cx.1.2.2.1
  have hown := cx.1.2.2.2.1
  have hts := cx.1.2.2.2.2
  have hl : lv_has ls 3 [(0, .ref a0), (1, .int a1), (2, .int a2)] := hl
  have fr : oFr τ fs_X11_salt ts_X11_salt σ σ := oFr_rf
  refine lv_aload_n hx hb dX11_salt_0 rfl (lv_at hl 0 rfl) ?_
  refine lv_iconst (v := 0) hx hb dX11_salt_1 (by decide) ?_
  refine p_658 cx hw ha0 k_f_X11_89 dX11_salt_2 (fun σ1 H locs eσ1 hw => ?_)
  have fr := oFr_i fr eσ1 (by decide)
  refine lv_aload_n hx hb dX11_salt_5 rfl (lv_at hl 0 rfl) ?_
  refine lv_bipush (v := 64) hx hb dX11_salt_6 (by decide) ?_
  refine lv_iload_n hx hb dX11_salt_8 rfl (lv_at hl 1 rfl) ?_
  refine lv_iload_n hx hb dX11_salt_9 rfl (lv_at hl 2 rfl) ?_
  refine o_ci hw (oRunV cx hA hw q_X11_layOn k_m_X11_262 rfl ha0 (by decide) (As := [.int 64, .int a1, .int a2]) (c_X11_layOn a0 ha0 64 (iv_w (⟨by decide, by decide⟩ : Iv 64 64 64) (by decide)) a1 a2) (by decide) rfl hl.1 rfl (Nat.le_of_ble_eq_true rfl) dX11_salt_10 (by decide)) (fun v3 σ2 H locs hp hw => ?_)
  have p3_0 := hp
  have fr := oFr_tr fr p3_0 (by decide)
  rw [← hQ]
  exact o_ri cx rx hw dX11_salt_13 fr
abbrev fs_X11_thistles : List Nat := [658, 672]
abbrev ts_X11_thistles : List Nat := [48, 56]
set_option maxHeartbeats 4000000 in
set_option maxRecDepth 100000 in
theorem c_X11_thistles (a0 : Nat) (ha0 : oA L τ a0 10) (a1 : Int32) (a2 : Int32) : oMet l A L τ cy D K yX11_thistles cX11_thistles 3 (some .int) 4 90 [.ref a0, .int a1, .int a2] σ (va_Qi (fun r σ1 => oFr τ fs_X11_thistles ts_X11_thistles σ σ1) (oPo A L τ cy D) A) := by
  refine oMk (by decide) (Nat.le_of_ble_eq_true rfl) rfl ?_
  intro p e s m args below meth c ls cx rx hA hw hl
  generalize hQ : MQ below _ args s 0 0 A = Q
  have hx := cx.1.1
  have hb := cx.1.2.1
  have hml := cx.1.2.2.1
  have hown := cx.1.2.2.2.1
  have hts := cx.1.2.2.2.2
  have hl : lv_has ls 3 [(0, .ref a0), (1, .int a1), (2, .int a2)] := hl
  have fr : oFr τ fs_X11_thistles ts_X11_thistles σ σ := oFr_rf
  refine lv_aload_n hx hb dX11_thistles_0 rfl (lv_at hl 0 rfl) ?_
  refine lv_iconst (v := 0) hx hb dX11_thistles_1 (by decide) ?_
  refine p_658 cx hw ha0 k_f_X11_89 dX11_thistles_2 (fun σ1 H locs eσ1 hw => ?_)
  have fr := oFr_i fr eσ1 (by decide)
  refine lv_aload_n hx hb dX11_thistles_5 rfl (lv_at hl 0 rfl) ?_
  refine lv_sipush (v := 128) hx hb dX11_thistles_6 (by decide) ?_
  refine lv_iload_n hx hb dX11_thistles_9 rfl (lv_at hl 1 rfl) ?_
  refine lv_iload_n hx hb dX11_thistles_10 rfl (lv_at hl 2 rfl) ?_
  refine o_ci hw (oRunV cx hA hw q_X11_layOn k_m_X11_262 rfl ha0 (by decide) (As := [.int 128, .int a1, .int a2]) (c_X11_layOn a0 ha0 128 (iv_w (⟨by decide, by decide⟩ : Iv 128 128 128) (by decide)) a1 a2) (by decide) rfl hl.1 rfl (Nat.le_of_ble_eq_true rfl) dX11_thistles_11 (by decide)) (fun v3 σ2 H locs hp hw => ?_)
  have p3_0 := hp
  have fr := oFr_tr fr p3_0 (by decide)
  rw [← hQ]
  exact o_ri cx rx hw dX11_thistles_14 fr
abbrev fs_X11_gate : List Nat := [658, 672]
abbrev ts_X11_gate : List Nat := [48, 56]
set_option maxHeartbeats 4000000 in
set_option maxRecDepth 100000 in
theorem c_X11_gate (a0 : Nat) (ha0 : oA L τ a0 10) (a1 : Int32) (a2 : Int32) : oMet l A L τ cy D K yX11_gate cX11_gate 4 (some .int) 2 46 [.ref a0, .int a1, .int a2] σ (va_Qi (fun r σ1 => oFr τ fs_X11_gate ts_X11_gate σ σ1 ∧ Iv r (-2) 1) (oPo A L τ cy D) A) := by
  refine oMk (by decide) (Nat.le_of_ble_eq_true rfl) rfl ?_
  intro p e s m args below meth c ls cx rx hA hw hl
  generalize hQ : MQ below _ args s 0 0 A = Q
  have hx := cx.1.1
  have hb := cx.1.2.1
  have hml := cx.1.2.2.1
  have hown := cx.1.2.2.2.1
  have hts := cx.1.2.2.2.2
  have hl : lv_has ls 4 [(0, .ref a0), (1, .int a1), (2, .int a2)] := hl
  have fr : oFr τ fs_X11_gate ts_X11_gate σ σ := oFr_rf
  refine lv_aload_n hx hb dX11_gate_0 rfl (lv_at hl 0 rfl) ?_
  refine lv_iconst (v := 0) hx hb dX11_gate_1 (by decide) ?_
  refine p_658 cx hw ha0 k_f_X11_89 dX11_gate_2 (fun σ1 H locs eσ1 hw => ?_)
  have fr := oFr_i fr eσ1 (by decide)
  refine lv_aload_n hx hb dX11_gate_5 rfl (lv_at hl 0 rfl) ?_
  refine lv_iload_n hx hb dX11_gate_6 rfl (lv_at hl 1 rfl) ?_
  refine lv_iload_n hx hb dX11_gate_7 rfl (lv_at hl 2 rfl) ?_
  refine o_ci hw (oRunV cx hA hw q_X11_refusesGate k_m_X11_266 rfl ha0 (by decide) (As := [.int a1, .int a2]) (c_X11_refusesGate a0 ha0 a1 a2) (by decide) rfl hl.1 rfl (Nat.le_of_ble_eq_true rfl) dX11_gate_8 (by decide)) (fun v3 σ2 H locs hp hw => ?_)
  obtain ⟨p3_0, p3_1, p3_2⟩ := hp
  rw [p3_0] at hw
  refine lv_istore_n (lv' := [(3, .int v3), (0, .ref a0), (1, .int a1), (2, .int a2)]) hx hb dX11_gate_11 rfl hl (by decide) rfl (fun ls hl => ?_)
  refine lv_iload_n hx hb dX11_gate_12 rfl (lv_at hl 0 rfl) ?_
  refine lv_if_ge (tgt := 18) hx hb dX11_gate_13 (by decide) (fun c4 => ?_) (fun c4 => ?_)
  · --
    have i5 : Iv a1 0 5 := p3_2 c4
    have i6 : Iv v3 0 0 := iv_le2 c4 (⟨by decide, by decide⟩ : Iv 0 0 0) p3_1 (by decide)
    refine lv_aload_n hx hb dX11_gate_18 rfl (lv_at hl 1 rfl) ?_
    refine lv_aload_n hx hb dX11_gate_19 rfl (lv_at hl 1 rfl) ?_
    refine g_640 cx hw ha0 k_f_X11_9 dX11_gate_20 (fun v7 e7 h7 => ?_)
    refine o_cv hw (oRunV cx hA hw q_X11_remember k_m_X11_258 rfl ha0 (by decide) (As := [.ref v7]) (c_X11_remember a0 ha0 v7 h7) (by decide) rfl hl.1 rfl (Nat.le_of_ble_eq_true rfl) dX11_gate_23 (by decide)) (fun σ8 H locs hp hw => ?_)
    have p9_0 := hp
    have fr := oFr_tr fr p9_0 (by decide)
    refine lv_aload_n hx hb dX11_gate_26 rfl (lv_at hl 1 rfl) ?_
    refine lv_iload_n hx hb dX11_gate_27 rfl (lv_at hl 2 rfl) ?_
    refine lv_iload_n hx hb dX11_gate_28 rfl (lv_at hl 3 rfl) ?_
    refine o_ci hw (oRunV cx hA hw q_X11_goGate k_m_X11_269 rfl ha0 (by decide) (As := [.int a1, .int a2]) (c_X11_goGate a0 ha0 a1 (iv_w i5 (by decide)) a2) (by decide) rfl hl.1 rfl (Nat.le_of_ble_eq_true rfl) dX11_gate_29 (by decide)) (fun v11 σ10 H locs hp hw => ?_)
    obtain ⟨p11_0, p11_1⟩ := hp
    have fr := oFr_tr fr p11_0 (by decide)
    rw [← hQ]
    exact o_ri cx rx hw dX11_gate_32 ⟨fr, (iv_w p11_1 (by decide))⟩
  · --
    have i12 : Iv v3 (-2) (-1) := iv_lt1 (iv_nle c4) p3_1 (⟨by decide, by decide⟩ : Iv 0 0 0) (by decide)
    refine lv_iload_n hx hb dX11_gate_16 rfl (lv_at hl 0 rfl) ?_
    rw [← hQ]
    exact o_ri cx rx hw dX11_gate_17 ⟨fr, (iv_w i12 (by decide))⟩
abbrev fs_X11_drive : List Nat := [658, 672]
abbrev ts_X11_drive : List Nat := [48, 56]
set_option maxHeartbeats 4000000 in
set_option maxRecDepth 100000 in
theorem c_X11_drive (a0 : Nat) (ha0 : oA L τ a0 10) (a1 : Int32) (a2 : Int32) : oMet l A L τ cy D K yX11_drive cX11_drive 4 (some .int) 3 69 [.ref a0, .int a1, .int a2] σ (va_Qi (fun r σ1 => oFr τ fs_X11_drive ts_X11_drive σ σ1 ∧ Iv r (-2) 63) (oPo A L τ cy D) A) := by
  refine oMk (by decide) (Nat.le_of_ble_eq_true rfl) rfl ?_
  intro p e s m args below meth c ls cx rx hA hw hl
  generalize hQ : MQ below _ args s 0 0 A = Q
  have hx := cx.1.1
  have hb := cx.1.2.1
  have hml := cx.1.2.2.1
  have hown := cx.1.2.2.2.1
  have hts := cx.1.2.2.2.2
  have hl : lv_has ls 4 [(0, .ref a0), (1, .int a1), (2, .int a2)] := hl
  have fr : oFr τ fs_X11_drive ts_X11_drive σ σ := oFr_rf
  refine lv_aload_n hx hb dX11_drive_0 rfl (lv_at hl 0 rfl) ?_
  refine lv_iconst (v := 0) hx hb dX11_drive_1 (by decide) ?_
  refine p_658 cx hw ha0 k_f_X11_89 dX11_drive_2 (fun σ1 H locs eσ1 hw => ?_)
  have fr := oFr_i fr eσ1 (by decide)
  refine lv_aload_n hx hb dX11_drive_5 rfl (lv_at hl 0 rfl) ?_
  refine lv_iload_n hx hb dX11_drive_6 rfl (lv_at hl 1 rfl) ?_
  refine lv_iload_n hx hb dX11_drive_7 rfl (lv_at hl 2 rfl) ?_
  refine o_ci hw (oRunV cx hA hw q_X11_refusesDrive k_m_X11_272 rfl ha0 (by decide) (As := [.int a1, .int a2]) (c_X11_refusesDrive a0 ha0 a1 a2) (by decide) rfl hl.1 rfl (Nat.le_of_ble_eq_true rfl) dX11_drive_8 (by decide)) (fun v3 σ2 H locs hp hw => ?_)
  obtain ⟨p3_0, p3_1, p3_2, p3_3⟩ := hp
  rw [p3_0] at hw
  refine lv_istore_n (lv' := [(3, .int v3), (0, .ref a0), (1, .int a1), (2, .int a2)]) hx hb dX11_drive_11 rfl hl (by decide) rfl (fun ls hl => ?_)
  refine lv_iload_n hx hb dX11_drive_12 rfl (lv_at hl 0 rfl) ?_
  refine lv_if_ge (tgt := 18) hx hb dX11_drive_13 (by decide) (fun c4 => ?_) (fun c4 => ?_)
  · --
    have i5 : Iv a1 0 5 := p3_2 c4
    have i6 : Iv a2 0 63 := p3_3 c4
    have i7 : Iv v3 0 0 := iv_le2 c4 (⟨by decide, by decide⟩ : Iv 0 0 0) p3_1 (by decide)
    refine lv_aload_n hx hb dX11_drive_18 rfl (lv_at hl 1 rfl) ?_
    refine lv_aload_n hx hb dX11_drive_19 rfl (lv_at hl 1 rfl) ?_
    refine g_640 cx hw ha0 k_f_X11_9 dX11_drive_20 (fun v8 e8 h8 => ?_)
    refine o_cv hw (oRunV cx hA hw q_X11_remember k_m_X11_258 rfl ha0 (by decide) (As := [.ref v8]) (c_X11_remember a0 ha0 v8 h8) (by decide) rfl hl.1 rfl (Nat.le_of_ble_eq_true rfl) dX11_drive_23 (by decide)) (fun σ9 H locs hp hw => ?_)
    have p10_0 := hp
    have fr := oFr_tr fr p10_0 (by decide)
    refine lv_aload_n hx hb dX11_drive_26 rfl (lv_at hl 1 rfl) ?_
    refine lv_iload_n hx hb dX11_drive_27 rfl (lv_at hl 2 rfl) ?_
    refine lv_iload_n hx hb dX11_drive_28 rfl (lv_at hl 3 rfl) ?_
    refine o_ci hw (oRunV cx hA hw q_X11_goDrive k_m_X11_275 rfl ha0 (by decide) (As := [.int a1, .int a2]) (c_X11_goDrive a0 ha0 a1 (iv_w i5 (by decide)) a2 (iv_w i6 (by decide))) (by decide) rfl hl.1 rfl (Nat.le_of_ble_eq_true rfl) dX11_drive_29 (by decide)) (fun v12 σ11 H locs hp hw => ?_)
    obtain ⟨p12_0, p12_1⟩ := hp
    have fr := oFr_tr fr p12_0 (by decide)
    rw [← hQ]
    exact o_ri cx rx hw dX11_drive_32 ⟨fr, (iv_w p12_1 (by decide))⟩
  · --
    have i13 : Iv v3 (-2) (-1) := iv_lt1 (iv_nle c4) p3_1 (⟨by decide, by decide⟩ : Iv 0 0 0) (by decide)
    refine lv_iload_n hx hb dX11_drive_16 rfl (lv_at hl 0 rfl) ?_
    rw [← hQ]
    exact o_ri cx rx hw dX11_drive_17 ⟨fr, (iv_w i13 (by decide))⟩
abbrev fs_X11_hour : List Nat := [657, 658, 659, 660, 661, 662, 663, 669, 672]
abbrev ts_X11_hour : List Nat := [48, 52, 55, 56]
set_option maxHeartbeats 4000000 in
set_option maxRecDepth 100000 in
theorem c_X11_hour (a0 : Nat) (ha0 : oA L τ a0 10) : oMet l A L τ cy D K yX11_hour cX11_hour 1 (some .int) 342 8596 [.ref a0] σ (va_Qi (fun r σ1 => oFr τ fs_X11_hour ts_X11_hour σ σ1) (oPo A L τ cy D) A) := by
  refine oMk (by decide) (Nat.le_of_ble_eq_true rfl) rfl ?_
  intro p e s m args below meth c ls cx rx hA hw hl
  generalize hQ : MQ below _ args s 0 0 A = Q
  have hx := cx.1.1
  have hb := cx.1.2.1
  have hml := cx.1.2.2.1
  have hown := cx.1.2.2.2.1
  have hts := cx.1.2.2.2.2
  have hl : lv_has ls 1 [(0, .ref a0)] := hl
  have fr : oFr τ fs_X11_hour ts_X11_hour σ σ := oFr_rf
  refine lv_aload_n hx hb dX11_hour_0 rfl (lv_at hl 0 rfl) ?_
  refine lv_iconst (v := 1) hx hb dX11_hour_1 (by decide) ?_
  refine o_ci hw (oRunV cx hA hw q_X11_hours k_m_X11_282 rfl ha0 (by decide) (As := [.int 1]) (c_X11_hours a0 ha0 1) (by decide) rfl hl.1 rfl (Nat.le_of_ble_eq_true rfl) dX11_hour_2 (by decide)) (fun v2 σ1 H locs hp hw => ?_)
  have p2_0 := hp
  have fr := oFr_tr fr p2_0 (by decide)
  rw [← hQ]
  exact o_ri cx rx hw dX11_hour_5 fr
abbrev fs_X11_day : List Nat := [655, 657, 658, 659, 660, 661, 662, 663, 669, 672, 675]
abbrev ts_X11_day : List Nat := [48, 52, 55, 56, 57]
set_option maxHeartbeats 4000000 in
set_option maxRecDepth 100000 in
theorem c_X11_day (a0 : Nat) (ha0 : oA L τ a0 10) : oMet l A L τ cy D K yX11_day cX11_day 4 (some .int) 342 8598 [.ref a0] σ (va_Qi (fun r σ1 => oFr τ fs_X11_day ts_X11_day σ σ1 ∧ Iv r (-201) 58 ∧ Iv (σ1.1 655 a0) 0 0) (oPo A L τ cy D) A) := by
  refine oMk (by decide) (Nat.le_of_ble_eq_true rfl) rfl ?_
  intro p e s m args below meth c ls cx rx hA hw hl
  generalize hQ : MQ below _ args s 0 0 A = Q
  have hx := cx.1.1
  have hb := cx.1.2.1
  have hml := cx.1.2.2.1
  have hown := cx.1.2.2.2.1
  have hts := cx.1.2.2.2.2
  have hl : lv_has ls 4 [(0, .ref a0)] := hl
  have fr : oFr τ fs_X11_day ts_X11_day σ σ := oFr_rf
  refine lv_aload_n hx hb dX11_day_0 rfl (lv_at hl 0 rfl) ?_
  refine lv_iconst (v := 0) hx hb dX11_day_1 (by decide) ?_
  refine p_658 cx hw ha0 k_f_X11_89 dX11_day_2 (fun σ1 H locs eσ1 hw => ?_)
  have fr := oFr_i fr eσ1 (by decide)
  refine lv_aload_n hx hb dX11_day_5 rfl (lv_at hl 0 rfl) ?_
  refine lv_aload_n hx hb dX11_day_6 rfl (lv_at hl 0 rfl) ?_
  refine g_654 cx hw ha0 k_f_X11_32 dX11_day_7 (fun v2 e2 h2 => ?_)
  refine lv_aload_n hx hb dX11_day_10 rfl (lv_at hl 0 rfl) ?_
  refine g_655 cx hw ha0 k_f_X11_108 dX11_day_11 (fun v3 e3 i3 => ?_)
  have z3 : v3.toInt = (σ1.1 655 a0).toInt := congrArg Int32.toInt e3
  refine lv_bipush (v := 60) hx hb dX11_day_14 (by decide) ?_
  have i4 : Iv (σ1.1 660 a0) 0 80 := o_fb (j := 660) hw ha0 rfl
  have i5 : Iv (σ1.1 661 a0) 0 80 := o_fb (j := 661) hw ha0 rfl
  refine o_cv hw (oRunV cx hA hw q_X11_begin k_m_X11_142 rfl ha0 (by decide) (As := [.ref v2, .int v3, .int 60]) (c_X11_beginT a0 ha0 v2 h2 v3 (iv_w i3 (by decide)) 60 (iv_w (⟨by decide, by decide⟩ : Iv 60 60 60) (by decide))) (by decide) rfl hl.1 rfl (Nat.le_of_ble_eq_true rfl) dX11_day_16 (by decide)) (fun σ6 H locs hp hw => ?_)
  obtain ⟨p7_0, p7_1, p7_2, p7_3, p7_4, p7_5, p7_6⟩ := hp
  have fr := oFr_tr fr p7_0 (by decide)
  refine lv_aload_n hx hb dX11_day_19 rfl (lv_at hl 0 rfl) ?_
  refine lv_iconst (v := 0) hx hb dX11_day_20 (by decide) ?_
  refine p_655 cx hw ha0 (iv_w (⟨by decide, by decide⟩ : Iv 0 0 0) (by decide)) k_f_X11_108 dX11_day_21 (fun σ8 H locs eσ8 hw => ?_)
  have fr := oFr_i fr eσ8 (by decide)
  refine lv_iconst (v := 0) hx hb dX11_day_24 (by decide) ?_
  refine lv_istore_n (lv' := [(1, .int 0), (0, .ref a0)]) hx hb dX11_day_25 rfl hl (by decide) rfl (fun ls hl => ?_)
  refine lv_aload_n hx hb dX11_day_26 rfl (lv_at hl 1 rfl) ?_
  refine g_660 cx hw ha0 k_f_X11_114 dX11_day_27 (fun v9 e9 i9 => ?_)
  rw [show v9 = (σ6.1 660 a0) from e9.trans ((kp_i eσ8 (by decide)).trans rfl)]
  have J_38 : ∀ (k38_0 : Int32) (ik38_0 : Iv k38_0 0 1), ∀ (H : Heap) (locs : List Loc), oI A L τ cy D s.heap σ8 H locs → ∀ (ls : Array Slot), lv_has ls 4 [(0, .ref a0), (1, .int 0)] → W p l e ({ frames := 342, cells := 0, slots := 0, locals := 8598 } : Room) s m args below meth c H locs 0 0 Q (F0 m 38 ls [.int k38_0]) := by
    intro k38_0 ik38_0 H locs hw     ls hl
    refine lv_istore_n (lv' := [(2, .int k38_0), (0, .ref a0), (1, .int 0)]) hx hb dX11_day_38 rfl hl (by decide) rfl (fun ls hl => ?_)
    refine lv_iload_n hx hb dX11_day_39 rfl (lv_at hl 0 rfl) ?_
    have frE_70 := fr
    have J_70 : ∀ (j70_1 : Int32) (ij70_1 : Iv j70_1 0 41) (j70_2 : Int32) (ij70_2 : Iv j70_2 0 1), ∀ (σ_70 : oSt) (H : Heap) (locs : List Loc), oI A L τ cy D s.heap σ_70 H locs → oFr τ fs_X11_day ts_X11_day σ σ_70 → Iv (σ_70.1 655 a0) 0 0 → Iv (σ_70.1 660 a0) 0 80 → Iv (σ_70.1 661 a0) 0 80 → Iv (σ_70.1 662 a0) 0 200 → Iv (σ_70.1 663 a0) (-1) 200 → σ_70.2.2.2.2 659 a0 = some v2 → ∀ (ls : Array Slot), lv_has ls 4 [(0, .ref a0), (1, .int j70_1), (2, .int j70_2)] → W p l e ({ frames := 342, cells := 0, slots := 0, locals := 8598 } : Room) s m args below meth c H locs 0 0 Q (F0 m 70 ls []) := by
      intro j70_1 ij70_1 j70_2 ij70_2 σ_70 H locs hw fr f70_655_a0 f70_660_a0 f70_661_a0 f70_662_a0 f70_663_a0 r70_659     ls hl
      have fr_70 := fr
      refine lv_aload_n hx hb dX11_day_70 rfl (lv_at hl 0 rfl) ?_
      refine g_662 cx hw ha0 k_f_X11_120 dX11_day_71 (fun v10 e10 i10 => ?_)
      rw [show v10 = (σ_70.1 662 a0) from e10.trans rfl]
      refine lv_aload_n hx hb dX11_day_74 rfl (lv_at hl 0 rfl) ?_
      refine g_660 cx hw ha0 k_f_X11_114 dX11_day_75 (fun v11 e11 i11 => ?_)
      rw [show v11 = (σ_70.1 660 a0) from e11.trans rfl]
      have frE_89 := fr
      have J_89 : ∀ (σ_89 : oSt) (H : Heap) (locs : List Loc), oI A L τ cy D s.heap σ_89 H locs → oFr τ fs_X11_day ts_X11_day σ σ_89 → Iv (σ_89.1 655 a0) 0 0 → Iv (σ_89.1 660 a0) 0 80 → Iv (σ_89.1 661 a0) 0 80 → Iv (σ_89.1 662 a0) 0 200 → Iv (σ_89.1 663 a0) (-1) 200 → σ_89.2.2.2.2 659 a0 = some v2 → ∀ (ls : Array Slot), lv_has ls 4 [(0, .ref a0), (1, .int j70_1), (2, .int j70_2)] → W p l e ({ frames := 342, cells := 0, slots := 0, locals := 8598 } : Room) s m args below meth c H locs 0 0 Q (F0 m 89 ls []) := by
        intro  σ_89 H locs hw fr f89_655_a0 f89_660_a0 f89_661_a0 f89_662_a0 f89_663_a0 r89_659     ls hl
        have fr_89 := fr
        refine lv_aload_n hx hb dX11_day_89 rfl (lv_at hl 0 rfl) ?_
        refine o_ci hw (oRunV cx hA hw q_X11_fine k_m_X11_126 rfl ha0 (by decide) (As := []) (c_X11_fine a0 ha0) (by decide) rfl hl.1 rfl (Nat.le_of_ble_eq_true rfl) dX11_day_90 (by decide)) (fun v13 σ12 H locs hp hw => ?_)
        obtain ⟨p13_0, p13_1, p13_2⟩ := hp
        rw [p13_0] at hw
        refine lv_if_ne (tgt := 103) hx hb dX11_day_93 (by decide) (fun c14 => ?_) (fun c14 => ?_)
        · --
          have i15 : Iv v13 1 1 := iv_ne1 c14 p13_1 (⟨by decide, by decide⟩ : Iv 0 0 0) (by decide)
          have i16 : Iv (σ_89.1 663 a0) (-1) (-1) := (fun h => (by have := nz_ti h; have := (ij70_1).1; have := (ij70_1).2; have := (ij70_2).1; have := (ij70_2).2; have := (p13_1).1; have := (p13_1).2; have := (f89_660_a0).1; have := (f89_660_a0).2; have := (f89_661_a0).1; have := (f89_661_a0).2; have := (f89_662_a0).1; have := (f89_662_a0).2; have := (f89_655_a0).1; have := (f89_655_a0).2; have := (f89_663_a0).1; have := (f89_663_a0).2; have := (i4).1; have := (i4).2; have := (i5).1; have := (i5).2; have := (p7_2).1; have := (p7_2).2; have := (p7_3).1; have := (p7_3).2; have := (p7_4).1; have := (p7_4).2; have := (p7_5).1; have := (p7_5).2; have := (ik38_0).1; have := (ik38_0).2; have : (60 : Int32).toInt = 60 := (by decide); exact ⟨by omega, by omega⟩)) c14
          refine lv_aload_n hx hb dX11_day_103 rfl (lv_at hl 0 rfl) ?_
          refine g_640 cx hw ha0 k_f_X11_9 dX11_day_104 (fun v17 e17 h17 => ?_)
          refine lv_aload_n hx hb dX11_day_107 rfl (lv_at hl 0 rfl) ?_
          refine g_673 cx hw ha0 k_f_X11_58 dX11_day_108 (fun v18 e18 h18 => ?_)
          refine lv_iconst (v := 0) hx hb dX11_day_111 (by decide) ?_
          refine o_cv hw (oRunS cx hA hw q_X11_lay k_m_X11_251 (As := [.ref v17, .ref v18, .int 0]) (c_X11_layN v17 h17 v18 h18 0 (iv_w (⟨by decide, by decide⟩ : Iv 0 0 0) (by decide))) (by decide) rfl hl.1 rfl (Nat.le_of_ble_eq_true rfl) dX11_day_112 (by decide)) (fun σ19 H locs hp hw => ?_)
          have p20_0 := hp
          have fr := oFr_tr fr p20_0 (by decide)
          refine lv_aload_n hx hb dX11_day_115 rfl (lv_at hl 0 rfl) ?_
          refine lv_iconst (v := 0) hx hb dX11_day_116 (by decide) ?_
          refine p_675 cx hw ha0 k_f_X11_295 dX11_day_117 (fun σ21 H locs eσ21 hw => ?_)
          have fr := oFr_i fr eσ21 (by decide)
          refine lv_iconst (v := 0) hx hb dX11_day_120 (by decide) ?_
          refine lv_istore_n (lv' := [(3, .int 0), (0, .ref a0), (1, .int j70_1), (2, .int j70_2)]) hx hb dX11_day_121 rfl hl (by decide) rfl (fun ls hl => ?_)
          have frE_122 := fr
          have J_122 : ∀ n122 : Nat, ∀ (j122_3 : Int32) (ij122_3 : Iv j122_3 0 58), ∀ (σ_122 : oSt) (H : Heap) (locs : List Loc), oI A L τ cy D s.heap σ_122 H locs → oFr τ fs_X11_day ts_X11_day σ σ_122 → Iv (σ_122.1 655 a0) 0 0 → (58 - j122_3.toInt).toNat < n122 → ∀ (ls : Array Slot), lv_has ls 4 [(0, .ref a0), (1, .int j70_1), (2, .int j70_2), (3, .int j122_3)] → W p l e ({ frames := 342, cells := 0, slots := 0, locals := 8598 } : Room) s m args below meth c H locs 0 0 Q (F0 m 122 ls []) := by
            intro n122
            induction n122 with
            | zero => intro j122_3 ij122_3 σ_122 H locs hw fr f122_655_a0  hn_122   ls hl; exact absurd hn_122 (Nat.not_lt_zero _)
            | succ n122 ih_122 =>
              intro j122_3 ij122_3 σ_122 H locs hw fr f122_655_a0  hn_122   ls hl
              have fr_122 := fr
              refine lv_iload_n hx hb dX11_day_122 rfl (lv_at hl 3 rfl) ?_
              refine lv_iload_n hx hb dX11_day_123 rfl (lv_at hl 1 rfl) ?_
              have frE_178 := fr
              have J_178 : ∀ (σ_178 : oSt) (H : Heap) (locs : List Loc), oI A L τ cy D s.heap σ_178 H locs → oFr τ fs_X11_day ts_X11_day σ σ_178 → Iv (σ_178.1 655 a0) 0 0 → ∀ (ls : Array Slot), lv_has ls 4 [(0, .ref a0), (1, .int j70_1), (2, .int j70_2), (3, .int j122_3)] → W p l e ({ frames := 342, cells := 0, slots := 0, locals := 8598 } : Room) s m args below meth c H locs 0 0 Q (F0 m 178 ls []) := by
                intro  σ_178 H locs hw fr f178_655_a0     ls hl
                have fr_178 := fr
                refine lv_iload_n hx hb dX11_day_178 rfl (lv_at hl 3 rfl) ?_
                have frE_190 := fr
                have J_190 : ∀ (σ_190 : oSt) (H : Heap) (locs : List Loc), oI A L τ cy D s.heap σ_190 H locs → oFr τ fs_X11_day ts_X11_day σ σ_190 → Iv (σ_190.1 655 a0) 0 0 → ∀ (ls : Array Slot), lv_has ls 4 [(0, .ref a0), (1, .int j70_1), (2, .int j70_2), (3, .int j122_3)] → W p l e ({ frames := 342, cells := 0, slots := 0, locals := 8598 } : Room) s m args below meth c H locs 0 0 Q (F0 m 190 ls []) := by
                  intro  σ_190 H locs hw fr f190_655_a0     ls hl
                  have fr_190 := fr
                  refine lv_aload_n hx hb dX11_day_190 rfl (lv_at hl 0 rfl) ?_
                  refine lv_iconst (v := 0) hx hb dX11_day_191 (by decide) ?_
                  refine p_657 cx hw ha0 (iv_w (⟨by decide, by decide⟩ : Iv 0 0 0) (by decide)) k_f_X11_92 dX11_day_192 (fun σ22 H locs eσ22 hw => ?_)
                  have fr := oFr_i fr eσ22 (by decide)
                  refine lv_aload_n hx hb dX11_day_195 rfl (lv_at hl 0 rfl) ?_
                  refine lv_iload_n hx hb dX11_day_196 rfl (lv_at hl 3 rfl) ?_
                  refine lv_iload_n hx hb dX11_day_197 rfl (lv_at hl 1 rfl) ?_
                  have J_206 : ∀ (k206_1 : Int64), ∀ (H : Heap) (locs : List Loc), oI A L τ cy D s.heap σ22 H locs → ∀ (ls : Array Slot), lv_has ls 4 [(0, .ref a0), (1, .int j70_1), (2, .int j70_2), (3, .int j122_3)] → W p l e ({ frames := 342, cells := 0, slots := 0, locals := 8598 } : Room) s m args below meth c H locs 0 0 Q (F0 m 206 ls [.long k206_1, .ref a0]) := by
                    intro k206_1 H locs hw     ls hl
                    refine o_cv hw (oRunV cx hA hw q_X11_tell k_m_X11_278 rfl ha0 (by decide) (As := [.long k206_1]) (c_X11_tell a0 ha0 k206_1 (kn_iv ((kp_s eσ22)) (iv_w (⟨by decide, by decide⟩ : Iv 0 0 0) (by decide)))) (by decide) rfl hl.1 rfl (Nat.le_of_ble_eq_true rfl) dX11_day_206 (by decide)) (fun σ23 H locs hp hw => ?_)
                    obtain ⟨p24_0, p24_1⟩ := hp
                    have fr := oFr_tr fr p24_0 (by decide)
                    have x26 : (σ23.1 657 a0).toInt = (0 : Int32).toInt + 1 := fin_tr p24_1 ((kp_s eσ22))
                    have i25 : Iv (σ23.1 657 a0) 1 1 := iv_fin x26 (⟨by decide, by decide⟩ : Iv 0 0 0) (by decide)
                    refine lv_aload_n hx hb dX11_day_209 rfl (lv_at hl 0 rfl) ?_
                    refine lv_aload_n hx hb dX11_day_210 rfl (lv_at hl 0 rfl) ?_
                    refine g_675 cx hw ha0 k_f_X11_295 dX11_day_211 (fun v27 e27 => ?_)
                    have z27 : v27.toInt = (σ23.1 675 a0).toInt := congrArg Int32.toInt e27
                    refine lv_i2l hx hb dX11_day_214 rfl ?_
                    refine lv_topl (fun v28 e28 => ?_)
                    refine o_cv hw (oRunV cx hA hw q_X11_tell k_m_X11_278 rfl ha0 (by decide) (As := [.long v28]) (c_X11_tell a0 ha0 v28 (kn_iv (rfl) (iv_w i25 (by decide)))) (by decide) rfl hl.1 rfl (Nat.le_of_ble_eq_true rfl) dX11_day_215 (by decide)) (fun σ29 H locs hp hw => ?_)
                    obtain ⟨p30_0, p30_1⟩ := hp
                    have fr := oFr_tr fr p30_0 (by decide)
                    have x32 : (σ29.1 657 a0).toInt = (σ23.1 657 a0).toInt + 1 := fin_tr p30_1 (rfl)
                    have i31 : Iv (σ29.1 657 a0) 2 2 := iv_fin x32 i25 (by decide)
                    refine lv_iload_n hx hb dX11_day_218 rfl (lv_at hl 3 rfl) ?_
                    rw [← hQ]
                    exact o_ri cx rx hw dX11_day_219 ⟨fr, (iv_w ij122_3 (by decide)), (kn_iv (((kp_c p30_0 (by decide)).trans ((kp_c p24_0 (by decide)).trans ((kp_i eσ22 (by decide)).trans rfl)))) (iv_w f190_655_a0 (by decide)))⟩
                  refine lv_icmp_ge (tgt := 205) hx hb dX11_day_198 (by decide) (fun c33 => ?_) (fun c33 => ?_)
                  · --
                    refine lv_lconst (v := 0) hx hb dX11_day_205 (by decide) ?_
                    exact J_206 0 _ _ hw _ (lv_sub hl [0, 1, 2, 3] rfl)
                  · --
                    have i34 : Iv j122_3 0 40 := iv_lt1 (iv_nle c33) ij122_3 ij70_1 (by decide)
                    have i35 : Iv j70_1 1 41 := iv_lt2 (iv_nle c33) ij122_3 ij70_1 (by decide)
                    refine lv_lconst (v := 1) hx hb dX11_day_201 (by decide) ?_
                    refine lv_goto (tgt := 206) hx hb dX11_day_202 (by decide) ?_
                    exact J_206 1 _ _ hw _ (lv_sub hl [0, 1, 2, 3] rfl)
                refine lv_if_le (tgt := 190) hx hb dX11_day_179 (by decide) (fun c36 => ?_) (fun c36 => ?_)
                · --
                  have i37 : Iv j122_3 0 0 := iv_le1 c36 ij122_3 (⟨by decide, by decide⟩ : Iv 0 0 0) (by decide)
                  exact J_190 σ_178 _ _ hw fr (kn_iv (rfl) (iv_w f178_655_a0 (by decide))) _ (lv_sub hl [0, 1, 2, 3] rfl)
                · --
                  have i38 : Iv j122_3 1 58 := iv_lt2 (iv_nle c36) (⟨by decide, by decide⟩ : Iv 0 0 0) ij122_3 (by decide)
                  refine lv_aload_n hx hb dX11_day_182 rfl (lv_at hl 0 rfl) ?_
                  refine lv_aload_n hx hb dX11_day_183 rfl (lv_at hl 0 rfl) ?_
                  refine g_673 cx hw ha0 k_f_X11_58 dX11_day_184 (fun v39 e39 h39 => ?_)
                  rw [show v39 = v18 from Option.some.inj (e39.symm.trans (((kr_c fr_178 (by decide)).trans ((kr_c frE_178 (by decide)).symm.trans (((kr_c fr_122 (by decide)).trans ((kr_c frE_122 (by decide)).symm.trans (((kr_i eσ21).trans ((kr_c p20_0 (by decide)).trans e18))))))))))]
                  refine o_cv hw (oRunV cx hA hw q_X11_remember k_m_X11_258 rfl ha0 (by decide) (As := [.ref v18]) (c_X11_remember a0 ha0 v18 h18) (by decide) rfl hl.1 rfl (Nat.le_of_ble_eq_true rfl) dX11_day_187 (by decide)) (fun σ40 H locs hp hw => ?_)
                  have p41_0 := hp
                  have fr := oFr_tr fr p41_0 (by decide)
                  exact J_190 σ40 _ _ hw fr (kn_iv (((kp_c p41_0 (by decide)).trans rfl)) (iv_w f178_655_a0 (by decide))) _ (lv_sub hl [0, 1, 2, 3] rfl)
              refine lv_icmp_ge (tgt := 178) hx hb dX11_day_124 (by decide) (fun c42 => ?_) (fun c42 => ?_)
              · --
                exact J_178 σ_122 _ _ hw fr (kn_iv (rfl) (iv_w f122_655_a0 (by decide))) _ (lv_sub hl [0, 1, 2, 3] rfl)
              · --
                have i43 : Iv j122_3 0 40 := iv_lt1 (iv_nle c42) ij122_3 ij70_1 (by decide)
                have i44 : Iv j70_1 1 41 := iv_lt2 (iv_nle c42) ij122_3 ij70_1 (by decide)
                refine lv_aload_n hx hb dX11_day_127 rfl (lv_at hl 0 rfl) ?_
                refine lv_aload_n hx hb dX11_day_128 rfl (lv_at hl 0 rfl) ?_
                refine g_674 cx hw ha0 k_f_X11_61 dX11_day_129 (fun v45 e45 h45 => ?_)
                refine lv_iconst (v := 4) hx hb dX11_day_132 (by decide) ?_
                refine lv_iload_n hx hb dX11_day_133 rfl (lv_at hl 3 rfl) ?_
                refine lv_imul hx hb dX11_day_134 ?_
                refine lv_topi (fun v46 e46 => ?_)
                have i46 : Iv v46 0 160 := iv_mul e46 (⟨by decide, by decide⟩ : Iv 4 4 4) i43 (by decide)
                refine o_iald cx hw h45 (by decide) rfl (iv_in i46 (by decide)) dX11_day_135 (fun v47 e47 b47 => ?_)
                refine lv_aload_n hx hb dX11_day_136 rfl (lv_at hl 0 rfl) ?_
                refine g_674 cx hw ha0 k_f_X11_61 dX11_day_137 (fun v48 e48 h48 => ?_)
                rw [show v48 = v45 from Option.some.inj (e48.symm.trans (e45))]
                refine lv_iconst (v := 4) hx hb dX11_day_140 (by decide) ?_
                refine lv_iload_n hx hb dX11_day_141 rfl (lv_at hl 3 rfl) ?_
                refine lv_imul hx hb dX11_day_142 ?_
                refine lv_topi (fun v49 e49 => ?_)
                have i49 : Iv v49 0 160 := iv_mul e49 (⟨by decide, by decide⟩ : Iv 4 4 4) i43 (by decide)
                refine lv_iconst (v := 1) hx hb dX11_day_143 (by decide) ?_
                refine lv_iadd hx hb dX11_day_144 ?_
                refine lv_topi (fun v50 e50 => ?_)
                have i50 : Iv v50 1 161 := iv_add e50 i49 (⟨by decide, by decide⟩ : Iv 1 1 1) (by decide)
                have x50 : v50.toInt = v49.toInt + 1 := ex_add e50 i49 (⟨by decide, by decide⟩ : Iv 1 1 1) (by decide)
                refine o_iald cx hw h45 (by decide) rfl (iv_in i50 (by decide)) dX11_day_145 (fun v51 e51 b51 => ?_)
                refine lv_aload_n hx hb dX11_day_146 rfl (lv_at hl 0 rfl) ?_
                refine g_674 cx hw ha0 k_f_X11_61 dX11_day_147 (fun v52 e52 h52 => ?_)
                rw [show v52 = v45 from Option.some.inj (e52.symm.trans (e45))]
                refine lv_iconst (v := 4) hx hb dX11_day_150 (by decide) ?_
                refine lv_iload_n hx hb dX11_day_151 rfl (lv_at hl 3 rfl) ?_
                refine lv_imul hx hb dX11_day_152 ?_
                refine lv_topi (fun v53 e53 => ?_)
                have i53 : Iv v53 0 160 := iv_mul e53 (⟨by decide, by decide⟩ : Iv 4 4 4) i43 (by decide)
                refine lv_iconst (v := 2) hx hb dX11_day_153 (by decide) ?_
                refine lv_iadd hx hb dX11_day_154 ?_
                refine lv_topi (fun v54 e54 => ?_)
                have i54 : Iv v54 2 162 := iv_add e54 i53 (⟨by decide, by decide⟩ : Iv 2 2 2) (by decide)
                have x54 : v54.toInt = v53.toInt + 2 := ex_add e54 i53 (⟨by decide, by decide⟩ : Iv 2 2 2) (by decide)
                refine o_iald cx hw h45 (by decide) rfl (iv_in i54 (by decide)) dX11_day_155 (fun v55 e55 b55 => ?_)
                refine lv_aload_n hx hb dX11_day_156 rfl (lv_at hl 0 rfl) ?_
                refine g_674 cx hw ha0 k_f_X11_61 dX11_day_157 (fun v56 e56 h56 => ?_)
                rw [show v56 = v45 from Option.some.inj (e56.symm.trans (e45))]
                refine lv_iconst (v := 4) hx hb dX11_day_160 (by decide) ?_
                refine lv_iload_n hx hb dX11_day_161 rfl (lv_at hl 3 rfl) ?_
                refine lv_imul hx hb dX11_day_162 ?_
                refine lv_topi (fun v57 e57 => ?_)
                have i57 : Iv v57 0 160 := iv_mul e57 (⟨by decide, by decide⟩ : Iv 4 4 4) i43 (by decide)
                refine lv_iconst (v := 3) hx hb dX11_day_163 (by decide) ?_
                refine lv_iadd hx hb dX11_day_164 ?_
                refine lv_topi (fun v58 e58 => ?_)
                have i58 : Iv v58 3 163 := iv_add e58 i57 (⟨by decide, by decide⟩ : Iv 3 3 3) (by decide)
                have x58 : v58.toInt = v57.toInt + 3 := ex_add e58 i57 (⟨by decide, by decide⟩ : Iv 3 3 3) (by decide)
                refine o_iald cx hw h45 (by decide) rfl (iv_in i58 (by decide)) dX11_day_165 (fun v59 e59 b59 => ?_)
                refine o_ci hw (oRunV cx hA hw q_X11_act k_m_X11_298 rfl ha0 (by decide) (As := [.int v47, .int v51, .int v55, .int v59]) (c_X11_act a0 ha0 v47 v51 v55 v59) (by decide) rfl hl.1 rfl (Nat.le_of_ble_eq_true rfl) dX11_day_166 (by decide)) (fun v61 σ60 H locs hp hw => ?_)
                obtain ⟨p61_0, p61_1⟩ := hp
                have fr := oFr_tr fr p61_0 (by decide)
                refine lv_if_eq (tgt := 178) hx hb dX11_day_169 (by decide) (fun c62 => ?_) (fun c62 => ?_)
                · --
                  have i63 : Iv v61 0 0 := iv_eq1 c62 p61_1 (⟨by decide, by decide⟩ : Iv 0 0 0) (by decide)
                  exact J_178 σ60 _ _ hw fr (kn_iv (((kp_c p61_0 (by decide)).trans rfl)) (iv_w f122_655_a0 (by decide))) _ (lv_sub hl [0, 1, 2, 3] rfl)
                · --
                  have i64 : Iv v61 1 1 := iv_ne1 c62 p61_1 (⟨by decide, by decide⟩ : Iv 0 0 0) (by decide)
                  obtain ⟨v65, e65⟩ : ∃ y : Int32, y = j122_3 + 1 := ⟨_, rfl⟩
                  have i65 : Iv v65 1 41 := iv_add e65 i43 (⟨by decide, by decide⟩ : Iv 1 1 1) (by decide)
                  have x65 : v65.toInt = j122_3.toInt + 1 := ex_add e65 i43 (⟨by decide, by decide⟩ : Iv 1 1 1) (by decide)
                  refine lv_iinc (v := v65) (lv' := [(3, .int v65), (0, .ref a0), (1, .int j70_1), (2, .int j70_2)]) hx hb dX11_day_172 hl (k := 3) rfl (by rw [e65]; rfl) (by decide) rfl (fun ls hl => ?_)
                  refine lv_goto (tgt := 122) hx hb dX11_day_175 (by decide) ?_
                  exact ih_122 v65 (iv_w i65 (by decide)) σ60 _ _ hw fr (kn_iv (((kp_c p61_0 (by decide)).trans rfl)) (iv_w f122_655_a0 (by decide))) (ms_up x65 (by decide) (iv_w (a' := 0) (b' := 58) i65 (by decide)).2 hn_122) _ (lv_sub hl [1, 2, 3, 0] rfl)
          exact J_122 _ 0 (iv_w (⟨by decide, by decide⟩ : Iv 0 0 0) (by decide)) σ21 _ _ hw fr (kn_iv (((kp_i eσ21 (by decide)).trans ((kp_c p20_0 (by decide)).trans rfl))) (iv_w f89_655_a0 (by decide))) (Nat.lt_succ_self _) _ (lv_sub hl [1, 2, 3, 0] rfl)
        · --
          have i66 : Iv (σ_89.1 663 a0) 0 200 := (fun h => (by have := z_ti h; have := (ij70_1).1; have := (ij70_1).2; have := (ij70_2).1; have := (ij70_2).2; have := (p13_1).1; have := (p13_1).2; have := (f89_660_a0).1; have := (f89_660_a0).2; have := (f89_661_a0).1; have := (f89_661_a0).2; have := (f89_662_a0).1; have := (f89_662_a0).2; have := (f89_655_a0).1; have := (f89_655_a0).2; have := (f89_663_a0).1; have := (f89_663_a0).2; have := (i4).1; have := (i4).2; have := (i5).1; have := (i5).2; have := (p7_2).1; have := (p7_2).2; have := (p7_3).1; have := (p7_3).2; have := (p7_4).1; have := (p7_4).2; have := (p7_5).1; have := (p7_5).2; have := (ik38_0).1; have := (ik38_0).2; have : (60 : Int32).toInt = 60 := (by decide); exact ⟨by omega, by omega⟩)) c14
          have i67 : Iv v13 0 0 := iv_eq1 c14 p13_1 (⟨by decide, by decide⟩ : Iv 0 0 0) (by decide)
          refine lv_iconst (v := (-1)) hx hb dX11_day_96 (by decide) ?_
          refine lv_aload_n hx hb dX11_day_97 rfl (lv_at hl 0 rfl) ?_
          refine g_663 cx hw ha0 k_f_X11_123 dX11_day_98 (fun v68 e68 i68 => ?_)
          rw [show v68 = (σ_89.1 663 a0) from e68.trans rfl]
          refine lv_isub hx hb dX11_day_101 ?_
          refine lv_topi (fun v69 e69 => ?_)
          have i69 : Iv v69 (-201) (-1) := iv_sub e69 (⟨by decide, by decide⟩ : Iv (-1) (-1) (-1)) i66 (by decide)
          have x69 : v69.toInt = (-1) - (σ_89.1 663 a0).toInt := by have q9 := ex_sub e69 (⟨by decide, by decide⟩ : Iv (-1) (-1) (-1)) i66 (by decide); rw [show ((-1) : Int32).toInt = (-1) from by decide] at q9; exact q9
          rw [← hQ]
          exact o_ri cx rx hw dX11_day_102 ⟨fr, (iv_w i69 (by decide)), (kn_iv (rfl) (iv_w f89_655_a0 (by decide)))⟩
      refine lv_icmp_ge (tgt := 89) hx hb dX11_day_78 (by decide) (fun c70 => ?_) (fun c70 => ?_)
      · --
        exact J_89 σ_70 _ _ hw fr (kn_iv (rfl) (iv_w f70_655_a0 (by decide))) (kn_iv (rfl) (iv_w f70_660_a0 (by decide))) (kn_iv (rfl) (iv_w f70_661_a0 (by decide))) (kn_iv (rfl) (iv_w f70_662_a0 (by decide))) (kn_iv (rfl) (iv_w f70_663_a0 (by decide))) (r70_659) _ (lv_sub hl [0, 1, 2] rfl)
      · --
        have i71 : Iv (σ_70.1 662 a0) 0 79 := iv_lt1 (iv_nle c70) f70_662_a0 f70_660_a0 (by decide)
        have i72 : Iv (σ_70.1 660 a0) 1 80 := iv_lt2 (iv_nle c70) f70_662_a0 f70_660_a0 (by decide)
        refine lv_aload_n hx hb dX11_day_81 rfl (lv_at hl 0 rfl) ?_
        refine lv_aload_n hx hb dX11_day_82 rfl (lv_at hl 0 rfl) ?_
        refine g_662 cx hw ha0 k_f_X11_120 dX11_day_83 (fun v73 e73 i73 => ?_)
        rw [show v73 = (σ_70.1 662 a0) from e73.trans rfl]
        refine o_cv hw (oRunV cx hA hw q_X11_fault k_m_X11_138 rfl ha0 (by decide) (As := [.int (σ_70.1 662 a0)]) (c_X11_fault a0 ha0 (σ_70.1 662 a0) (iv_w i71 (by decide))) (by decide) rfl hl.1 rfl (Nat.le_of_ble_eq_true rfl) dX11_day_86 (by decide)) (fun σ74 H locs hp hw => ?_)
        obtain ⟨p75_0, p75_1⟩ := hp
        have fr := oFr_tr fr p75_0 (by decide)
        have i76 : Iv (σ74.1 663 a0) (-1) 200 := o_fb (j := 663) hw ha0 rfl
        have i77 : Iv (σ74.1 663 a0) 0 200 := (by have := (ij70_1).1; have := (ij70_1).2; have := (ij70_2).1; have := (ij70_2).2; have := (i72).1; have := (i72).2; have := (f70_661_a0).1; have := (f70_661_a0).2; have := (i71).1; have := (i71).2; have := (f70_655_a0).1; have := (f70_655_a0).2; have := (i76).1; have := (i76).2; have := (i4).1; have := (i4).2; have := (i5).1; have := (i5).2; have := (p7_2).1; have := (p7_2).2; have := (p7_3).1; have := (p7_3).2; have := (p7_4).1; have := (p7_4).2; have := (p7_5).1; have := (p7_5).2; have := (ik38_0).1; have := (ik38_0).2; have : (σ74.1 660 a0).toInt = ((σ_70.1 660 a0) : Int32).toInt := congrArg Int32.toInt (show σ74.1 660 a0 = (σ_70.1 660 a0) from ((kp_c p75_0 (by decide)).trans rfl)); have : (σ74.1 661 a0).toInt = ((σ_70.1 661 a0) : Int32).toInt := congrArg Int32.toInt (show σ74.1 661 a0 = (σ_70.1 661 a0) from ((kp_c p75_0 (by decide)).trans rfl)); have : (σ74.1 662 a0).toInt = ((σ_70.1 662 a0) : Int32).toInt := congrArg Int32.toInt (show σ74.1 662 a0 = (σ_70.1 662 a0) from ((kp_c p75_0 (by decide)).trans rfl)); have : (σ74.1 655 a0).toInt = ((σ_70.1 655 a0) : Int32).toInt := congrArg Int32.toInt (show σ74.1 655 a0 = (σ_70.1 655 a0) from ((kp_c p75_0 (by decide)).trans rfl)); have : ((σ_70.1 662 a0) : Int32).toInt < ((σ_70.1 660 a0) : Int32).toInt := iv_lt.mp (iv_nle c70); have : (60 : Int32).toInt = 60 := (by decide); exact ⟨by omega, by omega⟩)
        exact J_89 σ74 _ _ hw fr (kn_iv (((kp_c p75_0 (by decide)).trans rfl)) (iv_w f70_655_a0 (by decide))) (kn_iv (((kp_c p75_0 (by decide)).trans rfl)) (iv_w i72 (by decide))) (kn_iv (((kp_c p75_0 (by decide)).trans rfl)) (iv_w f70_661_a0 (by decide))) (kn_iv (((kp_c p75_0 (by decide)).trans rfl)) (iv_w i71 (by decide))) (kn_iv (rfl) (iv_w i77 (by decide))) (((kr_c p75_0 (by decide)).trans r70_659)) _ (lv_sub hl [0, 1, 2] rfl)
    refine lv_if_eq (tgt := 70) hx hb dX11_day_40 (by decide) (fun c78 => ?_) (fun c78 => ?_)
    · --
      have i79 : Iv k38_0 0 0 := iv_eq1 c78 ik38_0 (⟨by decide, by decide⟩ : Iv 0 0 0) (by decide)
      exact J_70 0 (iv_w (⟨by decide, by decide⟩ : Iv 0 0 0) (by decide)) k38_0 (iv_w i79 (by decide)) σ8 _ _ hw fr (kn_iv ((kp_s eσ8)) (iv_w (⟨by decide, by decide⟩ : Iv 0 0 0) (by decide))) (kn_iv (((kp_i eσ8 (by decide)).trans rfl)) (iv_w p7_2 (by decide))) (kn_iv (((kp_i eσ8 (by decide)).trans rfl)) (iv_w p7_3 (by decide))) (kn_iv (((kp_i eσ8 (by decide)).trans rfl)) (iv_w p7_4 (by decide))) (kn_iv (((kp_i eσ8 (by decide)).trans rfl)) (iv_w p7_5 (by decide))) (((kr_i eσ8).trans p7_1)) _ (lv_sub hl [1, 2, 0] rfl)
    · --
      have i80 : Iv k38_0 1 1 := iv_ne1 c78 ik38_0 (⟨by decide, by decide⟩ : Iv 0 0 0) (by decide)
      refine lv_aload_n hx hb dX11_day_43 rfl (lv_at hl 1 rfl) ?_
      have z81 : (σ8.1 663 a0).toInt = ((σ6.1 663 a0) : Int32).toInt := congrArg Int32.toInt (show σ8.1 663 a0 = (σ6.1 663 a0) from ((kp_i eσ8 (by decide)).trans rfl))
      refine o_ci hw (oRunV cx hA hw q_X11_fine k_m_X11_126 rfl ha0 (by decide) (As := []) (c_X11_fine a0 ha0) (by decide) rfl hl.1 rfl (Nat.le_of_ble_eq_true rfl) dX11_day_44 (by decide)) (fun v83 σ82 H locs hp hw => ?_)
      obtain ⟨p83_0, p83_1, p83_2⟩ := hp
      rw [p83_0] at hw
      have i84 : Iv v83 1 1 := (by have := (i80).1; have := (i80).2; have := (p83_1).1; have := (p83_1).2; have := (p7_2).1; have := (p7_2).2; have := (p7_3).1; have := (p7_3).2; have := (p7_4).1; have := (p7_4).2; have := (p7_5).1; have := (p7_5).2; have := (i4).1; have := (i4).2; have := (i5).1; have := (i5).2; have : (σ8.1 658 a0).toInt = (0 : Int32).toInt := congrArg Int32.toInt (show σ8.1 658 a0 = 0 from ((kp_i eσ8 (by decide)).trans ((kp_c p7_0 (by decide)).trans (kp_s eσ1)))); have : (σ8.1 660 a0).toInt = ((σ6.1 660 a0) : Int32).toInt := congrArg Int32.toInt (show σ8.1 660 a0 = (σ6.1 660 a0) from ((kp_i eσ8 (by decide)).trans rfl)); have : (σ8.1 661 a0).toInt = ((σ6.1 661 a0) : Int32).toInt := congrArg Int32.toInt (show σ8.1 661 a0 = (σ6.1 661 a0) from ((kp_i eσ8 (by decide)).trans rfl)); have : (σ8.1 662 a0).toInt = ((σ6.1 662 a0) : Int32).toInt := congrArg Int32.toInt (show σ8.1 662 a0 = (σ6.1 662 a0) from ((kp_i eσ8 (by decide)).trans rfl)); have : (σ8.1 663 a0).toInt = ((σ6.1 663 a0) : Int32).toInt := congrArg Int32.toInt (show σ8.1 663 a0 = (σ6.1 663 a0) from ((kp_i eσ8 (by decide)).trans rfl)); have : (σ8.1 655 a0).toInt = (0 : Int32).toInt := congrArg Int32.toInt (show σ8.1 655 a0 = 0 from (kp_s eσ8)); have : (0 : Int32).toInt = 0 := (by decide); have : (60 : Int32).toInt = 60 := (by decide); exact ⟨by omega, by omega⟩)
      have frE_50 := fr
      have J_50 : ∀ n50 : Nat, ∀ (j50_1 : Int32) (ij50_1 : Iv j50_1 0 58) (j50_2 : Int32) (ij50_2 : Iv j50_2 1 1), ∀ (σ_50 : oSt) (H : Heap) (locs : List Loc), oI A L τ cy D s.heap σ_50 H locs → oFr τ fs_X11_day ts_X11_day σ σ_50 → Iv (σ_50.1 655 a0) 0 0 → Iv (σ_50.1 660 a0) 0 80 → Iv (σ_50.1 661 a0) 0 80 → Iv (σ_50.1 662 a0) 0 80 → Iv (σ_50.1 663 a0) (-1) (-1) → σ_50.2.2.2.2 659 a0 = some v2 → (58 - j50_1.toInt).toNat < n50 → (2 * (j50_1 : Int32).toInt ≤ (σ_50.1 662 a0).toInt) → ∀ (ls : Array Slot), lv_has ls 4 [(0, .ref a0), (1, .int j50_1), (2, .int j50_2)] → W p l e ({ frames := 342, cells := 0, slots := 0, locals := 8598 } : Room) s m args below meth c H locs 0 0 Q (F0 m 50 ls []) := by
        intro n50
        induction n50 with
        | zero => intro j50_1 ij50_1 j50_2 ij50_2 σ_50 H locs hw fr f50_655_a0 f50_660_a0 f50_661_a0 f50_662_a0 f50_663_a0 r50_659  hn_50 hd  ls hl; exact absurd hn_50 (Nat.not_lt_zero _)
        | succ n50 ih_50 =>
          intro j50_1 ij50_1 j50_2 ij50_2 σ_50 H locs hw fr f50_655_a0 f50_660_a0 f50_661_a0 f50_662_a0 f50_663_a0 r50_659  hn_50 hd  ls hl
          have fr_50 := fr
          have i85 : Iv j50_1 0 40 := (by have := (ij50_1).1; have := (ij50_1).2; have := (ij50_2).1; have := (ij50_2).2; have := (f50_660_a0).1; have := (f50_660_a0).2; have := (f50_661_a0).1; have := (f50_661_a0).2; have := (f50_662_a0).1; have := (f50_662_a0).2; have := (f50_663_a0).1; have := (f50_663_a0).2; have := (f50_655_a0).1; have := (f50_655_a0).2; have := (i4).1; have := (i4).2; have := (i5).1; have := (i5).2; have := (p7_2).1; have := (p7_2).2; have := (p7_3).1; have := (p7_3).2; have := (p7_4).1; have := (p7_4).2; have := (p7_5).1; have := (p7_5).2; have := (i80).1; have := (i80).2; have := (i84).1; have := (i84).2; have : (60 : Int32).toInt = 60 := (by decide); exact ⟨by omega, by omega⟩)
          refine lv_aload_n hx hb dX11_day_50 rfl (lv_at hl 0 rfl) ?_
          refine lv_iconst (v := 4) hx hb dX11_day_51 (by decide) ?_
          refine lv_iload_n hx hb dX11_day_52 rfl (lv_at hl 1 rfl) ?_
          refine lv_imul hx hb dX11_day_53 ?_
          refine lv_topi (fun v86 e86 => ?_)
          have i86 : Iv v86 0 160 := iv_mul e86 (⟨by decide, by decide⟩ : Iv 4 4 4) i85 (by decide)
          refine o_cv hw (oRunV cx hA hw q_X11_readAct k_m_X11_292 rfl ha0 (by decide) (As := [.int v86]) (c_X11_readAct a0 ha0 v86 (iv_w i86 (by decide)) v2 (r50_659) h2 (kn_iv (rfl) (iv_w f50_660_a0 (by decide))) (kn_iv (rfl) (iv_w f50_662_a0 (by decide)))) (by decide) rfl hl.1 rfl (Nat.le_of_ble_eq_true rfl) dX11_day_54 (by decide)) (fun σ87 H locs hp hw => ?_)
          obtain ⟨p88_0, p88_1⟩ := hp
          have fr := oFr_tr fr p88_0 (by decide)
          have i89 : Iv (σ87.1 662 a0) 0 200 := o_fb (j := 662) hw ha0 rfl
          have i90 : Iv (σ87.1 663 a0) (-1) 200 := o_fb (j := 663) hw ha0 rfl
          obtain ⟨v91, e91⟩ : ∃ y : Int32, y = j50_1 + 1 := ⟨_, rfl⟩
          have i91 : Iv v91 1 41 := iv_add e91 i85 (⟨by decide, by decide⟩ : Iv 1 1 1) (by decide)
          have x91 : v91.toInt = j50_1.toInt + 1 := ex_add e91 i85 (⟨by decide, by decide⟩ : Iv 1 1 1) (by decide)
          refine lv_iinc (v := v91) (lv' := [(1, .int v91), (0, .ref a0), (2, .int j50_2)]) hx hb dX11_day_57 hl (k := 1) rfl (by rw [e91]; rfl) (by decide) rfl (fun ls hl => ?_)
          refine lv_aload_n hx hb dX11_day_60 rfl (lv_at hl 1 rfl) ?_
          refine lv_bipush (v := 59) hx hb dX11_day_61 (by decide) ?_
          have z92 : (σ87.1 660 a0).toInt = ((σ_50.1 660 a0) : Int32).toInt := congrArg Int32.toInt (show σ87.1 660 a0 = (σ_50.1 660 a0) from ((kp_c p88_0 (by decide)).trans rfl))
          have z93 : (σ87.1 661 a0).toInt = ((σ_50.1 661 a0) : Int32).toInt := congrArg Int32.toInt (show σ87.1 661 a0 = (σ_50.1 661 a0) from ((kp_c p88_0 (by decide)).trans rfl))
          refine o_ci hw (oRunV cx hA hw q_X11_passes k_m_X11_134 rfl ha0 (by decide) (As := [.int 59]) (c_X11_passesT a0 ha0 59 (iv_w (⟨by decide, by decide⟩ : Iv 59 59 59) (by decide)) v2 (((kr_c p88_0 (by decide)).trans r50_659)) h2 (kn_iv (((kp_c p88_0 (by decide)).trans rfl)) (iv_w f50_660_a0 (by decide)))) (by decide) rfl hl.1 rfl (Nat.le_of_ble_eq_true rfl) dX11_day_63 (by decide)) (fun v95 σ94 H locs hp hw => ?_)
          obtain ⟨p95_0, p95_1, p95_2, p95_3, p95_4, p95_5⟩ := hp
          have fr := oFr_tr fr p95_0 (by decide)
          have i96 : Iv (σ94.1 662 a0) 0 200 := o_fb (j := 662) hw ha0 rfl
          refine lv_istore_n (lv' := [(2, .int v95), (1, .int v91), (0, .ref a0)]) hx hb dX11_day_66 rfl hl (by decide) rfl (fun ls hl => ?_)
          refine lv_goto (tgt := 39) hx hb dX11_day_67 (by decide) ?_
          refine lv_iload_n hx hb dX11_day_39 rfl (lv_at hl 0 rfl) ?_
          refine lv_if_eq (tgt := 70) hx hb dX11_day_40 (by decide) (fun c97 => ?_) (fun c97 => ?_)
          · --
            have i98 : Iv v95 0 0 := iv_eq1 c97 p95_1 (⟨by decide, by decide⟩ : Iv 0 0 0) (by decide)
            exact J_70 v91 (iv_w i91 (by decide)) v95 (iv_w i98 (by decide)) σ94 _ _ hw fr (kn_iv (((kp_c p95_0 (by decide)).trans ((kp_c p88_0 (by decide)).trans rfl))) (iv_w f50_655_a0 (by decide))) (kn_iv (((kp_c p95_0 (by decide)).trans ((kp_c p88_0 (by decide)).trans rfl))) (iv_w f50_660_a0 (by decide))) (kn_iv (((kp_c p95_0 (by decide)).trans ((kp_c p88_0 (by decide)).trans rfl))) (iv_w f50_661_a0 (by decide))) (kn_iv (rfl) (iv_w i96 (by decide))) (kn_iv (((kp_c p95_0 (by decide)).trans rfl)) (iv_w i90 (by decide))) (((kr_c p95_0 (by decide)).trans ((kr_c p88_0 (by decide)).trans r50_659))) _ (lv_sub hl [2, 1, 0] rfl)
          · --
            have i99 : Iv v95 1 1 := iv_ne1 c97 p95_1 (⟨by decide, by decide⟩ : Iv 0 0 0) (by decide)
            have i100 : Iv (σ94.1 662 a0) 1 80 := (fun h => kn_iv2 (rfl) (p95_2 h)) c97
            refine lv_aload_n hx hb dX11_day_43 rfl (lv_at hl 2 rfl) ?_
            have z101 : (σ94.1 663 a0).toInt = ((σ87.1 663 a0) : Int32).toInt := congrArg Int32.toInt (show σ94.1 663 a0 = (σ87.1 663 a0) from ((kp_c p95_0 (by decide)).trans rfl))
            refine o_ci hw (oRunV cx hA hw q_X11_fine k_m_X11_126 rfl ha0 (by decide) (As := []) (c_X11_fine a0 ha0) (by decide) rfl hl.1 rfl (Nat.le_of_ble_eq_true rfl) dX11_day_44 (by decide)) (fun v103 σ102 H locs hp hw => ?_)
            obtain ⟨p103_0, p103_1, p103_2⟩ := hp
            rw [p103_0] at hw
            refine lv_if_eq (tgt := 70) hx hb dX11_day_47 (by decide) (fun c104 => ?_) (fun c104 => ?_)
            · --
              have i105 : Iv (σ87.1 663 a0) 0 200 := (fun h => (by have := z_ti h; have := (i91).1; have := (i91).2; have := (i99).1; have := (i99).2; have := (p103_1).1; have := (p103_1).2; have := (f50_660_a0).1; have := (f50_660_a0).2; have := (f50_661_a0).1; have := (f50_661_a0).2; have := (f50_655_a0).1; have := (f50_655_a0).2; have := (i90).1; have := (i90).2; have := (i100).1; have := (i100).2; have := (i4).1; have := (i4).2; have := (i5).1; have := (i5).2; have := (p7_2).1; have := (p7_2).2; have := (p7_3).1; have := (p7_3).2; have := (p7_4).1; have := (p7_4).2; have := (p7_5).1; have := (p7_5).2; have := (i80).1; have := (i80).2; have := (i84).1; have := (i84).2; have := (i85).1; have := (i85).2; have := (i86).1; have := (i86).2; have := (i89).1; have := (i89).2; have : (σ94.1 660 a0).toInt = ((σ_50.1 660 a0) : Int32).toInt := congrArg Int32.toInt (show σ94.1 660 a0 = (σ_50.1 660 a0) from ((kp_c p95_0 (by decide)).trans ((kp_c p88_0 (by decide)).trans rfl))); have : (σ94.1 661 a0).toInt = ((σ_50.1 661 a0) : Int32).toInt := congrArg Int32.toInt (show σ94.1 661 a0 = (σ_50.1 661 a0) from ((kp_c p95_0 (by decide)).trans ((kp_c p88_0 (by decide)).trans rfl))); have : (σ94.1 655 a0).toInt = ((σ_50.1 655 a0) : Int32).toInt := congrArg Int32.toInt (show σ94.1 655 a0 = (σ_50.1 655 a0) from ((kp_c p95_0 (by decide)).trans ((kp_c p88_0 (by decide)).trans rfl))); have : (σ94.1 663 a0).toInt = ((σ87.1 663 a0) : Int32).toInt := congrArg Int32.toInt (show σ94.1 663 a0 = (σ87.1 663 a0) from ((kp_c p95_0 (by decide)).trans rfl)); have : (59 : Int32).toInt = 59 := (by decide); have : (60 : Int32).toInt = 60 := (by decide); exact ⟨by omega, by omega⟩)) c104
              have i106 : Iv v103 0 0 := iv_eq1 c104 p103_1 (⟨by decide, by decide⟩ : Iv 0 0 0) (by decide)
              exact J_70 v91 (iv_w i91 (by decide)) v95 (iv_w i99 (by decide)) σ94 _ _ hw fr (kn_iv (((kp_c p95_0 (by decide)).trans ((kp_c p88_0 (by decide)).trans rfl))) (iv_w f50_655_a0 (by decide))) (kn_iv (((kp_c p95_0 (by decide)).trans ((kp_c p88_0 (by decide)).trans rfl))) (iv_w f50_660_a0 (by decide))) (kn_iv (((kp_c p95_0 (by decide)).trans ((kp_c p88_0 (by decide)).trans rfl))) (iv_w f50_661_a0 (by decide))) (kn_iv (rfl) (iv_w i100 (by decide))) (kn_iv (((kp_c p95_0 (by decide)).trans rfl)) (iv_w i105 (by decide))) (((kr_c p95_0 (by decide)).trans ((kr_c p88_0 (by decide)).trans r50_659))) _ (lv_sub hl [2, 1, 0] rfl)
            · --
              have i107 : Iv v103 1 1 := iv_ne1 c104 p103_1 (⟨by decide, by decide⟩ : Iv 0 0 0) (by decide)
              have i108 : Iv (σ87.1 663 a0) (-1) (-1) := (fun h => (by have := nz_ti h; have := (i91).1; have := (i91).2; have := (i99).1; have := (i99).2; have := (p103_1).1; have := (p103_1).2; have := (f50_660_a0).1; have := (f50_660_a0).2; have := (f50_661_a0).1; have := (f50_661_a0).2; have := (f50_655_a0).1; have := (f50_655_a0).2; have := (i90).1; have := (i90).2; have := (i100).1; have := (i100).2; have := (i4).1; have := (i4).2; have := (i5).1; have := (i5).2; have := (p7_2).1; have := (p7_2).2; have := (p7_3).1; have := (p7_3).2; have := (p7_4).1; have := (p7_4).2; have := (p7_5).1; have := (p7_5).2; have := (i80).1; have := (i80).2; have := (i84).1; have := (i84).2; have := (i85).1; have := (i85).2; have := (i86).1; have := (i86).2; have := (i89).1; have := (i89).2; have : (σ94.1 660 a0).toInt = ((σ_50.1 660 a0) : Int32).toInt := congrArg Int32.toInt (show σ94.1 660 a0 = (σ_50.1 660 a0) from ((kp_c p95_0 (by decide)).trans ((kp_c p88_0 (by decide)).trans rfl))); have : (σ94.1 661 a0).toInt = ((σ_50.1 661 a0) : Int32).toInt := congrArg Int32.toInt (show σ94.1 661 a0 = (σ_50.1 661 a0) from ((kp_c p95_0 (by decide)).trans ((kp_c p88_0 (by decide)).trans rfl))); have : (σ94.1 655 a0).toInt = ((σ_50.1 655 a0) : Int32).toInt := congrArg Int32.toInt (show σ94.1 655 a0 = (σ_50.1 655 a0) from ((kp_c p95_0 (by decide)).trans ((kp_c p88_0 (by decide)).trans rfl))); have : (σ94.1 663 a0).toInt = ((σ87.1 663 a0) : Int32).toInt := congrArg Int32.toInt (show σ94.1 663 a0 = (σ87.1 663 a0) from ((kp_c p95_0 (by decide)).trans rfl)); have : (59 : Int32).toInt = 59 := (by decide); have : (60 : Int32).toInt = 60 := (by decide); exact ⟨by omega, by omega⟩)) c104
              exact ih_50 v91 (iv_w i91 (by decide)) v95 i99 σ94 _ _ hw fr (kn_iv (((kp_c p95_0 (by decide)).trans ((kp_c p88_0 (by decide)).trans rfl))) (iv_w f50_655_a0 (by decide))) (kn_iv (((kp_c p95_0 (by decide)).trans ((kp_c p88_0 (by decide)).trans rfl))) (iv_w f50_660_a0 (by decide))) (kn_iv (((kp_c p95_0 (by decide)).trans ((kp_c p88_0 (by decide)).trans rfl))) (iv_w f50_661_a0 (by decide))) (kn_iv (rfl) (iv_w i100 (by decide))) (kn_iv (((kp_c p95_0 (by decide)).trans rfl)) (iv_w i108 (by decide))) (((kr_c p95_0 (by decide)).trans ((kr_c p88_0 (by decide)).trans r50_659))) (ms_up x91 (by decide) (iv_w (a' := 0) (b' := 58) i91 (by decide)).2 hn_50) (by have := (i91).1; have := (i91).2; have := (i99).1; have := (i99).2; have := (f50_660_a0).1; have := (f50_660_a0).2; have := (f50_661_a0).1; have := (f50_661_a0).2; have := (f50_655_a0).1; have := (f50_655_a0).2; have := (i108).1; have := (i108).2; have := (i100).1; have := (i100).2; have := (i4).1; have := (i4).2; have := (i5).1; have := (i5).2; have := (p7_2).1; have := (p7_2).2; have := (p7_3).1; have := (p7_3).2; have := (p7_4).1; have := (p7_4).2; have := (p7_5).1; have := (p7_5).2; have := (i80).1; have := (i80).2; have := (i84).1; have := (i84).2; have := (i85).1; have := (i85).2; have := (i86).1; have := (i86).2; have := (i89).1; have := (i89).2; have := (i107).1; have := (i107).2; have : (σ94.1 660 a0).toInt = ((σ_50.1 660 a0) : Int32).toInt := congrArg Int32.toInt (show σ94.1 660 a0 = (σ_50.1 660 a0) from ((kp_c p95_0 (by decide)).trans ((kp_c p88_0 (by decide)).trans rfl))); have : (σ94.1 661 a0).toInt = ((σ_50.1 661 a0) : Int32).toInt := congrArg Int32.toInt (show σ94.1 661 a0 = (σ_50.1 661 a0) from ((kp_c p95_0 (by decide)).trans ((kp_c p88_0 (by decide)).trans rfl))); have : (σ94.1 655 a0).toInt = ((σ_50.1 655 a0) : Int32).toInt := congrArg Int32.toInt (show σ94.1 655 a0 = (σ_50.1 655 a0) from ((kp_c p95_0 (by decide)).trans ((kp_c p88_0 (by decide)).trans rfl))); have : (σ94.1 663 a0).toInt = ((σ87.1 663 a0) : Int32).toInt := congrArg Int32.toInt (show σ94.1 663 a0 = (σ87.1 663 a0) from ((kp_c p95_0 (by decide)).trans rfl)); have : (59 : Int32).toInt = 59 := (by decide); have : (60 : Int32).toInt = 60 := (by decide); omega) _ (lv_sub hl [2, 1, 0] rfl)
      refine lv_if_eq (tgt := 70) hx hb dX11_day_47 (by decide) (fun c109 => ?_) (fun c109 => ?_)
      · --
        exact iv_no (iv_eq1 (lo := 1) (hi := 0) c109 i84 (⟨by decide, by decide⟩ : Iv 0 0 0) (by decide)) (by decide)
      · --
        exact J_50 _ 0 (iv_w (⟨by decide, by decide⟩ : Iv 0 0 0) (by decide)) k38_0 i80 σ8 _ _ hw fr (kn_iv ((kp_s eσ8)) (iv_w (⟨by decide, by decide⟩ : Iv 0 0 0) (by decide))) (kn_iv (((kp_i eσ8 (by decide)).trans rfl)) (iv_w p7_2 (by decide))) (kn_iv (((kp_i eσ8 (by decide)).trans rfl)) (iv_w p7_3 (by decide))) (kn_iv (((kp_i eσ8 (by decide)).trans rfl)) (iv_w p7_4 (by decide))) (kn_iv (((kp_i eσ8 (by decide)).trans rfl)) (iv_w p7_5 (by decide))) (((kr_i eσ8).trans p7_1)) (Nat.lt_succ_self _) (by have := (i80).1; have := (i80).2; have := (p7_2).1; have := (p7_2).2; have := (p7_3).1; have := (p7_3).2; have := (p7_4).1; have := (p7_4).2; have := (p7_5).1; have := (p7_5).2; have := (i4).1; have := (i4).2; have := (i5).1; have := (i5).2; have := (i84).1; have := (i84).2; have : (σ8.1 658 a0).toInt = (0 : Int32).toInt := congrArg Int32.toInt (show σ8.1 658 a0 = 0 from ((kp_i eσ8 (by decide)).trans ((kp_c p7_0 (by decide)).trans (kp_s eσ1)))); have : (σ8.1 660 a0).toInt = ((σ6.1 660 a0) : Int32).toInt := congrArg Int32.toInt (show σ8.1 660 a0 = (σ6.1 660 a0) from ((kp_i eσ8 (by decide)).trans rfl)); have : (σ8.1 661 a0).toInt = ((σ6.1 661 a0) : Int32).toInt := congrArg Int32.toInt (show σ8.1 661 a0 = (σ6.1 661 a0) from ((kp_i eσ8 (by decide)).trans rfl)); have : (σ8.1 662 a0).toInt = ((σ6.1 662 a0) : Int32).toInt := congrArg Int32.toInt (show σ8.1 662 a0 = (σ6.1 662 a0) from ((kp_i eσ8 (by decide)).trans rfl)); have : (σ8.1 663 a0).toInt = ((σ6.1 663 a0) : Int32).toInt := congrArg Int32.toInt (show σ8.1 663 a0 = (σ6.1 663 a0) from ((kp_i eσ8 (by decide)).trans rfl)); have : (σ8.1 655 a0).toInt = (0 : Int32).toInt := congrArg Int32.toInt (show σ8.1 655 a0 = 0 from (kp_s eσ8)); have : (0 : Int32).toInt = 0 := (by decide); have : (60 : Int32).toInt = 60 := (by decide); omega) _ (lv_sub hl [1, 2, 0] rfl)
  refine lv_if_le (tgt := 37) hx hb dX11_day_30 (by decide) (fun c110 => ?_) (fun c110 => ?_)
  · --
    have i111 : Iv (σ6.1 660 a0) 0 0 := iv_le1 c110 p7_2 (⟨by decide, by decide⟩ : Iv 0 0 0) (by decide)
    refine lv_iconst (v := 0) hx hb dX11_day_37 (by decide) ?_
    exact J_38 0 (iv_w (⟨by decide, by decide⟩ : Iv 0 0 0) (by decide)) _ _ hw _ (lv_sub hl [1, 0] rfl)
  · --
    have i112 : Iv (σ6.1 660 a0) 1 80 := iv_lt2 (iv_nle c110) (⟨by decide, by decide⟩ : Iv 0 0 0) p7_2 (by decide)
    refine lv_iconst (v := 1) hx hb dX11_day_33 (by decide) ?_
    refine lv_goto (tgt := 38) hx hb dX11_day_34 (by decide) ?_
    exact J_38 1 (iv_w (⟨by decide, by decide⟩ : Iv 1 1 1) (by decide)) _ _ hw _ (lv_sub hl [1, 0] rfl)
abbrev fs_X11_undo : List Nat := [658, 672]
abbrev ts_X11_undo : List Nat := [48]
set_option maxHeartbeats 4000000 in
set_option maxRecDepth 100000 in
theorem c_X11_undo (a0 : Nat) (ha0 : oA L τ a0 10) : oMet l A L τ cy D K yX11_undo cX11_undo 2 (some .int) 0 0 [.ref a0] σ (va_Qi (fun r σ1 => oFr τ fs_X11_undo ts_X11_undo σ σ1 ∧ Iv r (-1) 9) (oPo A L τ cy D) A) := by
  refine oMk (by decide) (Nat.le_of_ble_eq_true rfl) rfl ?_
  intro p e s m args below meth c ls cx rx hA hw hl
  generalize hQ : MQ below _ args s 0 0 A = Q
  have hx := cx.1.1
  have hb := cx.1.2.1
  have hml := cx.1.2.2.1
  have hown := cx.1.2.2.2.1
  have hts := cx.1.2.2.2.2
  have hl : lv_has ls 2 [(0, .ref a0)] := hl
  have fr : oFr τ fs_X11_undo ts_X11_undo σ σ := oFr_rf
  refine lv_aload_n hx hb dX11_undo_0 rfl (lv_at hl 0 rfl) ?_
  refine lv_iconst (v := 0) hx hb dX11_undo_1 (by decide) ?_
  refine p_658 cx hw ha0 k_f_X11_89 dX11_undo_2 (fun σ1 H locs eσ1 hw => ?_)
  have fr := oFr_i fr eσ1 (by decide)
  refine lv_aload_n hx hb dX11_undo_5 rfl (lv_at hl 0 rfl) ?_
  refine g_672 cx hw ha0 k_f_X11_168 dX11_undo_6 (fun v2 e2 i2 => ?_)
  refine lv_if_ne (tgt := 14) hx hb dX11_undo_9 (by decide) (fun c3 => ?_) (fun c3 => ?_)
  · --
    have i4 : Iv v2 1 10 := iv_ne1 c3 i2 (⟨by decide, by decide⟩ : Iv 0 0 0) (by decide)
    refine lv_aload_n hx hb dX11_undo_14 rfl (lv_at hl 0 rfl) ?_
    refine lv_dup hx hb dX11_undo_15 rfl ?_
    refine g_672 cx hw ha0 k_f_X11_168 dX11_undo_16 (fun v5 e5 i5 => ?_)
    rw [show v5 = v2 from e5.trans e2.symm]
    refine lv_iconst (v := 1) hx hb dX11_undo_19 (by decide) ?_
    refine lv_isub hx hb dX11_undo_20 ?_
    refine lv_topi (fun v6 e6 => ?_)
    have i6 : Iv v6 0 9 := iv_sub e6 i4 (⟨by decide, by decide⟩ : Iv 1 1 1) (by decide)
    have x6 : v6.toInt = v2.toInt + (-1) := ex_sub e6 i4 (⟨by decide, by decide⟩ : Iv 1 1 1) (by decide)
    refine p_672 cx hw ha0 (iv_w i6 (by decide)) k_f_X11_168 dX11_undo_21 (fun σ7 H locs eσ7 hw => ?_)
    have fr := oFr_i fr eσ7 (by decide)
    refine lv_iconst (v := 0) hx hb dX11_undo_24 (by decide) ?_
    refine lv_istore_n (lv' := [(1, .int 0), (0, .ref a0)]) hx hb dX11_undo_25 rfl hl (by decide) rfl (fun ls hl => ?_)
    have frE_26 := fr
    have J_26 : ∀ n26 : Nat, ∀ (j26_1 : Int32) (ij26_1 : Iv j26_1 0 334), ∀ (σ_26 : oSt) (H : Heap) (locs : List Loc), oI A L τ cy D s.heap σ_26 H locs → oFr τ fs_X11_undo ts_X11_undo σ σ_26 → Iv (σ_26.1 672 a0) 0 9 → (334 - j26_1.toInt).toNat < n26 → ∀ (ls : Array Slot), lv_has ls 2 [(0, .ref a0), (1, .int j26_1)] → W p l e ({ frames := 0, cells := 0, slots := 0, locals := 0 } : Room) s m args below meth c H locs 0 0 Q (F0 m 26 ls []) := by
      intro n26
      induction n26 with
      | zero => intro j26_1 ij26_1 σ_26 H locs hw fr f26_672_a0  hn_26   ls hl; exact absurd hn_26 (Nat.not_lt_zero _)
      | succ n26 ih_26 =>
        intro j26_1 ij26_1 σ_26 H locs hw fr f26_672_a0  hn_26   ls hl
        have fr_26 := fr
        refine lv_iload_n hx hb dX11_undo_26 rfl (lv_at hl 1 rfl) ?_
        refine lv_sipush (v := 334) hx hb dX11_undo_27 (by decide) ?_
        refine lv_icmp_ge (tgt := 60) hx hb dX11_undo_30 (by decide) (fun c8 => ?_) (fun c8 => ?_)
        · --
          have i9 : Iv j26_1 334 334 := iv_le2 c8 (⟨by decide, by decide⟩ : Iv 334 334 334) ij26_1 (by decide)
          refine lv_aload_n hx hb dX11_undo_60 rfl (lv_at hl 0 rfl) ?_
          refine g_672 cx hw ha0 k_f_X11_168 dX11_undo_61 (fun v10 e10 i10 => ?_)
          rw [show v10 = (σ_26.1 672 a0) from e10.trans rfl]
          rw [← hQ]
          exact o_ri cx rx hw dX11_undo_64 ⟨fr, (iv_w f26_672_a0 (by decide))⟩
        · --
          have i11 : Iv j26_1 0 333 := iv_lt1 (iv_nle c8) ij26_1 (⟨by decide, by decide⟩ : Iv 334 334 334) (by decide)
          refine lv_aload_n hx hb dX11_undo_33 rfl (lv_at hl 0 rfl) ?_
          refine g_640 cx hw ha0 k_f_X11_9 dX11_undo_34 (fun v12 e12 h12 => ?_)
          refine lv_iload_n hx hb dX11_undo_37 rfl (lv_at hl 1 rfl) ?_
          refine lv_aload_n hx hb dX11_undo_38 rfl (lv_at hl 0 rfl) ?_
          refine g_671 cx hw ha0 k_f_X11_55 dX11_undo_39 (fun v13 e13 h13 => ?_)
          refine lv_sipush (v := 334) hx hb dX11_undo_42 (by decide) ?_
          refine lv_aload_n hx hb dX11_undo_45 rfl (lv_at hl 0 rfl) ?_
          refine g_672 cx hw ha0 k_f_X11_168 dX11_undo_46 (fun v14 e14 i14 => ?_)
          rw [show v14 = (σ_26.1 672 a0) from e14.trans rfl]
          refine lv_imul hx hb dX11_undo_49 ?_
          refine lv_topi (fun v15 e15 => ?_)
          have i15 : Iv v15 0 3006 := iv_mul e15 (⟨by decide, by decide⟩ : Iv 334 334 334) f26_672_a0 (by decide)
          refine lv_iload_n hx hb dX11_undo_50 rfl (lv_at hl 1 rfl) ?_
          refine lv_iadd hx hb dX11_undo_51 ?_
          refine lv_topi (fun v16 e16 => ?_)
          have i16 : Iv v16 0 3339 := iv_add e16 i15 i11 (by decide)
          have x16 : v16.toInt = v15.toInt + j26_1.toInt := ex_add e16 i15 i11 (by decide)
          refine o_iald cx hw h13 (by decide) rfl (iv_in i16 (by decide)) dX11_undo_52 (fun v17 e17 b17 => ?_)
          refine o_iast cx hw h12 (by decide) rfl (iv_in i11 (by decide)) (rb_cp i11 i16 (by decide) b17 (by have q := ex_add e16 i15 i11 (by decide); have q2 := ex_mul e15 (⟨by decide, by decide⟩ : Iv 334 334 334) f26_672_a0 (by decide); have q3 : (334 : Int32).toInt = 334 := (by decide); rw [q3] at q2; have q4 := (i11).1; have q5 := (i11).2; omega)) dX11_undo_53 (fun σ18 H locs eσ18 hw => ?_)
          have fr := oFr_p fr eσ18 h12 (by decide)
          obtain ⟨v19, e19⟩ : ∃ y : Int32, y = j26_1 + 1 := ⟨_, rfl⟩
          have i19 : Iv v19 1 334 := iv_add e19 i11 (⟨by decide, by decide⟩ : Iv 1 1 1) (by decide)
          have x19 : v19.toInt = j26_1.toInt + 1 := ex_add e19 i11 (⟨by decide, by decide⟩ : Iv 1 1 1) (by decide)
          refine lv_iinc (v := v19) (lv' := [(1, .int v19), (0, .ref a0)]) hx hb dX11_undo_54 hl (k := 1) rfl (by rw [e19]; rfl) (by decide) rfl (fun ls hl => ?_)
          refine lv_goto (tgt := 26) hx hb dX11_undo_57 (by decide) ?_
          exact ih_26 v19 (iv_w i19 (by decide)) σ18 _ _ hw fr (kn_iv (((kp_p eσ18).trans rfl)) (iv_w f26_672_a0 (by decide))) (ms_up x19 (by decide) (iv_w (a' := 0) (b' := 334) i19 (by decide)).2 hn_26) _ (lv_sub hl [1, 0] rfl)
    exact J_26 _ 0 (iv_w (⟨by decide, by decide⟩ : Iv 0 0 0) (by decide)) σ7 _ _ hw fr (kn_iv ((kp_s eσ7)) (iv_w i6 (by decide))) (Nat.lt_succ_self _) _ (lv_sub hl [1, 0] rfl)
  · --
    have i20 : Iv v2 0 0 := iv_eq1 c3 i2 (⟨by decide, by decide⟩ : Iv 0 0 0) (by decide)
    refine lv_iconst (v := (-1)) hx hb dX11_undo_12 (by decide) ?_
    rw [← hQ]
    exact o_ri cx rx hw dX11_undo_13 ⟨fr, (iv_w (⟨by decide, by decide⟩ : Iv (-1) (-1) (-1)) (by decide))⟩
abbrev fs_X11_road : List Nat := [657, 658]
abbrev ts_X11_road : List Nat := [52]
set_option maxHeartbeats 4000000 in
set_option maxRecDepth 100000 in
theorem c_X11_road (a0 : Nat) (ha0 : oA L τ a0 10) : oMet l A L τ cy D K yX11_road cX11_road 9 (some .int) 3 67 [.ref a0] σ (va_Qi (fun r σ1 => oFr τ fs_X11_road ts_X11_road σ σ1 ∧ Iv r 0 127) (oPo A L τ cy D) A) := by
  refine oMk (by decide) (Nat.le_of_ble_eq_true rfl) rfl ?_
  intro p e s m args below meth c ls cx rx hA hw hl
  generalize hQ : MQ below _ args s 0 0 A = Q
  have hx := cx.1.1
  have hb := cx.1.2.1
  have hml := cx.1.2.2.1
  have hown := cx.1.2.2.2.1
  have hts := cx.1.2.2.2.2
  have hl : lv_has ls 9 [(0, .ref a0)] := hl
  have fr : oFr τ fs_X11_road ts_X11_road σ σ := oFr_rf
  refine lv_aload_n hx hb dX11_road_0 rfl (lv_at hl 0 rfl) ?_
  refine lv_iconst (v := 0) hx hb dX11_road_1 (by decide) ?_
  refine p_658 cx hw ha0 k_f_X11_89 dX11_road_2 (fun σ1 H locs eσ1 hw => ?_)
  have fr := oFr_i fr eσ1 (by decide)
  refine lv_aload_n hx hb dX11_road_5 rfl (lv_at hl 0 rfl) ?_
  refine lv_aload_n hx hb dX11_road_6 rfl (lv_at hl 0 rfl) ?_
  refine g_640 cx hw ha0 k_f_X11_9 dX11_road_7 (fun v2 e2 h2 => ?_)
  refine o_cl hw (oRunV cx hA hw q_X11_roadOf k_m_X11_313 rfl ha0 (by decide) (As := [.ref v2]) (c_X11_roadOf a0 ha0 v2 h2) (by decide) rfl hl.1 rfl (Nat.le_of_ble_eq_true rfl) dX11_road_10 (by decide)) (fun v4 σ3 H locs hp hw => ?_)
  have p4_0 := hp
  rw [p4_0] at hw
  refine lv_lstore_n (lv' := [(1, .long v4), (0, .ref a0)]) hx hb dX11_road_13 rfl hl (by decide) rfl (fun ls hl => ?_)
  refine lv_lload_n hx hb dX11_road_14 rfl (lv_at hl 0 rfl) ?_
  refine lv_lstore_n (lv' := [(3, .long v4), (1, .long v4), (0, .ref a0)]) hx hb dX11_road_15 rfl hl (by decide) rfl (fun ls hl => ?_)
  refine lv_iconst (v := 0) hx hb dX11_road_16 (by decide) ?_
  refine lv_istore (lv' := [(5, .int 0), (3, .long v4), (1, .long v4), (0, .ref a0)]) hx hb dX11_road_17 hl (by decide) rfl (fun ls hl => ?_)
  refine lv_iconst (v := 0) hx hb dX11_road_19 (by decide) ?_
  refine lv_istore (lv' := [(6, .int 0), (5, .int 0), (3, .long v4), (1, .long v4), (0, .ref a0)]) hx hb dX11_road_20 hl (by decide) rfl (fun ls hl => ?_)
  have J_22 : ∀ n22 : Nat, ∀ (j22_3 : Int64) (j22_5 : Int32) (j22_6 : Int32) (ij22_6 : Iv j22_6 0 127), ∀ (H : Heap) (locs : List Loc), oI A L τ cy D s.heap σ1 H locs → lgN j22_3 < n22 → ∀ (ls : Array Slot), lv_has ls 9 [(0, .ref a0), (1, .long v4), (3, .long j22_3), (5, .int j22_5), (6, .int j22_6)] → W p l e ({ frames := 3, cells := 0, slots := 0, locals := 67 } : Room) s m args below meth c H locs 0 0 Q (F0 m 22 ls []) := by
    intro n22
    induction n22 with
    | zero => intro j22_3 j22_5 j22_6 ij22_6 H locs hw  hn_22   ls hl; exact absurd hn_22 (Nat.not_lt_zero _)
    | succ n22 ih_22 =>
      intro j22_3 j22_5 j22_6 ij22_6 H locs hw  hn_22   ls hl
      refine lv_lload_n hx hb dX11_road_22 rfl (lv_at hl 2 rfl) ?_
      refine lv_lconst (v := 0) hx hb dX11_road_23 (by decide) ?_
      refine W.lcmp hx hb dX11_road_24 ?_
      refine lv_topi (fun v5 e5 => ?_)
      have i5 : Iv v5 (-1) 1 := iv_lcmp e5
      refine lv_if_eq (tgt := 65) hx hb dX11_road_25 (by decide) (fun c6 => ?_) (fun c6 => ?_)
      · --
        have i7 : Iv v5 0 0 := iv_eq1 c6 i5 (⟨by decide, by decide⟩ : Iv 0 0 0) (by decide)
        refine lv_aload_n hx hb dX11_road_65 rfl (lv_at hl 0 rfl) ?_
        refine lv_iconst (v := 0) hx hb dX11_road_66 (by decide) ?_
        refine p_657 cx hw ha0 (iv_w (⟨by decide, by decide⟩ : Iv 0 0 0) (by decide)) k_f_X11_92 dX11_road_67 (fun σ8 H locs eσ8 hw => ?_)
        have fr := oFr_i fr eσ8 (by decide)
        refine lv_aload_n hx hb dX11_road_70 rfl (lv_at hl 0 rfl) ?_
        refine lv_lload_n hx hb dX11_road_71 rfl (lv_at hl 1 rfl) ?_
        refine o_cv hw (oRunV cx hA hw q_X11_tell k_m_X11_278 rfl ha0 (by decide) (As := [.long v4]) (c_X11_tell a0 ha0 v4 (kn_iv ((kp_s eσ8)) (iv_w (⟨by decide, by decide⟩ : Iv 0 0 0) (by decide)))) (by decide) rfl hl.1 rfl (Nat.le_of_ble_eq_true rfl) dX11_road_72 (by decide)) (fun σ9 H locs hp hw => ?_)
        obtain ⟨p10_0, p10_1⟩ := hp
        have fr := oFr_tr fr p10_0 (by decide)
        have x12 : (σ9.1 657 a0).toInt = (0 : Int32).toInt + 1 := fin_tr p10_1 ((kp_s eσ8))
        have i11 : Iv (σ9.1 657 a0) 1 1 := iv_fin x12 (⟨by decide, by decide⟩ : Iv 0 0 0) (by decide)
        refine lv_aload_n hx hb dX11_road_75 rfl (lv_at hl 0 rfl) ?_
        refine lv_iload hx hb dX11_road_76 (lv_at hl 3 rfl) ?_
        refine lv_i2l hx hb dX11_road_78 rfl ?_
        refine lv_topl (fun v13 e13 => ?_)
        refine o_cv hw (oRunV cx hA hw q_X11_tell k_m_X11_278 rfl ha0 (by decide) (As := [.long v13]) (c_X11_tell a0 ha0 v13 (kn_iv (rfl) (iv_w i11 (by decide)))) (by decide) rfl hl.1 rfl (Nat.le_of_ble_eq_true rfl) dX11_road_79 (by decide)) (fun σ14 H locs hp hw => ?_)
        obtain ⟨p15_0, p15_1⟩ := hp
        have fr := oFr_tr fr p15_0 (by decide)
        have x17 : (σ14.1 657 a0).toInt = (σ9.1 657 a0).toInt + 1 := fin_tr p15_1 (rfl)
        have i16 : Iv (σ14.1 657 a0) 2 2 := iv_fin x17 i11 (by decide)
        refine lv_aload_n hx hb dX11_road_82 rfl (lv_at hl 0 rfl) ?_
        refine lv_iload hx hb dX11_road_83 (lv_at hl 4 rfl) ?_
        refine lv_i2l hx hb dX11_road_85 rfl ?_
        refine lv_topl (fun v18 e18 => ?_)
        refine o_cv hw (oRunV cx hA hw q_X11_tell k_m_X11_278 rfl ha0 (by decide) (As := [.long v18]) (c_X11_tell a0 ha0 v18 (kn_iv (rfl) (iv_w i16 (by decide)))) (by decide) rfl hl.1 rfl (Nat.le_of_ble_eq_true rfl) dX11_road_86 (by decide)) (fun σ19 H locs hp hw => ?_)
        obtain ⟨p20_0, p20_1⟩ := hp
        have fr := oFr_tr fr p20_0 (by decide)
        have x22 : (σ19.1 657 a0).toInt = (σ14.1 657 a0).toInt + 1 := fin_tr p20_1 (rfl)
        have i21 : Iv (σ19.1 657 a0) 3 3 := iv_fin x22 i16 (by decide)
        have x23 : (σ19.1 657 a0).toInt = (σ9.1 657 a0).toInt + 2 := by rw [x22, x17]; omega
        refine lv_lload_n hx hb dX11_road_89 rfl (lv_at hl 1 rfl) ?_
        refine o_ci hw (oRunS cx hA hw q_J13_bitCount_95d88 k_m_X11_321 (As := [.long v4]) (c_J13_bitCount_95d88 v4) (by decide) rfl hl.1 rfl (Nat.le_of_ble_eq_true rfl) dX11_road_90 (by decide)) (fun v25 σ24 H locs hp hw => ?_)
        obtain ⟨p25_0, p25_1⟩ := hp
        rw [p25_0] at hw
        rw [← hQ]
        exact o_ri cx rx hw dX11_road_93 ⟨fr, (iv_w p25_1 (by decide))⟩
      · --
        refine lv_lload_n hx hb dX11_road_28 rfl (lv_at hl 2 rfl) ?_
        refine lv_lload_n hx hb dX11_road_29 rfl (lv_at hl 2 rfl) ?_
        refine lv_lneg hx hb dX11_road_30 ?_
        refine lv_topl (fun v26 e26 => ?_)
        refine lv_land hx hb dX11_road_31 ?_
        refine lv_topl (fun v27 e27 => ?_)
        refine lv_lload_n hx hb dX11_road_32 rfl (lv_at hl 2 rfl) ?_
        refine o_cl hw (oRunS cx hA hw q_X11_spread k_m_X11_317 (As := [.long v27, .long j22_3]) (c_X11_spread v27 j22_3) (by decide) rfl hl.1 rfl (Nat.le_of_ble_eq_true rfl) dX11_road_33 (by decide)) (fun v29 σ28 H locs hp hw => ?_)
        obtain ⟨p29_0, p29_1⟩ := hp
        rw [p29_0] at hw
        refine lv_lstore (lv' := [(7, .long v29), (0, .ref a0), (1, .long v4), (3, .long j22_3), (5, .int j22_5), (6, .int j22_6)]) hx hb dX11_road_36 hl (by decide) rfl (fun ls hl => ?_)
        obtain ⟨v30, e30⟩ : ∃ y : Int32, y = j22_5 + 1 := ⟨_, rfl⟩
        refine lv_iinc (v := v30) (lv' := [(5, .int v30), (7, .long v29), (0, .ref a0), (1, .long v4), (3, .long j22_3), (6, .int j22_6)]) hx hb dX11_road_38 hl (k := 4) rfl (by rw [e30]; rfl) (by decide) rfl (fun ls hl => ?_)
        refine lv_iload hx hb dX11_road_41 (lv_at hl 5 rfl) ?_
        refine lv_lload hx hb dX11_road_43 (lv_at hl 1 rfl) ?_
        refine o_ci hw (oRunS cx hA hw q_J13_bitCount_95d88 k_m_X11_321 (As := [.long v29]) (c_J13_bitCount_95d88 v29) (by decide) rfl hl.1 rfl (Nat.le_of_ble_eq_true rfl) dX11_road_45 (by decide)) (fun v32 σ31 H locs hp hw => ?_)
        obtain ⟨p32_0, p32_1⟩ := hp
        rw [p32_0] at hw
        refine va_mmax hx hb (hml.trans hl.1.symm) hown (hts _ k_m_X11_248) (hts _ k_s_J9_max_7cf53) (hts _ k_i_J9) (hts _ k_code_J9_max_7cf53) (by decide) (Nat.le_of_ble_eq_true rfl) (by decide) (by decide) dX11_road_48 ?_
        refine lv_topi (fun v33 e33 => ?_)
        have i33 : Iv v33 0 127 := iv_max e33 ij22_6 p32_1 (by decide)
        refine lv_istore (lv' := [(6, .int v33), (5, .int v30), (7, .long v29), (0, .ref a0), (1, .long v4), (3, .long j22_3)]) hx hb dX11_road_51 hl (by decide) rfl (fun ls hl => ?_)
        refine lv_lload_n hx hb dX11_road_53 rfl (lv_at hl 5 rfl) ?_
        refine lv_lload hx hb dX11_road_54 (lv_at hl 2 rfl) ?_
        refine lv_ldc2 (v := (-1)) hx hb hown (hts _ k_k_X11_327) dX11_road_56 ?_
        refine lv_lxor hx hb dX11_road_59 ?_
        refine lv_topl (fun v34 e34 => ?_)
        refine lv_land hx hb dX11_road_60 ?_
        refine lv_topl (fun v35 e35 => ?_)
        refine lv_lstore_n (lv' := [(3, .long v35), (6, .int v33), (5, .int v30), (7, .long v29), (0, .ref a0), (1, .long v4)]) hx hb dX11_road_61 rfl hl (by decide) rfl (fun ls hl => ?_)
        refine lv_goto (tgt := 22) hx hb dX11_road_62 (by decide) ?_
        exact ih_22 v35 v30 v33 i33 _ _ hw (by have := lg_rest (lg_ne e5 c6) e26 e27 p29_1 e34 e35; omega) _ (lv_sub hl [4, 5, 0, 2, 1] rfl)
  exact J_22 _ v4 0 0 (iv_w (⟨by decide, by decide⟩ : Iv 0 0 0) (by decide)) _ _ hw (Nat.lt_succ_self _) _ (lv_sub hl [4, 3, 2, 1, 0] rfl)
abbrev fs_X11_squares : List Nat := [657, 658]
abbrev ts_X11_squares : List Nat := [52]
set_option maxHeartbeats 4000000 in
set_option maxRecDepth 100000 in
theorem c_X11_squares (a0 : Nat) (ha0 : oA L τ a0 10) : oMet l A L τ cy D K yX11_squares cX11_squares 6 (some .int) 3 67 [.ref a0] σ (va_Qi (fun r σ1 => oFr τ fs_X11_squares ts_X11_squares σ σ1 ∧ Iv r 0 127) (oPo A L τ cy D) A) := by
  refine oMk (by decide) (Nat.le_of_ble_eq_true rfl) rfl ?_
  intro p e s m args below meth c ls cx rx hA hw hl
  generalize hQ : MQ below _ args s 0 0 A = Q
  have hx := cx.1.1
  have hb := cx.1.2.1
  have hml := cx.1.2.2.1
  have hown := cx.1.2.2.2.1
  have hts := cx.1.2.2.2.2
  have hl : lv_has ls 6 [(0, .ref a0)] := hl
  have fr : oFr τ fs_X11_squares ts_X11_squares σ σ := oFr_rf
  refine lv_aload_n hx hb dX11_squares_0 rfl (lv_at hl 0 rfl) ?_
  refine lv_iconst (v := 0) hx hb dX11_squares_1 (by decide) ?_
  refine p_658 cx hw ha0 k_f_X11_89 dX11_squares_2 (fun σ1 H locs eσ1 hw => ?_)
  have fr := oFr_i fr eσ1 (by decide)
  refine lv_aload_n hx hb dX11_squares_5 rfl (lv_at hl 0 rfl) ?_
  refine lv_aload_n hx hb dX11_squares_6 rfl (lv_at hl 0 rfl) ?_
  refine g_640 cx hw ha0 k_f_X11_9 dX11_squares_7 (fun v2 e2 h2 => ?_)
  refine o_cl hw (oRunV cx hA hw q_X11_roadOf k_m_X11_313 rfl ha0 (by decide) (As := [.ref v2]) (c_X11_roadOf a0 ha0 v2 h2) (by decide) rfl hl.1 rfl (Nat.le_of_ble_eq_true rfl) dX11_squares_10 (by decide)) (fun v4 σ3 H locs hp hw => ?_)
  have p4_0 := hp
  rw [p4_0] at hw
  refine lv_lstore_n (lv' := [(1, .long v4), (0, .ref a0)]) hx hb dX11_squares_13 rfl hl (by decide) rfl (fun ls hl => ?_)
  refine lv_lconst (v := 0) hx hb dX11_squares_14 (by decide) ?_
  refine lv_lstore_n (lv' := [(3, .long 0), (1, .long v4), (0, .ref a0)]) hx hb dX11_squares_15 rfl hl (by decide) rfl (fun ls hl => ?_)
  refine lv_iconst (v := 0) hx hb dX11_squares_16 (by decide) ?_
  refine lv_istore (lv' := [(5, .int 0), (3, .long 0), (1, .long v4), (0, .ref a0)]) hx hb dX11_squares_17 hl (by decide) rfl (fun ls hl => ?_)
  have J_19 : ∀ n19 : Nat, ∀ (j19_3 : Int64) (j19_5 : Int32) (ij19_5 : Iv j19_5 0 64), ∀ (H : Heap) (locs : List Loc), oI A L τ cy D s.heap σ1 H locs → (64 - j19_5.toInt).toNat < n19 → ∀ (ls : Array Slot), lv_has ls 6 [(0, .ref a0), (1, .long v4), (3, .long j19_3), (5, .int j19_5)] → W p l e ({ frames := 3, cells := 0, slots := 0, locals := 67 } : Room) s m args below meth c H locs 0 0 Q (F0 m 19 ls []) := by
    intro n19
    induction n19 with
    | zero => intro j19_3 j19_5 ij19_5 H locs hw  hn_19   ls hl; exact absurd hn_19 (Nat.not_lt_zero _)
    | succ n19 ih_19 =>
      intro j19_3 j19_5 ij19_5 H locs hw  hn_19   ls hl
      refine lv_iload hx hb dX11_squares_19 (lv_at hl 3 rfl) ?_
      refine lv_bipush (v := 64) hx hb dX11_squares_21 (by decide) ?_
      refine lv_icmp_ge (tgt := 68) hx hb dX11_squares_23 (by decide) (fun c5 => ?_) (fun c5 => ?_)
      · --
        have i6 : Iv j19_5 64 64 := iv_le2 c5 (⟨by decide, by decide⟩ : Iv 64 64 64) ij19_5 (by decide)
        refine lv_aload_n hx hb dX11_squares_68 rfl (lv_at hl 0 rfl) ?_
        refine lv_iconst (v := 0) hx hb dX11_squares_69 (by decide) ?_
        refine p_657 cx hw ha0 (iv_w (⟨by decide, by decide⟩ : Iv 0 0 0) (by decide)) k_f_X11_92 dX11_squares_70 (fun σ7 H locs eσ7 hw => ?_)
        have fr := oFr_i fr eσ7 (by decide)
        refine lv_aload_n hx hb dX11_squares_73 rfl (lv_at hl 0 rfl) ?_
        refine lv_lload_n hx hb dX11_squares_74 rfl (lv_at hl 2 rfl) ?_
        refine o_cv hw (oRunV cx hA hw q_X11_tell k_m_X11_278 rfl ha0 (by decide) (As := [.long j19_3]) (c_X11_tell a0 ha0 j19_3 (kn_iv ((kp_s eσ7)) (iv_w (⟨by decide, by decide⟩ : Iv 0 0 0) (by decide)))) (by decide) rfl hl.1 rfl (Nat.le_of_ble_eq_true rfl) dX11_squares_75 (by decide)) (fun σ8 H locs hp hw => ?_)
        obtain ⟨p9_0, p9_1⟩ := hp
        have fr := oFr_tr fr p9_0 (by decide)
        have x11 : (σ8.1 657 a0).toInt = (0 : Int32).toInt + 1 := fin_tr p9_1 ((kp_s eσ7))
        have i10 : Iv (σ8.1 657 a0) 1 1 := iv_fin x11 (⟨by decide, by decide⟩ : Iv 0 0 0) (by decide)
        refine lv_lload_n hx hb dX11_squares_78 rfl (lv_at hl 2 rfl) ?_
        refine o_ci hw (oRunS cx hA hw q_J13_bitCount_95d88 k_m_X11_321 (As := [.long j19_3]) (c_J13_bitCount_95d88 j19_3) (by decide) rfl hl.1 rfl (Nat.le_of_ble_eq_true rfl) dX11_squares_79 (by decide)) (fun v13 σ12 H locs hp hw => ?_)
        obtain ⟨p13_0, p13_1⟩ := hp
        rw [p13_0] at hw
        rw [← hQ]
        exact o_ri cx rx hw dX11_squares_82 ⟨fr, (iv_w p13_1 (by decide))⟩
      · --
        have i14 : Iv j19_5 0 63 := iv_lt1 (iv_nle c5) ij19_5 (⟨by decide, by decide⟩ : Iv 64 64 64) (by decide)
        refine lv_lload_n hx hb dX11_squares_26 rfl (lv_at hl 2 rfl) ?_
        refine lv_lload_n hx hb dX11_squares_27 rfl (lv_at hl 1 rfl) ?_
        refine lv_iload hx hb dX11_squares_28 (lv_at hl 3 rfl) ?_
        refine o_ci hw (oRunS cx hA hw q_X11_has k_m_X11_215 (As := [.long v4, .int j19_5]) (c_X11_has v4 j19_5) (by decide) rfl hl.1 rfl (Nat.le_of_ble_eq_true rfl) dX11_squares_30 (by decide)) (fun v16 σ15 H locs hp hw => ?_)
        obtain ⟨p16_0, p16_1, p16_2⟩ := hp
        rw [p16_0] at hw
        have J_60 : ∀ (k60_1 : Int64), ∀ (H : Heap) (locs : List Loc), oI A L τ cy D s.heap σ1 H locs → ∀ (ls : Array Slot), lv_has ls 6 [(0, .ref a0), (1, .long v4), (3, .long j19_3), (5, .int j19_5)] → W p l e ({ frames := 3, cells := 0, slots := 0, locals := 67 } : Room) s m args below meth c H locs 0 0 Q (F0 m 60 ls [.long k60_1, .long j19_3]) := by
          intro k60_1 H locs hw     ls hl
          refine lv_lor hx hb dX11_squares_60 ?_
          refine lv_topl (fun v17 e17 => ?_)
          refine lv_lstore_n (lv' := [(3, .long v17), (0, .ref a0), (1, .long v4), (5, .int j19_5)]) hx hb dX11_squares_61 rfl hl (by decide) rfl (fun ls hl => ?_)
          obtain ⟨v18, e18⟩ : ∃ y : Int32, y = j19_5 + 1 := ⟨_, rfl⟩
          have i18 : Iv v18 1 64 := iv_add e18 i14 (⟨by decide, by decide⟩ : Iv 1 1 1) (by decide)
          have x18 : v18.toInt = j19_5.toInt + 1 := ex_add e18 i14 (⟨by decide, by decide⟩ : Iv 1 1 1) (by decide)
          refine lv_iinc (v := v18) (lv' := [(5, .int v18), (3, .long v17), (0, .ref a0), (1, .long v4)]) hx hb dX11_squares_62 hl (k := 3) rfl (by rw [e18]; rfl) (by decide) rfl (fun ls hl => ?_)
          refine lv_goto (tgt := 19) hx hb dX11_squares_65 (by decide) ?_
          exact ih_19 v17 v18 (iv_w i18 (by decide)) _ _ hw (ms_up x18 (by decide) (iv_w (a' := 0) (b' := 64) i18 (by decide)).2 hn_19) _ (lv_sub hl [2, 3, 1, 0] rfl)
        have J_59 : ∀ (H : Heap) (locs : List Loc), oI A L τ cy D s.heap σ1 H locs → ∀ (ls : Array Slot), lv_has ls 6 [(0, .ref a0), (1, .long v4), (3, .long j19_3), (5, .int j19_5)] → W p l e ({ frames := 3, cells := 0, slots := 0, locals := 67 } : Room) s m args below meth c H locs 0 0 Q (F0 m 59 ls [.long j19_3]) := by
          intro  H locs hw     ls hl
          refine lv_lconst (v := 0) hx hb dX11_squares_59 (by decide) ?_
          exact J_60 0 _ _ hw _ (lv_sub hl [0, 1, 2, 3] rfl)
        refine lv_if_eq (tgt := 59) hx hb dX11_squares_33 (by decide) (fun c19 => ?_) (fun c19 => ?_)
        · --
          have i20 : Iv v16 0 0 := iv_eq1 c19 p16_1 (⟨by decide, by decide⟩ : Iv 0 0 0) (by decide)
          exact J_59 _ _ hw _ (lv_sub hl [0, 1, 2, 3] rfl)
        · --
          have i21 : Iv v16 1 1 := iv_ne1 c19 p16_1 (⟨by decide, by decide⟩ : Iv 0 0 0) (by decide)
          refine lv_lconst (v := 1) hx hb dX11_squares_36 (by decide) ?_
          refine lv_iload hx hb dX11_squares_37 (lv_at hl 3 rfl) ?_
          refine lv_lshl hx hb dX11_squares_39 rfl ?_
          refine lv_topl (fun v22 e22 => ?_)
          refine o_cl hw (oRunS cx hA hw q_X11_besides k_m_X11_309 (As := [.long v22]) (c_X11_besides v22) (by decide) rfl hl.1 rfl (Nat.le_of_ble_eq_true rfl) dX11_squares_40 (by decide)) (fun v24 σ23 H locs hp hw => ?_)
          obtain ⟨p24_0, p24_1⟩ := hp
          rw [p24_0] at hw
          refine lv_lload_n hx hb dX11_squares_43 rfl (lv_at hl 1 rfl) ?_
          refine lv_land hx hb dX11_squares_44 ?_
          refine lv_topl (fun v25 e25 => ?_)
          refine o_ci hw (oRunS cx hA hw q_J13_bitCount_95d88 k_m_X11_321 (As := [.long v25]) (c_J13_bitCount_95d88 v25) (by decide) rfl hl.1 rfl (Nat.le_of_ble_eq_true rfl) dX11_squares_45 (by decide)) (fun v27 σ26 H locs hp hw => ?_)
          obtain ⟨p27_0, p27_1⟩ := hp
          rw [p27_0] at hw
          refine lv_iconst (v := 3) hx hb dX11_squares_48 (by decide) ?_
          refine lv_icmp_lt (tgt := 59) hx hb dX11_squares_49 (by decide) (fun c28 => ?_) (fun c28 => ?_)
          · --
            have i29 : Iv v27 0 2 := iv_lt1 c28 p27_1 (⟨by decide, by decide⟩ : Iv 3 3 3) (by decide)
            exact J_59 _ _ hw _ (lv_sub hl [0, 1, 2, 3] rfl)
          · --
            have i30 : Iv v27 3 127 := iv_le2 (iv_nlt c28) (⟨by decide, by decide⟩ : Iv 3 3 3) p27_1 (by decide)
            refine lv_lconst (v := 1) hx hb dX11_squares_52 (by decide) ?_
            refine lv_iload hx hb dX11_squares_53 (lv_at hl 3 rfl) ?_
            refine lv_lshl hx hb dX11_squares_55 rfl ?_
            refine lv_topl (fun v31 e31 => ?_)
            refine lv_goto (tgt := 60) hx hb dX11_squares_56 (by decide) ?_
            exact J_60 v31 _ _ hw _ (lv_sub hl [0, 1, 2, 3] rfl)
  exact J_19 _ 0 0 (iv_w (⟨by decide, by decide⟩ : Iv 0 0 0) (by decide)) _ _ hw (Nat.lt_succ_self _) _ (lv_sub hl [3, 2, 1, 0] rfl)
abbrev fs_X11_cart : List Nat := [657, 658]
abbrev ts_X11_cart : List Nat := [52, 66]
set_option maxHeartbeats 4000000 in
set_option maxRecDepth 100000 in
theorem c_X11_cart (a0 : Nat) (ha0 : oA L τ a0 10) (a1 : Int32) (a2 : Int32) : oMet l A L τ cy D K yX11_cart cX11_cart 8 (some .int) 3 67 [.ref a0, .int a1, .int a2] σ (va_Qi (fun r σ1 => oFr τ fs_X11_cart ts_X11_cart σ σ1) (oPo A L τ cy D) A) := by
  refine oMk (by decide) (Nat.le_of_ble_eq_true rfl) rfl ?_
  intro p e s m args below meth c ls cx rx hA hw hl
  generalize hQ : MQ below _ args s 0 0 A = Q
  have hx := cx.1.1
  have hb := cx.1.2.1
  have hml := cx.1.2.2.1
  have hown := cx.1.2.2.2.1
  have hts := cx.1.2.2.2.2
  have hl : lv_has ls 8 [(0, .ref a0), (1, .int a1), (2, .int a2)] := hl
  have fr : oFr τ fs_X11_cart ts_X11_cart σ σ := oFr_rf
  obtain ⟨b676, hF676, hb676⟩ := hw.2.2.2.2.2 676 a0 66 (by rw [ha0.2]; rfl) ha0.1
  refine lv_aload_n hx hb dX11_cart_0 rfl (lv_at hl 0 rfl) ?_
  refine lv_iconst (v := 0) hx hb dX11_cart_1 (by decide) ?_
  refine p_658 cx hw ha0 k_f_X11_89 dX11_cart_2 (fun σ1 H locs eσ1 hw => ?_)
  have fr := oFr_i fr eσ1 (by decide)
  refine lv_aload_n hx hb dX11_cart_5 rfl (lv_at hl 0 rfl) ?_
  refine lv_iload_n hx hb dX11_cart_6 rfl (lv_at hl 1 rfl) ?_
  have i2 : Iv (σ1.1 641 a0) 0 8 := o_fb (j := 641) hw ha0 rfl
  have i3 : Iv (σ1.1 642 a0) 0 8 := o_fb (j := 642) hw ha0 rfl
  refine o_ci hw (oRunV cx hA hw q_X11_isCell k_m_X11_157 rfl ha0 (by decide) (As := [.int a1]) (c_X11_isCell a0 ha0 a1) (by decide) rfl hl.1 rfl (Nat.le_of_ble_eq_true rfl) dX11_cart_7 (by decide)) (fun v5 σ4 H locs hp hw => ?_)
  obtain ⟨p5_0, p5_1, p5_2, p5_3⟩ := hp
  rw [p5_0] at hw
  refine lv_if_eq (tgt := 21) hx hb dX11_cart_10 (by decide) (fun c6 => ?_) (fun c6 => ?_)
  · --
    have i7 : Iv v5 0 0 := iv_eq1 c6 p5_1 (⟨by decide, by decide⟩ : Iv 0 0 0) (by decide)
    refine lv_iconst (v := (-1)) hx hb dX11_cart_21 (by decide) ?_
    rw [← hQ]
    exact o_ri cx rx hw dX11_cart_22 fr
  · --
    have i8 : Iv v5 1 1 := iv_ne1 c6 p5_1 (⟨by decide, by decide⟩ : Iv 0 0 0) (by decide)
    have i9 : Iv a1 0 63 := p5_2 c6
    refine lv_aload_n hx hb dX11_cart_13 rfl (lv_at hl 0 rfl) ?_
    refine lv_iload_n hx hb dX11_cart_14 rfl (lv_at hl 2 rfl) ?_
    refine o_ci hw (oRunV cx hA hw q_X11_isCell k_m_X11_157 rfl ha0 (by decide) (As := [.int a2]) (c_X11_isCell a0 ha0 a2) (by decide) rfl hl.1 rfl (Nat.le_of_ble_eq_true rfl) dX11_cart_15 (by decide)) (fun v11 σ10 H locs hp hw => ?_)
    obtain ⟨p11_0, p11_1, p11_2, p11_3⟩ := hp
    rw [p11_0] at hw
    refine lv_if_ne (tgt := 23) hx hb dX11_cart_18 (by decide) (fun c12 => ?_) (fun c12 => ?_)
    · --
      have i13 : Iv v11 1 1 := iv_ne1 c12 p11_1 (⟨by decide, by decide⟩ : Iv 0 0 0) (by decide)
      have i14 : Iv a2 0 63 := p11_2 c12
      refine lv_aload_n hx hb dX11_cart_23 rfl (lv_at hl 0 rfl) ?_
      refine lv_iload_n hx hb dX11_cart_24 rfl (lv_at hl 2 rfl) ?_
      refine lv_aload_n hx hb dX11_cart_25 rfl (lv_at hl 0 rfl) ?_
      refine lv_aload_n hx hb dX11_cart_26 rfl (lv_at hl 0 rfl) ?_
      refine g_640 cx hw ha0 k_f_X11_9 dX11_cart_27 (fun v15 e15 h15 => ?_)
      refine o_cl hw (oRunV cx hA hw q_X11_roadOf k_m_X11_313 rfl ha0 (by decide) (As := [.ref v15]) (c_X11_roadOf a0 ha0 v15 h15) (by decide) rfl hl.1 rfl (Nat.le_of_ble_eq_true rfl) dX11_cart_30 (by decide)) (fun v17 σ16 H locs hp hw => ?_)
      have p17_0 := hp
      rw [p17_0] at hw
      refine o_cv hw (oRunV cx hA hw q_X11_findFar k_m_X11_330 rfl ha0 (by decide) (As := [.int a2, .long v17]) (c_X11_findFar a0 ha0 a2 v17) (by decide) rfl hl.1 rfl (Nat.le_of_ble_eq_true rfl) dX11_cart_33 (by decide)) (fun σ18 H locs hp hw => ?_)
      obtain ⟨p19_0, p19_1⟩ := hp
      have fr := oFr_tr fr p19_0 (by decide)
      have fa9 : fa (σ18.2.2.1 b676) := p19_1 _ (((kr_i eσ1).trans hF676))
      refine lv_aload_n hx hb dX11_cart_36 rfl (lv_at hl 0 rfl) ?_
      refine g_676 cx hw ha0 k_f_X11_64 dX11_cart_37 (fun v20 e20 h20 => ?_)
      rw [show v20 = b676 from Option.some.inj (e20.symm.trans (((kr_c p19_0 (by decide)).trans ((kr_i eσ1).trans hF676))))]
      refine lv_iload_n hx hb dX11_cart_40 rfl (lv_at hl 1 rfl) ?_
      refine o_iald cx hw hb676 (by decide) rfl (iv_in i9 (by decide)) dX11_cart_41 (fun v21 e21 b21 => ?_)
      refine lv_ldcw (v := 100000000) hx hb hown (hts _ k_k_X11_329) dX11_cart_42 ?_
      refine lv_icmp_ne (tgt := 51) hx hb dX11_cart_45 (by decide) (fun c22 => ?_) (fun c22 => ?_)
      · --
        refine lv_aload_n hx hb dX11_cart_51 rfl (lv_at hl 0 rfl) ?_
        refine lv_iconst (v := 0) hx hb dX11_cart_52 (by decide) ?_
        refine p_657 cx hw ha0 (iv_w (⟨by decide, by decide⟩ : Iv 0 0 0) (by decide)) k_f_X11_92 dX11_cart_53 (fun σ23 H locs eσ23 hw => ?_)
        have fr := oFr_i fr eσ23 (by decide)
        refine lv_iload_n hx hb dX11_cart_56 rfl (lv_at hl 1 rfl) ?_
        refine lv_istore_n (lv' := [(3, .int a1), (0, .ref a0), (1, .int a1), (2, .int a2)]) hx hb dX11_cart_57 rfl hl (by decide) rfl (fun ls hl => ?_)
        refine lv_aload_n hx hb dX11_cart_58 rfl (lv_at hl 1 rfl) ?_
        refine lv_iload_n hx hb dX11_cart_59 rfl (lv_at hl 0 rfl) ?_
        refine lv_i2l hx hb dX11_cart_60 rfl ?_
        refine lv_topl (fun v24 e24 => ?_)
        refine o_cv hw (oRunV cx hA hw q_X11_tell k_m_X11_278 rfl ha0 (by decide) (As := [.long v24]) (c_X11_tell a0 ha0 v24 (kn_iv ((kp_s eσ23)) (iv_w (⟨by decide, by decide⟩ : Iv 0 0 0) (by decide)))) (by decide) rfl hl.1 rfl (Nat.le_of_ble_eq_true rfl) dX11_cart_61 (by decide)) (fun σ25 H locs hp hw => ?_)
        obtain ⟨p26_0, p26_1⟩ := hp
        have fr := oFr_tr fr p26_0 (by decide)
        have x28 : (σ25.1 657 a0).toInt = (0 : Int32).toInt + 1 := fin_tr p26_1 ((kp_s eσ23))
        have i27 : Iv (σ25.1 657 a0) 1 1 := iv_fin x28 (⟨by decide, by decide⟩ : Iv 0 0 0) (by decide)
        refine lv_iconst (v := 1) hx hb dX11_cart_64 (by decide) ?_
        refine lv_istore (lv' := [(4, .int 1), (3, .int a1), (0, .ref a0), (1, .int a1), (2, .int a2)]) hx hb dX11_cart_65 hl (by decide) rfl (fun ls hl => ?_)
        have frE_67 := fr
        have J_67 : ∀ n67 : Nat, ∀ (j67_3 : Int32) (ij67_3 : Iv j67_3 0 63) (j67_4 : Int32) (ij67_4 : Iv j67_4 1 14), ∀ (σ_67 : oSt) (H : Heap) (locs : List Loc), oI A L τ cy D s.heap σ_67 H locs → oFr τ fs_X11_cart ts_X11_cart σ σ_67 → Iv (σ_67.1 657 a0) 1 14 → (14 - j67_4.toInt).toNat < n67 → (fa (σ_67.2.2.1 b676)) → (Iv (σ_67.2.2.1 b676 (a1 : Int32).toNatClampNeg) 0 63) → ((σ_67.2.2.1 b676 (j67_3 : Int32).toNatClampNeg).toInt = (σ_67.2.2.1 b676 (a1 : Int32).toNatClampNeg).toInt - (j67_4 : Int32).toInt + 1) → (σ_67.1 657 a0).toInt ≤ j67_4.toInt + 0 → ∀ (ls : Array Slot), lv_has ls 8 [(0, .ref a0), (1, .int a1), (2, .int a2), (3, .int j67_3), (4, .int j67_4)] → W p l e ({ frames := 3, cells := 0, slots := 0, locals := 67 } : Room) s m args below meth c H locs 0 0 Q (F0 m 67 ls []) := by
          intro n67
          induction n67 with
          | zero => intro j67_3 ij67_3 j67_4 ij67_4 σ_67 H locs hw fr f67_657_a0  hn_67 f1 f2 f3  le67_0 ls hl; exact absurd hn_67 (Nat.not_lt_zero _)
          | succ n67 ih_67 =>
            intro j67_3 ij67_3 j67_4 ij67_4 σ_67 H locs hw fr f67_657_a0  hn_67 f1 f2 f3  le67_0 ls hl
            have fr_67 := fr
            refine lv_iload hx hb dX11_cart_67 (lv_at hl 4 rfl) ?_
            refine lv_aload_n hx hb dX11_cart_69 rfl (lv_at hl 0 rfl) ?_
            refine g_676 cx hw ha0 k_f_X11_64 dX11_cart_70 (fun v29 e29 h29 => ?_)
            rw [show v29 = b676 from Option.some.inj (e29.symm.trans (((kr_c fr_67 (by decide)).trans hF676)))]
            refine lv_iload_n hx hb dX11_cart_73 rfl (lv_at hl 1 rfl) ?_
            refine o_iald cx hw hb676 (by decide) rfl (iv_in i9 (by decide)) dX11_cart_74 (fun v30 e30 b30 => ?_)
            have J_145 : ∀ (H : Heap) (locs : List Loc), oI A L τ cy D s.heap σ_67 H locs → ∀ (ls : Array Slot), lv_has ls 8 [(0, .ref a0), (1, .int a1), (2, .int a2), (3, .int j67_3), (4, .int j67_4)] → W p l e ({ frames := 3, cells := 0, slots := 0, locals := 67 } : Room) s m args below meth c H locs 0 0 Q (F0 m 145 ls []) := by
              intro  H locs hw     ls hl
              refine lv_aload_n hx hb dX11_cart_145 rfl (lv_at hl 0 rfl) ?_
              refine g_676 cx hw ha0 k_f_X11_64 dX11_cart_146 (fun v31 e31 h31 => ?_)
              rw [show v31 = b676 from Option.some.inj (e31.symm.trans (((kr_c fr_67 (by decide)).trans hF676)))]
              refine lv_iload_n hx hb dX11_cart_149 rfl (lv_at hl 1 rfl) ?_
              refine o_iald cx hw hb676 (by decide) rfl (iv_in i9 (by decide)) dX11_cart_150 (fun v32 e32 b32 => ?_)
              rw [← hQ]
              exact o_ri cx rx hw dX11_cart_151 fr
            refine lv_icmp_gt (tgt := 145) hx hb dX11_cart_75 (by decide) (fun c33 => ?_) (fun c33 => ?_)
            · --
              have i34 : Iv v30 (-2147483648) 13 := iv_lt1 c33 (iv_top v30) ij67_4 (by decide)
              exact J_145 _ _ hw _ (lv_sub hl [0, 1, 2, 3, 4] rfl)
            · --
              have i35 : Iv v30 1 2147483647 := iv_le2 (iv_nlt c33) ij67_4 (iv_top v30) (by decide)
              refine lv_iload hx hb dX11_cart_78 (lv_at hl 4 rfl) ?_
              refine lv_bipush (v := 14) hx hb dX11_cart_80 (by decide) ?_
              refine lv_icmp_ge (tgt := 145) hx hb dX11_cart_82 (by decide) (fun c36 => ?_) (fun c36 => ?_)
              · --
                have i37 : Iv j67_4 14 14 := iv_le2 c36 (⟨by decide, by decide⟩ : Iv 14 14 14) ij67_4 (by decide)
                exact J_145 _ _ hw _ (lv_sub hl [0, 1, 2, 3, 4] rfl)
              · --
                have i38 : Iv j67_4 1 13 := iv_lt1 (iv_nle c36) ij67_4 (⟨by decide, by decide⟩ : Iv 14 14 14) (by decide)
                have i39 : Iv (σ_67.1 657 a0) 1 13 := iv_leh le67_0 f67_657_a0 i38 (by decide)
                refine lv_lconst (v := 1) hx hb dX11_cart_85 (by decide) ?_
                refine lv_iload_n hx hb dX11_cart_86 rfl (lv_at hl 3 rfl) ?_
                refine lv_lshl hx hb dX11_cart_87 rfl ?_
                refine lv_topl (fun v40 e40 => ?_)
                refine o_cl hw (oRunS cx hA hw q_X11_besides k_m_X11_309 (As := [.long v40]) (c_X11_besides v40) (by decide) rfl hl.1 rfl (Nat.le_of_ble_eq_true rfl) dX11_cart_88 (by decide)) (fun v42 σ41 H locs hp hw => ?_)
                obtain ⟨p42_0, p42_1⟩ := hp
                rw [p42_0] at hw
                refine lv_lstore (lv' := [(5, .long v42), (0, .ref a0), (1, .int a1), (2, .int a2), (3, .int j67_3), (4, .int j67_4)]) hx hb dX11_cart_91 hl (by decide) rfl (fun ls hl => ?_)
                refine lv_iconst (v := 0) hx hb dX11_cart_93 (by decide) ?_
                refine lv_istore (lv' := [(7, .int 0), (5, .long v42), (0, .ref a0), (1, .int a1), (2, .int a2), (3, .int j67_3), (4, .int j67_4)]) hx hb dX11_cart_94 hl (by decide) rfl (fun ls hl => ?_)
                have J_96 : ∀ n96 : Nat, ∀ (j96_7 : Int32) (ij96_7 : Iv j96_7 0 2147483647), ∀ (H : Heap) (locs : List Loc), oI A L τ cy D s.heap σ_67 H locs → (2147483647 - j96_7.toInt).toNat < n96 → (ct (σ_67.2.2.1 b676) v42 ((σ_67.2.2.1 b676 (j67_3 : Int32).toNatClampNeg) - 1) (j96_7 : Int32).toInt) → ∀ (ls : Array Slot), lv_has ls 8 [(0, .ref a0), (1, .int a1), (2, .int a2), (3, .int j67_3), (4, .int j67_4), (5, .long v42), (7, .int j96_7)] → W p l e ({ frames := 3, cells := 0, slots := 0, locals := 67 } : Room) s m args below meth c H locs 0 0 Q (F0 m 96 ls []) := by
                  intro n96
                  induction n96 with
                  | zero => intro j96_7 ij96_7 H locs hw  hn_96 g1  ls hl; exact absurd hn_96 (Nat.not_lt_zero _)
                  | succ n96 ih_96 =>
                    intro j96_7 ij96_7 H locs hw  hn_96 g1  ls hl
                    have i43 : Iv j96_7 0 63 := ct_lt g1 ij96_7.1
                    refine lv_lload hx hb dX11_cart_96 (lv_at hl 5 rfl) ?_
                    refine lv_iload hx hb dX11_cart_98 (lv_at hl 6 rfl) ?_
                    refine o_ci hw (oRunS cx hA hw q_X11_has k_m_X11_215 (As := [.long v42, .int j96_7]) (c_X11_has v42 j96_7) (by decide) rfl hl.1 rfl (Nat.le_of_ble_eq_true rfl) dX11_cart_100 (by decide)) (fun v45 σ44 H locs hp hw => ?_)
                    obtain ⟨p45_0, p45_1, p45_2⟩ := hp
                    rw [p45_0] at hw
                    refine lv_if_eq (tgt := 124) hx hb dX11_cart_103 (by decide) (fun c46 => ?_) (fun c46 => ?_)
                    · --
                      have i47 : Iv v45 0 0 := iv_eq1 c46 p45_1 (⟨by decide, by decide⟩ : Iv 0 0 0) (by decide)
                      obtain ⟨v48, e48⟩ : ∃ y : Int32, y = j96_7 + 1 := ⟨_, rfl⟩
                      have i48 : Iv v48 1 64 := iv_add e48 i43 (⟨by decide, by decide⟩ : Iv 1 1 1) (by decide)
                      have x48 : v48.toInt = j96_7.toInt + 1 := ex_add e48 i43 (⟨by decide, by decide⟩ : Iv 1 1 1) (by decide)
                      refine lv_iinc (v := v48) (lv' := [(7, .int v48), (0, .ref a0), (1, .int a1), (2, .int a2), (3, .int j67_3), (4, .int j67_4), (5, .long v42)]) hx hb dX11_cart_124 hl (k := 6) rfl (by rw [e48]; rfl) (by decide) rfl (fun ls hl => ?_)
                      refine lv_goto (tgt := 96) hx hb dX11_cart_127 (by decide) ?_
                      exact ih_96 v48 (iv_w i48 (by decide)) _ _ hw (ms_up x48 (by decide) (iv_w (a' := 0) (b' := 2147483647) i48 (by decide)).2 hn_96) (ct_no1 g1 i43 (fun q => (p45_2 (iv_w i43 (by decide))).mpr q c46) x48) _ (lv_sub hl [1, 2, 3, 4, 5, 6, 0] rfl)
                    · --
                      have i49 : Iv v45 1 1 := iv_ne1 c46 p45_1 (⟨by decide, by decide⟩ : Iv 0 0 0) (by decide)
                      refine lv_aload_n hx hb dX11_cart_106 rfl (lv_at hl 0 rfl) ?_
                      refine g_676 cx hw ha0 k_f_X11_64 dX11_cart_107 (fun v50 e50 h50 => ?_)
                      rw [show v50 = b676 from Option.some.inj (e50.symm.trans (((kr_c fr_67 (by decide)).trans hF676)))]
                      refine lv_iload hx hb dX11_cart_110 (lv_at hl 6 rfl) ?_
                      refine o_iald cx hw hb676 (by decide) rfl (iv_in i43 (by decide)) dX11_cart_112 (fun v51 e51 b51 => ?_)
                      refine lv_aload_n hx hb dX11_cart_113 rfl (lv_at hl 0 rfl) ?_
                      refine g_676 cx hw ha0 k_f_X11_64 dX11_cart_114 (fun v52 e52 h52 => ?_)
                      rw [show v52 = b676 from Option.some.inj (e52.symm.trans (((kr_c fr_67 (by decide)).trans hF676)))]
                      refine lv_iload_n hx hb dX11_cart_117 rfl (lv_at hl 3 rfl) ?_
                      refine o_iald cx hw hb676 (by decide) rfl (iv_in ij67_3 (by decide)) dX11_cart_118 (fun v53 e53 b53 => ?_)
                      have i54 : Iv v53 1 63 := (by have := congrArg Int32.toInt e30; have := congrArg Int32.toInt e53; exact (by have := f2.1; have := f2.2; have := f3; have := (i9).1; have := (i9).2; have := (i14).1; have := (i14).2; have := (ij67_3).1; have := (ij67_3).2; have := (i38).1; have := (i38).2; have := (i43).1; have := (i43).2; have := (i2).1; have := (i2).2; have := (i3).1; have := (i3).2; have := (i39).1; have := (i39).2; have := (i8).1; have := (i8).2; have := (i13).1; have := (i13).2; have := (i35).1; have := (i35).2; have := (i49).1; have := (i49).2; have : (σ_67.1 641 a0).toInt = ((σ1.1 641 a0) : Int32).toInt := congrArg Int32.toInt (show σ_67.1 641 a0 = (σ1.1 641 a0) from ((kp_c fr_67 (by decide)).trans ((kp_c frE_67 (by decide)).symm.trans (((kp_c p26_0 (by decide)).trans ((kp_i eσ23 (by decide)).trans ((kp_c p19_0 (by decide)).trans rfl))))))); have : (σ_67.1 642 a0).toInt = ((σ1.1 642 a0) : Int32).toInt := congrArg Int32.toInt (show σ_67.1 642 a0 = (σ1.1 642 a0) from ((kp_c fr_67 (by decide)).trans ((kp_c frE_67 (by decide)).symm.trans (((kp_c p26_0 (by decide)).trans ((kp_i eσ23 (by decide)).trans ((kp_c p19_0 (by decide)).trans rfl))))))); have : (v21 : Int32).toInt ≠ (100000000 : Int32).toInt := fun q => c22 (Int32.toInt_inj.mp q); have : (j67_4 : Int32).toInt ≤ (v30 : Int32).toInt := iv_le.mp (iv_nlt c33); have : (j67_4 : Int32).toInt < (14 : Int32).toInt := iv_lt.mp (iv_nle c36); have : (100000000 : Int32).toInt = 100000000 := (by decide); have : (14 : Int32).toInt = 14 := (by decide); exact ⟨by omega, by omega⟩))
                      refine lv_iconst (v := 1) hx hb dX11_cart_119 (by decide) ?_
                      refine lv_isub hx hb dX11_cart_120 ?_
                      refine lv_topi (fun v55 e55 => ?_)
                      have i55 : Iv v55 0 62 := iv_sub e55 i54 (⟨by decide, by decide⟩ : Iv 1 1 1) (by decide)
                      have x55 : v55.toInt = v53.toInt + (-1) := ex_sub e55 i54 (⟨by decide, by decide⟩ : Iv 1 1 1) (by decide)
                      refine lv_icmp_eq (tgt := 130) hx hb dX11_cart_121 (by decide) (fun c56 => ?_) (fun c56 => ?_)
                      · --
                        have i57 : Iv v51 0 62 := iv_eq1 c56 (iv_top v51) i55 (by decide)
                        refine lv_iload hx hb dX11_cart_130 (lv_at hl 6 rfl) ?_
                        refine lv_istore_n (lv' := [(3, .int j96_7), (0, .ref a0), (1, .int a1), (2, .int a2), (4, .int j67_4), (5, .long v42), (7, .int j96_7)]) hx hb dX11_cart_132 rfl hl (by decide) rfl (fun ls hl => ?_)
                        refine lv_aload_n hx hb dX11_cart_133 rfl (lv_at hl 1 rfl) ?_
                        refine lv_iload_n hx hb dX11_cart_134 rfl (lv_at hl 0 rfl) ?_
                        refine lv_i2l hx hb dX11_cart_135 rfl ?_
                        refine lv_topl (fun v58 e58 => ?_)
                        refine o_cv hw (oRunV cx hA hw q_X11_tell k_m_X11_278 rfl ha0 (by decide) (As := [.long v58]) (c_X11_tell a0 ha0 v58 (kn_iv (rfl) (iv_w i39 (by decide)))) (by decide) rfl hl.1 rfl (Nat.le_of_ble_eq_true rfl) dX11_cart_136 (by decide)) (fun σ59 H locs hp hw => ?_)
                        obtain ⟨p60_0, p60_1⟩ := hp
                        have fr := oFr_tr fr p60_0 (by decide)
                        have x62 : (σ59.1 657 a0).toInt = (σ_67.1 657 a0).toInt + 1 := fin_tr p60_1 (rfl)
                        have i61 : Iv (σ59.1 657 a0) 2 14 := iv_fin x62 i39 (by decide)
                        obtain ⟨v63, e63⟩ : ∃ y : Int32, y = j67_4 + 1 := ⟨_, rfl⟩
                        have i63 : Iv v63 2 14 := iv_add e63 i38 (⟨by decide, by decide⟩ : Iv 1 1 1) (by decide)
                        have x63 : v63.toInt = j67_4.toInt + 1 := ex_add e63 i38 (⟨by decide, by decide⟩ : Iv 1 1 1) (by decide)
                        refine lv_iinc (v := v63) (lv' := [(4, .int v63), (3, .int j96_7), (0, .ref a0), (1, .int a1), (2, .int a2), (5, .long v42), (7, .int j96_7)]) hx hb dX11_cart_139 hl (k := 4) rfl (by rw [e63]; rfl) (by decide) rfl (fun ls hl => ?_)
                        refine lv_goto (tgt := 67) hx hb dX11_cart_142 (by decide) ?_
                        exact ih_67 j96_7 i43 v63 (iv_w i63 (by decide)) σ59 _ _ hw fr (kn_iv (rfl) (iv_w i61 (by decide))) (ms_up x63 (by decide) (iv_w (a' := 1) (b' := 14) i63 (by decide)).2 hn_67) (by rw [show σ59.2.2.1 b676 = σ_67.2.2.1 b676 from ((rw_c p60_0 hb676 (by decide)).trans rfl)]; exact f1) (by rw [show σ59.2.2.1 b676 = σ_67.2.2.1 b676 from ((rw_c p60_0 hb676 (by decide)).trans rfl)]; exact f2) (by rw [show σ59.2.2.1 b676 = σ_67.2.2.1 b676 from ((rw_c p60_0 hb676 (by decide)).trans rfl)]; have := congrArg Int32.toInt e51; have := congrArg Int32.toInt e53; exact (by have := (i9).1; have := (i9).2; have := (i14).1; have := (i14).2; have := (i43).1; have := (i43).2; have := (i63).1; have := (i63).2; have := (i2).1; have := (i2).2; have := (i3).1; have := (i3).2; have := (i61).1; have := (i61).2; have := (i8).1; have := (i8).2; have := (i13).1; have := (i13).2; have := (i35).1; have := (i35).2; have := (i38).1; have := (i38).2; have := (i39).1; have := (i39).2; have := (i49).1; have := (i49).2; have := (i54).1; have := (i54).2; have := (i55).1; have := (i55).2; have := (i57).1; have := (i57).2; have : (σ59.1 641 a0).toInt = ((σ1.1 641 a0) : Int32).toInt := congrArg Int32.toInt (show σ59.1 641 a0 = (σ1.1 641 a0) from ((kp_c p60_0 (by decide)).trans ((kp_c fr_67 (by decide)).trans ((kp_c frE_67 (by decide)).symm.trans (((kp_c p26_0 (by decide)).trans ((kp_i eσ23 (by decide)).trans ((kp_c p19_0 (by decide)).trans rfl)))))))); have : (σ59.1 642 a0).toInt = ((σ1.1 642 a0) : Int32).toInt := congrArg Int32.toInt (show σ59.1 642 a0 = (σ1.1 642 a0) from ((kp_c p60_0 (by decide)).trans ((kp_c fr_67 (by decide)).trans ((kp_c frE_67 (by decide)).symm.trans (((kp_c p26_0 (by decide)).trans ((kp_i eσ23 (by decide)).trans ((kp_c p19_0 (by decide)).trans rfl)))))))); have : (v21 : Int32).toInt ≠ (100000000 : Int32).toInt := fun q => c22 (Int32.toInt_inj.mp q); have : (j67_4 : Int32).toInt ≤ (v30 : Int32).toInt := iv_le.mp (iv_nlt c33); have : (j67_4 : Int32).toInt < (14 : Int32).toInt := iv_lt.mp (iv_nle c36); have : (v51 : Int32).toInt = (v55 : Int32).toInt := congrArg Int32.toInt c56; have : (100000000 : Int32).toInt = 100000000 := (by decide); have : (14 : Int32).toInt = 14 := (by decide); omega)) (le_lin x62 x63 le67_0 (by decide)) _ (lv_sub hl [2, 3, 4, 1, 0] rfl)
                      · --
                        obtain ⟨v64, e64⟩ : ∃ y : Int32, y = j96_7 + 1 := ⟨_, rfl⟩
                        have i64 : Iv v64 1 64 := iv_add e64 i43 (⟨by decide, by decide⟩ : Iv 1 1 1) (by decide)
                        have x64 : v64.toInt = j96_7.toInt + 1 := ex_add e64 i43 (⟨by decide, by decide⟩ : Iv 1 1 1) (by decide)
                        refine lv_iinc (v := v64) (lv' := [(7, .int v64), (0, .ref a0), (1, .int a1), (2, .int a2), (3, .int j67_3), (4, .int j67_4), (5, .long v42)]) hx hb dX11_cart_124 hl (k := 6) rfl (by rw [e64]; rfl) (by decide) rfl (fun ls hl => ?_)
                        refine lv_goto (tgt := 96) hx hb dX11_cart_127 (by decide) ?_
                        exact ih_96 v64 (iv_w i64 (by decide)) _ _ hw (ms_up x64 (by decide) (iv_w (a' := 0) (b' := 2147483647) i64 (by decide)).2 hn_96) (ct_no2 g1 i43 e51 (by rw [← e53, ← e55]; exact c56) x64) _ (lv_sub hl [1, 2, 3, 4, 5, 6, 0] rfl)
                exact J_96 _ 0 (iv_w (⟨by decide, by decide⟩ : Iv 0 0 0) (by decide)) _ _ hw (Nat.lt_succ_self _) (by have z : (0 : Int32).toInt = 0 := (by decide); rw [z]; exact ct_0 f1 ij67_3 rfl (by have := congrArg Int32.toInt e30; exact (by have := f2.1; have := f2.2; have := f3; have := (i9).1; have := (i9).2; have := (i14).1; have := (i14).2; have := (ij67_3).1; have := (ij67_3).2; have := (i38).1; have := (i38).2; have := (i2).1; have := (i2).2; have := (i3).1; have := (i3).2; have := (i39).1; have := (i39).2; have := (i8).1; have := (i8).2; have := (i13).1; have := (i13).2; have := (i35).1; have := (i35).2; have : (σ_67.1 641 a0).toInt = ((σ1.1 641 a0) : Int32).toInt := congrArg Int32.toInt (show σ_67.1 641 a0 = (σ1.1 641 a0) from ((kp_c fr_67 (by decide)).trans ((kp_c frE_67 (by decide)).symm.trans (((kp_c p26_0 (by decide)).trans ((kp_i eσ23 (by decide)).trans ((kp_c p19_0 (by decide)).trans rfl))))))); have : (σ_67.1 642 a0).toInt = ((σ1.1 642 a0) : Int32).toInt := congrArg Int32.toInt (show σ_67.1 642 a0 = (σ1.1 642 a0) from ((kp_c fr_67 (by decide)).trans ((kp_c frE_67 (by decide)).symm.trans (((kp_c p26_0 (by decide)).trans ((kp_i eσ23 (by decide)).trans ((kp_c p19_0 (by decide)).trans rfl))))))); have : (v21 : Int32).toInt ≠ (100000000 : Int32).toInt := fun q => c22 (Int32.toInt_inj.mp q); have : (j67_4 : Int32).toInt ≤ (v30 : Int32).toInt := iv_le.mp (iv_nlt c33); have : (j67_4 : Int32).toInt < (14 : Int32).toInt := iv_lt.mp (iv_nle c36); have : (0 : Int32).toInt = 0 := (by decide); have : (100000000 : Int32).toInt = 100000000 := (by decide); have : (14 : Int32).toInt = 14 := (by decide); exact ⟨by omega, by omega⟩)) e40 p42_1 rfl rfl) _ (lv_sub hl [2, 3, 4, 5, 6, 1, 0] rfl)
        exact J_67 _ a1 i9 1 (iv_w (⟨by decide, by decide⟩ : Iv 1 1 1) (by decide)) σ25 _ _ hw fr (kn_iv (rfl) (iv_w i27 (by decide))) (Nat.lt_succ_self _) (by rw [show σ25.2.2.1 b676 = σ18.2.2.1 b676 from ((rw_c p26_0 hb676 (by decide)).trans ((rw_i eσ23).trans rfl))]; exact fa9) (by rw [show σ25.2.2.1 b676 = σ18.2.2.1 b676 from ((rw_c p26_0 hb676 (by decide)).trans ((rw_i eσ23).trans rfl))]; exact kn_iv2 e21 (fa_iv fa9 (iv_w i9 (by decide)) e21 c22)) (by have : (1 : Int32).toInt = 1 := (by decide); omega) (le_iv i27 (⟨by decide, by decide⟩ : Iv 1 1 1) (by decide)) _ (lv_sub hl [2, 3, 4, 1, 0] rfl)
      · --
        have i65 : Iv v21 100000000 100000000 := iv_eq1 c22 (iv_top v21) (⟨by decide, by decide⟩ : Iv 100000000 100000000 100000000) (by decide)
        refine lv_bipush (v := (-2)) hx hb dX11_cart_48 (by decide) ?_
        rw [← hQ]
        exact o_ri cx rx hw dX11_cart_50 fr
    · --
      have i66 : Iv v11 0 0 := iv_eq1 c12 p11_1 (⟨by decide, by decide⟩ : Iv 0 0 0) (by decide)
      refine lv_iconst (v := (-1)) hx hb dX11_cart_21 (by decide) ?_
      rw [← hQ]
      exact o_ri cx rx hw dX11_cart_22 fr
abbrev fs_X11_joined : List Nat := [657, 658]
abbrev ts_X11_joined : List Nat := [52]
set_option maxHeartbeats 4000000 in
set_option maxRecDepth 100000 in
theorem c_X11_joined (a0 : Nat) (ha0 : oA L τ a0 10) (a1 : Int32) : oMet l A L τ cy D K yX11_joined cX11_joined 8 (some .int) 3 67 [.ref a0, .int a1] σ (va_Qi (fun r σ1 => oFr τ fs_X11_joined ts_X11_joined σ σ1 ∧ Iv r (-2) 63) (oPo A L τ cy D) A) := by
  refine oMk (by decide) (Nat.le_of_ble_eq_true rfl) rfl ?_
  intro p e s m args below meth c ls cx rx hA hw hl
  generalize hQ : MQ below _ args s 0 0 A = Q
  have hx := cx.1.1
  have hb := cx.1.2.1
  have hml := cx.1.2.2.1
  have hown := cx.1.2.2.2.1
  have hts := cx.1.2.2.2.2
  have hl : lv_has ls 8 [(0, .ref a0), (1, .int a1)] := hl
  have fr : oFr τ fs_X11_joined ts_X11_joined σ σ := oFr_rf
  refine lv_aload_n hx hb dX11_joined_0 rfl (lv_at hl 0 rfl) ?_
  refine lv_iconst (v := 0) hx hb dX11_joined_1 (by decide) ?_
  refine p_658 cx hw ha0 k_f_X11_89 dX11_joined_2 (fun σ1 H locs eσ1 hw => ?_)
  have fr := oFr_i fr eσ1 (by decide)
  refine lv_aload_n hx hb dX11_joined_5 rfl (lv_at hl 0 rfl) ?_
  refine lv_iload_n hx hb dX11_joined_6 rfl (lv_at hl 1 rfl) ?_
  refine o_ci hw (oRunV cx hA hw q_X11_isHerd k_m_X11_237 rfl ha0 (by decide) (As := [.int a1]) (c_X11_isHerd a0 ha0 a1) (by decide) rfl hl.1 rfl (Nat.le_of_ble_eq_true rfl) dX11_joined_7 (by decide)) (fun v3 σ2 H locs hp hw => ?_)
  obtain ⟨p3_0, p3_1, p3_2⟩ := hp
  rw [p3_0] at hw
  refine lv_if_ne (tgt := 15) hx hb dX11_joined_10 (by decide) (fun c4 => ?_) (fun c4 => ?_)
  · --
    have i5 : Iv v3 1 1 := iv_ne1 c4 p3_1 (⟨by decide, by decide⟩ : Iv 0 0 0) (by decide)
    have i6 : Iv a1 0 5 := p3_2 c4
    refine lv_aload_n hx hb dX11_joined_15 rfl (lv_at hl 0 rfl) ?_
    refine lv_aload_n hx hb dX11_joined_16 rfl (lv_at hl 0 rfl) ?_
    refine g_640 cx hw ha0 k_f_X11_9 dX11_joined_17 (fun v7 e7 h7 => ?_)
    refine o_cl hw (oRunV cx hA hw q_X11_roadOf k_m_X11_313 rfl ha0 (by decide) (As := [.ref v7]) (c_X11_roadOf a0 ha0 v7 h7) (by decide) rfl hl.1 rfl (Nat.le_of_ble_eq_true rfl) dX11_joined_20 (by decide)) (fun v9 σ8 H locs hp hw => ?_)
    have p9_0 := hp
    rw [p9_0] at hw
    refine lv_lstore_n (lv' := [(2, .long v9), (0, .ref a0), (1, .int a1)]) hx hb dX11_joined_23 rfl hl (by decide) rfl (fun ls hl => ?_)
    refine lv_lload_n hx hb dX11_joined_24 rfl (lv_at hl 0 rfl) ?_
    refine lv_aload_n hx hb dX11_joined_25 rfl (lv_at hl 1 rfl) ?_
    refine g_640 cx hw ha0 k_f_X11_9 dX11_joined_26 (fun v10 e10 h10 => ?_)
    rw [show v10 = v7 from Option.some.inj (e10.symm.trans (e7))]
    refine lv_sipush (v := 320) hx hb dX11_joined_29 (by decide) ?_
    refine lv_iload_n hx hb dX11_joined_32 rfl (lv_at hl 2 rfl) ?_
    refine lv_iadd hx hb dX11_joined_33 ?_
    refine lv_topi (fun v11 e11 => ?_)
    have i11 : Iv v11 320 325 := iv_add e11 (⟨by decide, by decide⟩ : Iv 320 320 320) i6 (by decide)
    have x11 : v11.toInt = a1.toInt + 320 := (ex_add e11 (⟨by decide, by decide⟩ : Iv 320 320 320) i6 (by decide)).trans (Int.add_comm _ _)
    refine o_iald cx hw h7 (by decide) rfl (iv_in i11 (by decide)) dX11_joined_34 (fun v12 e12 b12 => ?_)
    have i12 : Iv v12 0 63 := rb_now b12 i11 (by decide)
    refine o_ci hw (oRunS cx hA hw q_X11_has k_m_X11_215 (As := [.long v9, .int v12]) (c_X11_has v9 v12) (by decide) rfl hl.1 rfl (Nat.le_of_ble_eq_true rfl) dX11_joined_35 (by decide)) (fun v14 σ13 H locs hp hw => ?_)
    obtain ⟨p14_0, p14_1, p14_2⟩ := hp
    rw [p14_0] at hw
    refine lv_if_ne (tgt := 44) hx hb dX11_joined_38 (by decide) (fun c15 => ?_) (fun c15 => ?_)
    · --
      have i16 : Iv v14 1 1 := iv_ne1 c15 p14_1 (⟨by decide, by decide⟩ : Iv 0 0 0) (by decide)
      refine lv_lconst (v := 1) hx hb dX11_joined_44 (by decide) ?_
      refine lv_aload_n hx hb dX11_joined_45 rfl (lv_at hl 1 rfl) ?_
      refine g_640 cx hw ha0 k_f_X11_9 dX11_joined_46 (fun v17 e17 h17 => ?_)
      rw [show v17 = v7 from Option.some.inj (e17.symm.trans (e7))]
      refine lv_sipush (v := 320) hx hb dX11_joined_49 (by decide) ?_
      refine lv_iload_n hx hb dX11_joined_52 rfl (lv_at hl 2 rfl) ?_
      refine lv_iadd hx hb dX11_joined_53 ?_
      refine lv_topi (fun v18 e18 => ?_)
      have i18 : Iv v18 320 325 := iv_add e18 (⟨by decide, by decide⟩ : Iv 320 320 320) i6 (by decide)
      have x18 : v18.toInt = a1.toInt + 320 := (ex_add e18 (⟨by decide, by decide⟩ : Iv 320 320 320) i6 (by decide)).trans (Int.add_comm _ _)
      refine o_iald cx hw h7 (by decide) rfl (iv_in i18 (by decide)) dX11_joined_54 (fun v19 e19 b19 => ?_)
      have i19 : Iv v19 0 63 := rb_now b19 i18 (by decide)
      refine lv_lshl hx hb dX11_joined_55 rfl ?_
      refine lv_topl (fun v20 e20 => ?_)
      refine lv_lload_n hx hb dX11_joined_56 rfl (lv_at hl 0 rfl) ?_
      refine o_cl hw (oRunS cx hA hw q_X11_spread k_m_X11_317 (As := [.long v20, .long v9]) (c_X11_spread v20 v9) (by decide) rfl hl.1 rfl (Nat.le_of_ble_eq_true rfl) dX11_joined_57 (by decide)) (fun v22 σ21 H locs hp hw => ?_)
      obtain ⟨p22_0, p22_1⟩ := hp
      rw [p22_0] at hw
      refine lv_lstore (lv' := [(4, .long v22), (2, .long v9), (0, .ref a0), (1, .int a1)]) hx hb dX11_joined_60 hl (by decide) rfl (fun ls hl => ?_)
      refine lv_iconst (v := 0) hx hb dX11_joined_62 (by decide) ?_
      refine lv_istore (lv' := [(6, .int 0), (4, .long v22), (2, .long v9), (0, .ref a0), (1, .int a1)]) hx hb dX11_joined_63 hl (by decide) rfl (fun ls hl => ?_)
      refine lv_iconst (v := 0) hx hb dX11_joined_65 (by decide) ?_
      refine lv_istore (lv' := [(7, .int 0), (6, .int 0), (4, .long v22), (2, .long v9), (0, .ref a0), (1, .int a1)]) hx hb dX11_joined_66 hl (by decide) rfl (fun ls hl => ?_)
      have J_68 : ∀ n68 : Nat, ∀ (j68_6 : Int32) (ij68_6 : Iv j68_6 0 63) (j68_7 : Int32) (ij68_7 : Iv j68_7 0 6), ∀ (H : Heap) (locs : List Loc), oI A L τ cy D s.heap σ1 H locs → (6 - j68_7.toInt).toNat < n68 → ∀ (ls : Array Slot), lv_has ls 8 [(0, .ref a0), (1, .int a1), (2, .long v9), (4, .long v22), (6, .int j68_6), (7, .int j68_7)] → W p l e ({ frames := 3, cells := 0, slots := 0, locals := 67 } : Room) s m args below meth c H locs 0 0 Q (F0 m 68 ls []) := by
        intro n68
        induction n68 with
        | zero => intro j68_6 ij68_6 j68_7 ij68_7 H locs hw  hn_68   ls hl; exact absurd hn_68 (Nat.not_lt_zero _)
        | succ n68 ih_68 =>
          intro j68_6 ij68_6 j68_7 ij68_7 H locs hw  hn_68   ls hl
          refine lv_iload hx hb dX11_joined_68 (lv_at hl 5 rfl) ?_
          refine lv_aload_n hx hb dX11_joined_70 rfl (lv_at hl 0 rfl) ?_
          refine g_647 cx hw ha0 k_f_X11_105 dX11_joined_71 (fun v23 e23 i23 => ?_)
          refine lv_icmp_ge (tgt := 115) hx hb dX11_joined_74 (by decide) (fun c24 => ?_) (fun c24 => ?_)
          · --
            refine lv_aload_n hx hb dX11_joined_115 rfl (lv_at hl 0 rfl) ?_
            refine lv_iconst (v := 0) hx hb dX11_joined_116 (by decide) ?_
            refine p_657 cx hw ha0 (iv_w (⟨by decide, by decide⟩ : Iv 0 0 0) (by decide)) k_f_X11_92 dX11_joined_117 (fun σ25 H locs eσ25 hw => ?_)
            have fr := oFr_i fr eσ25 (by decide)
            refine lv_aload_n hx hb dX11_joined_120 rfl (lv_at hl 0 rfl) ?_
            refine lv_lload hx hb dX11_joined_121 (lv_at hl 3 rfl) ?_
            refine o_ci hw (oRunS cx hA hw q_J13_bitCount_95d88 k_m_X11_321 (As := [.long v22]) (c_J13_bitCount_95d88 v22) (by decide) rfl hl.1 rfl (Nat.le_of_ble_eq_true rfl) dX11_joined_123 (by decide)) (fun v27 σ26 H locs hp hw => ?_)
            obtain ⟨p27_0, p27_1⟩ := hp
            rw [p27_0] at hw
            refine lv_i2l hx hb dX11_joined_126 rfl ?_
            refine lv_topl (fun v28 e28 => ?_)
            refine o_cv hw (oRunV cx hA hw q_X11_tell k_m_X11_278 rfl ha0 (by decide) (As := [.long v28]) (c_X11_tell a0 ha0 v28 (kn_iv ((kp_s eσ25)) (iv_w (⟨by decide, by decide⟩ : Iv 0 0 0) (by decide)))) (by decide) rfl hl.1 rfl (Nat.le_of_ble_eq_true rfl) dX11_joined_127 (by decide)) (fun σ29 H locs hp hw => ?_)
            obtain ⟨p30_0, p30_1⟩ := hp
            have fr := oFr_tr fr p30_0 (by decide)
            have x32 : (σ29.1 657 a0).toInt = (0 : Int32).toInt + 1 := fin_tr p30_1 ((kp_s eσ25))
            have i31 : Iv (σ29.1 657 a0) 1 1 := iv_fin x32 (⟨by decide, by decide⟩ : Iv 0 0 0) (by decide)
            refine lv_iload hx hb dX11_joined_130 (lv_at hl 4 rfl) ?_
            rw [← hQ]
            exact o_ri cx rx hw dX11_joined_132 ⟨fr, (iv_w ij68_6 (by decide))⟩
          · --
            have i33 : Iv j68_7 0 5 := iv_lt1 (iv_nle c24) ij68_7 i23 (by decide)
            have i34 : Iv v23 1 6 := iv_lt2 (iv_nle c24) ij68_7 i23 (by decide)
            refine lv_iload hx hb dX11_joined_77 (lv_at hl 4 rfl) ?_
            refine lv_lload hx hb dX11_joined_79 (lv_at hl 3 rfl) ?_
            refine lv_aload_n hx hb dX11_joined_81 rfl (lv_at hl 0 rfl) ?_
            refine g_640 cx hw ha0 k_f_X11_9 dX11_joined_82 (fun v35 e35 h35 => ?_)
            rw [show v35 = v7 from Option.some.inj (e35.symm.trans (e7))]
            refine lv_sipush (v := 320) hx hb dX11_joined_85 (by decide) ?_
            refine lv_iload hx hb dX11_joined_88 (lv_at hl 5 rfl) ?_
            refine lv_iadd hx hb dX11_joined_90 ?_
            refine lv_topi (fun v36 e36 => ?_)
            have i36 : Iv v36 320 325 := iv_add e36 (⟨by decide, by decide⟩ : Iv 320 320 320) i33 (by decide)
            have x36 : v36.toInt = j68_7.toInt + 320 := (ex_add e36 (⟨by decide, by decide⟩ : Iv 320 320 320) i33 (by decide)).trans (Int.add_comm _ _)
            refine o_iald cx hw h7 (by decide) rfl (iv_in i36 (by decide)) dX11_joined_91 (fun v37 e37 b37 => ?_)
            have i37 : Iv v37 0 63 := rb_now b37 i36 (by decide)
            refine o_ci hw (oRunS cx hA hw q_X11_has k_m_X11_215 (As := [.long v22, .int v37]) (c_X11_has v22 v37) (by decide) rfl hl.1 rfl (Nat.le_of_ble_eq_true rfl) dX11_joined_92 (by decide)) (fun v39 σ38 H locs hp hw => ?_)
            obtain ⟨p39_0, p39_1, p39_2⟩ := hp
            rw [p39_0] at hw
            have J_106 : ∀ (k106_1 : Int32) (ik106_1 : Iv k106_1 0 32), ∀ (H : Heap) (locs : List Loc), oI A L τ cy D s.heap σ1 H locs → ∀ (ls : Array Slot), lv_has ls 8 [(0, .ref a0), (1, .int a1), (2, .long v9), (4, .long v22), (6, .int j68_6), (7, .int j68_7)] → W p l e ({ frames := 3, cells := 0, slots := 0, locals := 67 } : Room) s m args below meth c H locs 0 0 Q (F0 m 106 ls [.int k106_1, .int j68_6]) := by
              intro k106_1 ik106_1 H locs hw     ls hl
              refine lv_ior hx hb dX11_joined_106 ?_
              refine lv_topi (fun v40 e40 => ?_)
              have i40 : Iv v40 0 63 := iv_or e40 ij68_6 ik106_1 6 (by decide)
              refine lv_istore (lv' := [(6, .int v40), (0, .ref a0), (1, .int a1), (2, .long v9), (4, .long v22), (7, .int j68_7)]) hx hb dX11_joined_107 hl (by decide) rfl (fun ls hl => ?_)
              obtain ⟨v41, e41⟩ : ∃ y : Int32, y = j68_7 + 1 := ⟨_, rfl⟩
              have i41 : Iv v41 1 6 := iv_add e41 i33 (⟨by decide, by decide⟩ : Iv 1 1 1) (by decide)
              have x41 : v41.toInt = j68_7.toInt + 1 := ex_add e41 i33 (⟨by decide, by decide⟩ : Iv 1 1 1) (by decide)
              refine lv_iinc (v := v41) (lv' := [(7, .int v41), (6, .int v40), (0, .ref a0), (1, .int a1), (2, .long v9), (4, .long v22)]) hx hb dX11_joined_109 hl (k := 5) rfl (by rw [e41]; rfl) (by decide) rfl (fun ls hl => ?_)
              refine lv_goto (tgt := 68) hx hb dX11_joined_112 (by decide) ?_
              exact ih_68 v40 i40 v41 (iv_w i41 (by decide)) _ _ hw (ms_up x41 (by decide) (iv_w (a' := 0) (b' := 6) i41 (by decide)).2 hn_68) _ (lv_sub hl [2, 3, 4, 5, 1, 0] rfl)
            refine lv_if_eq (tgt := 105) hx hb dX11_joined_95 (by decide) (fun c42 => ?_) (fun c42 => ?_)
            · --
              have i43 : Iv v39 0 0 := iv_eq1 c42 p39_1 (⟨by decide, by decide⟩ : Iv 0 0 0) (by decide)
              refine lv_iconst (v := 0) hx hb dX11_joined_105 (by decide) ?_
              exact J_106 0 (iv_w (⟨by decide, by decide⟩ : Iv 0 0 0) (by decide)) _ _ hw _ (lv_sub hl [0, 1, 2, 3, 4, 5] rfl)
            · --
              have i44 : Iv v39 1 1 := iv_ne1 c42 p39_1 (⟨by decide, by decide⟩ : Iv 0 0 0) (by decide)
              refine lv_iconst (v := 1) hx hb dX11_joined_98 (by decide) ?_
              refine lv_iload hx hb dX11_joined_99 (lv_at hl 5 rfl) ?_
              refine lv_ishl hx hb dX11_joined_101 ?_
              refine lv_topi (fun v45 e45 => ?_)
              have i45 : Iv v45 1 32 := iv_shl1 e45 i33 (by decide)
              refine lv_goto (tgt := 106) hx hb dX11_joined_102 (by decide) ?_
              exact J_106 v45 (iv_w i45 (by decide)) _ _ hw _ (lv_sub hl [0, 1, 2, 3, 4, 5] rfl)
      exact J_68 _ 0 (iv_w (⟨by decide, by decide⟩ : Iv 0 0 0) (by decide)) 0 (iv_w (⟨by decide, by decide⟩ : Iv 0 0 0) (by decide)) _ _ hw (Nat.lt_succ_self _) _ (lv_sub hl [4, 5, 3, 2, 1, 0] rfl)
    · --
      have i46 : Iv v14 0 0 := iv_eq1 c15 p14_1 (⟨by decide, by decide⟩ : Iv 0 0 0) (by decide)
      refine lv_bipush (v := (-2)) hx hb dX11_joined_41 (by decide) ?_
      rw [← hQ]
      exact o_ri cx rx hw dX11_joined_43 ⟨fr, (iv_w (⟨by decide, by decide⟩ : Iv (-2) (-2) (-2)) (by decide))⟩
  · --
    have i47 : Iv v3 0 0 := iv_eq1 c4 p3_1 (⟨by decide, by decide⟩ : Iv 0 0 0) (by decide)
    refine lv_iconst (v := (-1)) hx hb dX11_joined_13 (by decide) ?_
    rw [← hQ]
    exact o_ri cx rx hw dX11_joined_14 ⟨fr, (iv_w (⟨by decide, by decide⟩ : Iv (-1) (-1) (-1)) (by decide))⟩
abbrev fs_X11_owners : List Nat := [657, 658]
abbrev ts_X11_owners : List Nat := [52]
set_option maxHeartbeats 4000000 in
set_option maxRecDepth 100000 in
theorem c_X11_owners (a0 : Nat) (ha0 : oA L τ a0 10) : oMet l A L τ cy D K yX11_owners cX11_owners 8 (some .int) 3 67 [.ref a0] σ (va_Qi (fun r σ1 => oFr τ fs_X11_owners ts_X11_owners σ σ1 ∧ Iv r (-2) 6) (oPo A L τ cy D) A) := by
  refine oMk (by decide) (Nat.le_of_ble_eq_true rfl) rfl ?_
  intro p e s m args below meth c ls cx rx hA hw hl
  generalize hQ : MQ below _ args s 0 0 A = Q
  have hx := cx.1.1
  have hb := cx.1.2.1
  have hml := cx.1.2.2.1
  have hown := cx.1.2.2.2.1
  have hts := cx.1.2.2.2.2
  have hl : lv_has ls 8 [(0, .ref a0)] := hl
  have fr : oFr τ fs_X11_owners ts_X11_owners σ σ := oFr_rf
  refine lv_aload_n hx hb dX11_owners_0 rfl (lv_at hl 0 rfl) ?_
  refine lv_iconst (v := 0) hx hb dX11_owners_1 (by decide) ?_
  refine p_658 cx hw ha0 k_f_X11_89 dX11_owners_2 (fun σ1 H locs eσ1 hw => ?_)
  have fr := oFr_i fr eσ1 (by decide)
  refine lv_aload_n hx hb dX11_owners_5 rfl (lv_at hl 0 rfl) ?_
  refine g_647 cx hw ha0 k_f_X11_105 dX11_owners_6 (fun v2 e2 i2 => ?_)
  refine lv_if_ne (tgt := 15) hx hb dX11_owners_9 (by decide) (fun c3 => ?_) (fun c3 => ?_)
  · --
    have i4 : Iv v2 1 6 := iv_ne1 c3 i2 (⟨by decide, by decide⟩ : Iv 0 0 0) (by decide)
    refine lv_iconst (v := 0) hx hb dX11_owners_15 (by decide) ?_
    refine lv_istore_n (lv' := [(1, .int 0), (0, .ref a0)]) hx hb dX11_owners_16 rfl hl (by decide) rfl (fun ls hl => ?_)
    refine lv_iconst (v := (-1)) hx hb dX11_owners_17 (by decide) ?_
    refine lv_istore_n (lv' := [(2, .int (-1)), (1, .int 0), (0, .ref a0)]) hx hb dX11_owners_18 rfl hl (by decide) rfl (fun ls hl => ?_)
    refine lv_aload_n hx hb dX11_owners_19 rfl (lv_at hl 2 rfl) ?_
    refine lv_aload_n hx hb dX11_owners_20 rfl (lv_at hl 2 rfl) ?_
    refine g_640 cx hw ha0 k_f_X11_9 dX11_owners_21 (fun v5 e5 h5 => ?_)
    refine o_cl hw (oRunV cx hA hw q_X11_roadOf k_m_X11_313 rfl ha0 (by decide) (As := [.ref v5]) (c_X11_roadOf a0 ha0 v5 h5) (by decide) rfl hl.1 rfl (Nat.le_of_ble_eq_true rfl) dX11_owners_24 (by decide)) (fun v7 σ6 H locs hp hw => ?_)
    have p7_0 := hp
    rw [p7_0] at hw
    refine lv_lstore_n (lv' := [(3, .long v7), (2, .int (-1)), (1, .int 0), (0, .ref a0)]) hx hb dX11_owners_27 rfl hl (by decide) rfl (fun ls hl => ?_)
    refine lv_aload_n hx hb dX11_owners_28 rfl (lv_at hl 3 rfl) ?_
    refine lv_iconst (v := 0) hx hb dX11_owners_29 (by decide) ?_
    refine p_657 cx hw ha0 (iv_w (⟨by decide, by decide⟩ : Iv 0 0 0) (by decide)) k_f_X11_92 dX11_owners_30 (fun σ8 H locs eσ8 hw => ?_)
    have fr := oFr_i fr eσ8 (by decide)
    refine lv_iconst (v := 0) hx hb dX11_owners_33 (by decide) ?_
    refine lv_istore (lv' := [(5, .int 0), (3, .long v7), (2, .int (-1)), (1, .int 0), (0, .ref a0)]) hx hb dX11_owners_34 hl (by decide) rfl (fun ls hl => ?_)
    have frE_36 := fr
    have J_36 : ∀ n36 : Nat, ∀ (j36_1 : Int32) (ij36_1 : Iv j36_1 0 6) (j36_2 : Int32) (ij36_2 : Iv j36_2 (-1) 2147483647) (j36_5 : Int32) (ij36_5 : Iv j36_5 0 6), ∀ (σ_36 : oSt) (H : Heap) (locs : List Loc), oI A L τ cy D s.heap σ_36 H locs → oFr τ fs_X11_owners ts_X11_owners σ σ_36 → Iv (σ_36.1 657 a0) 0 6 → (6 - j36_5.toInt).toNat < n36 → (σ_36.1 657 a0).toInt ≤ j36_5.toInt + 0 → ∀ (ls : Array Slot), lv_has ls 8 [(0, .ref a0), (1, .int j36_1), (2, .int j36_2), (3, .long v7), (5, .int j36_5)] → W p l e ({ frames := 3, cells := 0, slots := 0, locals := 67 } : Room) s m args below meth c H locs 0 0 Q (F0 m 36 ls []) := by
      intro n36
      induction n36 with
      | zero => intro j36_1 ij36_1 j36_2 ij36_2 j36_5 ij36_5 σ_36 H locs hw fr f36_657_a0  hn_36   le36_0 ls hl; exact absurd hn_36 (Nat.not_lt_zero _)
      | succ n36 ih_36 =>
        intro j36_1 ij36_1 j36_2 ij36_2 j36_5 ij36_5 σ_36 H locs hw fr f36_657_a0  hn_36   le36_0 ls hl
        have fr_36 := fr
        refine lv_iload hx hb dX11_owners_36 (lv_at hl 4 rfl) ?_
        refine lv_aload_n hx hb dX11_owners_38 rfl (lv_at hl 0 rfl) ?_
        refine g_647 cx hw ha0 k_f_X11_105 dX11_owners_39 (fun v9 e9 i9 => ?_)
        rw [show v9 = v2 from e9.trans ((kp_c fr_36 (by decide)).trans ((kp_c frE_36 (by decide)).symm.trans (((kp_i eσ8 (by decide)).trans e2.symm))))]
        refine lv_icmp_ge (tgt := 127) hx hb dX11_owners_42 (by decide) (fun c10 => ?_) (fun c10 => ?_)
        · --
          have i11 : Iv j36_5 1 6 := iv_le2 c10 i4 ij36_5 (by decide)
          refine lv_iload_n hx hb dX11_owners_127 rfl (lv_at hl 1 rfl) ?_
          rw [← hQ]
          exact o_ri cx rx hw dX11_owners_128 ⟨fr, (iv_w ij36_1 (by decide))⟩
        · --
          have i12 : Iv j36_5 0 5 := iv_lt1 (iv_nle c10) ij36_5 i4 (by decide)
          have i13 : Iv (σ_36.1 657 a0) 0 5 := iv_leh le36_0 f36_657_a0 i12 (by decide)
          refine lv_iconst (v := 0) hx hb dX11_owners_45 (by decide) ?_
          refine lv_istore (lv' := [(6, .int 0), (0, .ref a0), (1, .int j36_1), (2, .int j36_2), (3, .long v7), (5, .int j36_5)]) hx hb dX11_owners_46 hl (by decide) rfl (fun ls hl => ?_)
          refine lv_iconst (v := 0) hx hb dX11_owners_48 (by decide) ?_
          refine lv_istore (lv' := [(7, .int 0), (6, .int 0), (0, .ref a0), (1, .int j36_1), (2, .int j36_2), (3, .long v7), (5, .int j36_5)]) hx hb dX11_owners_49 hl (by decide) rfl (fun ls hl => ?_)
          have J_51 : ∀ n51 : Nat, ∀ (j51_6 : Int32) (j51_7 : Int32) (ij51_7 : Iv j51_7 0 64), ∀ (H : Heap) (locs : List Loc), oI A L τ cy D s.heap σ_36 H locs → (64 - j51_7.toInt).toNat < n51 → (σ_36.1 657 a0).toInt ≤ j36_5.toInt + 0 → ∀ (ls : Array Slot), lv_has ls 8 [(0, .ref a0), (1, .int j36_1), (2, .int j36_2), (3, .long v7), (5, .int j36_5), (6, .int j51_6), (7, .int j51_7)] → W p l e ({ frames := 3, cells := 0, slots := 0, locals := 67 } : Room) s m args below meth c H locs 0 0 Q (F0 m 51 ls []) := by
            intro n51
            induction n51 with
            | zero => intro j51_6 j51_7 ij51_7 H locs hw  hn_51   le51_0 ls hl; exact absurd hn_51 (Nat.not_lt_zero _)
            | succ n51 ih_51 =>
              intro j51_6 j51_7 ij51_7 H locs hw  hn_51   le51_0 ls hl
              refine lv_iload hx hb dX11_owners_51 (lv_at hl 6 rfl) ?_
              refine lv_bipush (v := 64) hx hb dX11_owners_53 (by decide) ?_
              refine lv_icmp_ge (tgt := 99) hx hb dX11_owners_55 (by decide) (fun c14 => ?_) (fun c14 => ?_)
              · --
                have i15 : Iv j51_7 64 64 := iv_le2 c14 (⟨by decide, by decide⟩ : Iv 64 64 64) ij51_7 (by decide)
                refine lv_aload_n hx hb dX11_owners_99 rfl (lv_at hl 0 rfl) ?_
                refine lv_iload hx hb dX11_owners_100 (lv_at hl 5 rfl) ?_
                refine lv_i2l hx hb dX11_owners_102 rfl ?_
                refine lv_topl (fun v16 e16 => ?_)
                refine o_cv hw (oRunV cx hA hw q_X11_tell k_m_X11_278 rfl ha0 (by decide) (As := [.long v16]) (c_X11_tell a0 ha0 v16 (kn_iv (rfl) (iv_w i13 (by decide)))) (by decide) rfl hl.1 rfl (Nat.le_of_ble_eq_true rfl) dX11_owners_103 (by decide)) (fun σ17 H locs hp hw => ?_)
                obtain ⟨p18_0, p18_1⟩ := hp
                have fr := oFr_tr fr p18_0 (by decide)
                have x20 : (σ17.1 657 a0).toInt = (σ_36.1 657 a0).toInt + 1 := fin_tr p18_1 (rfl)
                have i19 : Iv (σ17.1 657 a0) 1 6 := iv_fin x20 i13 (by decide)
                refine lv_iload hx hb dX11_owners_106 (lv_at hl 5 rfl) ?_
                refine lv_iload_n hx hb dX11_owners_108 rfl (lv_at hl 2 rfl) ?_
                have J_121 : ∀ (j121_1 : Int32) (ij121_1 : Iv j121_1 0 6) (j121_2 : Int32) (ij121_2 : Iv j121_2 (-1) 2147483647), ∀ (H : Heap) (locs : List Loc), oI A L τ cy D s.heap σ17 H locs → (σ17.1 657 a0).toInt ≤ j36_5.toInt + 1 → ∀ (ls : Array Slot), lv_has ls 8 [(0, .ref a0), (1, .int j121_1), (2, .int j121_2), (3, .long v7), (5, .int j36_5), (6, .int j51_6), (7, .int j51_7)] → W p l e ({ frames := 3, cells := 0, slots := 0, locals := 67 } : Room) s m args below meth c H locs 0 0 Q (F0 m 121 ls []) := by
                  intro j121_1 ij121_1 j121_2 ij121_2 H locs hw     le121_0 ls hl
                  obtain ⟨v21, e21⟩ : ∃ y : Int32, y = j36_5 + 1 := ⟨_, rfl⟩
                  have i21 : Iv v21 1 6 := iv_add e21 i12 (⟨by decide, by decide⟩ : Iv 1 1 1) (by decide)
                  have x21 : v21.toInt = j36_5.toInt + 1 := ex_add e21 i12 (⟨by decide, by decide⟩ : Iv 1 1 1) (by decide)
                  refine lv_iinc (v := v21) (lv' := [(5, .int v21), (0, .ref a0), (1, .int j121_1), (2, .int j121_2), (3, .long v7), (6, .int j51_6), (7, .int j51_7)]) hx hb dX11_owners_121 hl (k := 4) rfl (by rw [e21]; rfl) (by decide) rfl (fun ls hl => ?_)
                  refine lv_goto (tgt := 36) hx hb dX11_owners_124 (by decide) ?_
                  exact ih_36 j121_1 ij121_1 j121_2 ij121_2 v21 (iv_w i21 (by decide)) σ17 _ _ hw fr (kn_iv (rfl) (iv_w i19 (by decide))) (ms_up x21 (by decide) (iv_w (a' := 0) (b' := 6) i21 (by decide)).2 hn_36) (le_lin (Int.add_zero _).symm x21 le121_0 (by decide)) _ (lv_sub hl [1, 2, 3, 4, 0] rfl)
                refine lv_icmp_gt (tgt := 115) hx hb dX11_owners_109 (by decide) (fun c22 => ?_) (fun c22 => ?_)
                · --
                  have i23 : Iv j36_2 (-1) 2147483646 := iv_lt1 c22 ij36_2 (iv_top j51_6) (by decide)
                  have i24 : Iv j51_6 0 2147483647 := iv_lt2 c22 ij36_2 (iv_top j51_6) (by decide)
                  refine lv_iload hx hb dX11_owners_115 (lv_at hl 4 rfl) ?_
                  refine lv_istore_n (lv' := [(1, .int j36_5), (0, .ref a0), (2, .int j36_2), (3, .long v7), (5, .int j36_5), (6, .int j51_6), (7, .int j51_7)]) hx hb dX11_owners_117 rfl hl (by decide) rfl (fun ls hl => ?_)
                  refine lv_iload hx hb dX11_owners_118 (lv_at hl 5 rfl) ?_
                  refine lv_istore_n (lv' := [(2, .int j51_6), (1, .int j36_5), (0, .ref a0), (3, .long v7), (5, .int j36_5), (6, .int j51_6), (7, .int j51_7)]) hx hb dX11_owners_120 rfl hl (by decide) rfl (fun ls hl => ?_)
                  exact J_121 j36_5 (iv_w i12 (by decide)) j51_6 (iv_w i24 (by decide)) _ _ hw (le_lin x20 (Int.add_zero _).symm le36_0 (by decide)) _ (lv_sub hl [2, 1, 0, 3, 4, 5, 6] rfl)
                · --
                  refine lv_goto (tgt := 121) hx hb dX11_owners_112 (by decide) ?_
                  exact J_121 j36_1 ij36_1 j36_2 ij36_2 _ _ hw (le_lin x20 (Int.add_zero _).symm le36_0 (by decide)) _ (lv_sub hl [0, 1, 2, 3, 4, 5, 6] rfl)
              · --
                have i25 : Iv j51_7 0 63 := iv_lt1 (iv_nle c14) ij51_7 (⟨by decide, by decide⟩ : Iv 64 64 64) (by decide)
                refine lv_iload hx hb dX11_owners_58 (lv_at hl 5 rfl) ?_
                refine lv_lload_n hx hb dX11_owners_60 rfl (lv_at hl 3 rfl) ?_
                refine lv_iload hx hb dX11_owners_61 (lv_at hl 6 rfl) ?_
                refine o_ci hw (oRunS cx hA hw q_X11_has k_m_X11_215 (As := [.long v7, .int j51_7]) (c_X11_has v7 j51_7) (by decide) rfl hl.1 rfl (Nat.le_of_ble_eq_true rfl) dX11_owners_63 (by decide)) (fun v27 σ26 H locs hp hw => ?_)
                obtain ⟨p27_0, p27_1, p27_2⟩ := hp
                rw [p27_0] at hw
                have J_90 : ∀ (k90_1 : Int32) (ik90_1 : Iv k90_1 0 1), ∀ (H : Heap) (locs : List Loc), oI A L τ cy D s.heap σ_36 H locs → (σ_36.1 657 a0).toInt ≤ j36_5.toInt + 0 → ∀ (ls : Array Slot), lv_has ls 8 [(0, .ref a0), (1, .int j36_1), (2, .int j36_2), (3, .long v7), (5, .int j36_5), (6, .int j51_6), (7, .int j51_7)] → W p l e ({ frames := 3, cells := 0, slots := 0, locals := 67 } : Room) s m args below meth c H locs 0 0 Q (F0 m 90 ls [.int k90_1, .int j51_6]) := by
                  intro k90_1 ik90_1 H locs hw     le90_0 ls hl
                  refine lv_iadd hx hb dX11_owners_90 ?_
                  refine lv_topi (fun v28 e28 => ?_)
                  refine lv_istore (lv' := [(6, .int v28), (0, .ref a0), (1, .int j36_1), (2, .int j36_2), (3, .long v7), (5, .int j36_5), (7, .int j51_7)]) hx hb dX11_owners_91 hl (by decide) rfl (fun ls hl => ?_)
                  obtain ⟨v29, e29⟩ : ∃ y : Int32, y = j51_7 + 1 := ⟨_, rfl⟩
                  have i29 : Iv v29 1 64 := iv_add e29 i25 (⟨by decide, by decide⟩ : Iv 1 1 1) (by decide)
                  have x29 : v29.toInt = j51_7.toInt + 1 := ex_add e29 i25 (⟨by decide, by decide⟩ : Iv 1 1 1) (by decide)
                  refine lv_iinc (v := v29) (lv' := [(7, .int v29), (6, .int v28), (0, .ref a0), (1, .int j36_1), (2, .int j36_2), (3, .long v7), (5, .int j36_5)]) hx hb dX11_owners_93 hl (k := 6) rfl (by rw [e29]; rfl) (by decide) rfl (fun ls hl => ?_)
                  refine lv_goto (tgt := 51) hx hb dX11_owners_96 (by decide) ?_
                  exact ih_51 v28 v29 (iv_w i29 (by decide)) _ _ hw (ms_up x29 (by decide) (iv_w (a' := 0) (b' := 64) i29 (by decide)).2 hn_51) (le_lin (Int.add_zero _).symm (Int.add_zero _).symm le36_0 (by decide)) _ (lv_sub hl [2, 3, 4, 5, 6, 1, 0] rfl)
                have J_89 : ∀ (H : Heap) (locs : List Loc), oI A L τ cy D s.heap σ_36 H locs → (σ_36.1 657 a0).toInt ≤ j36_5.toInt + 0 → ∀ (ls : Array Slot), lv_has ls 8 [(0, .ref a0), (1, .int j36_1), (2, .int j36_2), (3, .long v7), (5, .int j36_5), (6, .int j51_6), (7, .int j51_7)] → W p l e ({ frames := 3, cells := 0, slots := 0, locals := 67 } : Room) s m args below meth c H locs 0 0 Q (F0 m 89 ls [.int j51_6]) := by
                  intro  H locs hw     le89_0 ls hl
                  refine lv_iconst (v := 0) hx hb dX11_owners_89 (by decide) ?_
                  exact J_90 0 (iv_w (⟨by decide, by decide⟩ : Iv 0 0 0) (by decide)) _ _ hw (le_lin (Int.add_zero _).symm (Int.add_zero _).symm le36_0 (by decide)) _ (lv_sub hl [0, 1, 2, 3, 4, 5, 6] rfl)
                refine lv_if_eq (tgt := 89) hx hb dX11_owners_66 (by decide) (fun c30 => ?_) (fun c30 => ?_)
                · --
                  have i31 : Iv v27 0 0 := iv_eq1 c30 p27_1 (⟨by decide, by decide⟩ : Iv 0 0 0) (by decide)
                  exact J_89 _ _ hw (le_lin (Int.add_zero _).symm (Int.add_zero _).symm le36_0 (by decide)) _ (lv_sub hl [0, 1, 2, 3, 4, 5, 6] rfl)
                · --
                  have i32 : Iv v27 1 1 := iv_ne1 c30 p27_1 (⟨by decide, by decide⟩ : Iv 0 0 0) (by decide)
                  refine lv_aload_n hx hb dX11_owners_69 rfl (lv_at hl 0 rfl) ?_
                  refine g_640 cx hw ha0 k_f_X11_9 dX11_owners_70 (fun v33 e33 h33 => ?_)
                  rw [show v33 = v5 from Option.some.inj (e33.symm.trans (((kr_c fr_36 (by decide)).trans ((kr_c frE_36 (by decide)).symm.trans (((kr_i eσ8).trans e5))))))]
                  refine lv_sipush (v := 256) hx hb dX11_owners_73 (by decide) ?_
                  refine lv_iload hx hb dX11_owners_76 (lv_at hl 6 rfl) ?_
                  refine lv_iadd hx hb dX11_owners_78 ?_
                  refine lv_topi (fun v34 e34 => ?_)
                  have i34 : Iv v34 256 319 := iv_add e34 (⟨by decide, by decide⟩ : Iv 256 256 256) i25 (by decide)
                  have x34 : v34.toInt = j51_7.toInt + 256 := (ex_add e34 (⟨by decide, by decide⟩ : Iv 256 256 256) i25 (by decide)).trans (Int.add_comm _ _)
                  refine o_iald cx hw h5 (by decide) rfl (iv_in i34 (by decide)) dX11_owners_79 (fun v35 e35 b35 => ?_)
                  refine lv_iload hx hb dX11_owners_80 (lv_at hl 4 rfl) ?_
                  refine lv_icmp_ne (tgt := 89) hx hb dX11_owners_82 (by decide) (fun c36 => ?_) (fun c36 => ?_)
                  · --
                    exact J_89 _ _ hw (le_lin (Int.add_zero _).symm (Int.add_zero _).symm le36_0 (by decide)) _ (lv_sub hl [0, 1, 2, 3, 4, 5, 6] rfl)
                  · --
                    have i37 : Iv v35 0 5 := iv_eq1 c36 (iv_top v35) i12 (by decide)
                    refine lv_iconst (v := 1) hx hb dX11_owners_85 (by decide) ?_
                    refine lv_goto (tgt := 90) hx hb dX11_owners_86 (by decide) ?_
                    exact J_90 1 (iv_w (⟨by decide, by decide⟩ : Iv 1 1 1) (by decide)) _ _ hw (le_lin (Int.add_zero _).symm (Int.add_zero _).symm le36_0 (by decide)) _ (lv_sub hl [0, 1, 2, 3, 4, 5, 6] rfl)
          exact J_51 _ 0 0 (iv_w (⟨by decide, by decide⟩ : Iv 0 0 0) (by decide)) _ _ hw (Nat.lt_succ_self _) (le_lin (Int.add_zero _).symm (Int.add_zero _).symm le36_0 (by decide)) _ (lv_sub hl [2, 3, 4, 5, 6, 1, 0] rfl)
    exact J_36 _ 0 (iv_w (⟨by decide, by decide⟩ : Iv 0 0 0) (by decide)) (-1) (iv_w (⟨by decide, by decide⟩ : Iv (-1) (-1) (-1)) (by decide)) 0 (iv_w (⟨by decide, by decide⟩ : Iv 0 0 0) (by decide)) σ8 _ _ hw fr (kn_iv ((kp_s eσ8)) (iv_w (⟨by decide, by decide⟩ : Iv 0 0 0) (by decide))) (Nat.lt_succ_self _) (le_cl ((kp_s eσ8)) (le_iv (⟨by decide, by decide⟩ : Iv 0 0 0) (⟨by decide, by decide⟩ : Iv 0 0 0) (by decide))) _ (lv_sub hl [4, 3, 2, 1, 0] rfl)
  · --
    have i38 : Iv v2 0 0 := iv_eq1 c3 i2 (⟨by decide, by decide⟩ : Iv 0 0 0) (by decide)
    refine lv_bipush (v := (-2)) hx hb dX11_owners_12 (by decide) ?_
    rw [← hQ]
    exact o_ri cx rx hw dX11_owners_14 ⟨fr, (iv_w (⟨by decide, by decide⟩ : Iv (-2) (-2) (-2)) (by decide))⟩
end OM
