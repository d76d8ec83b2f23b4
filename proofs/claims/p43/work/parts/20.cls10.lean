section OM
variable {l : Launch} {A : Nat → Prop} {L : List Nat} {τ : Nat → Nat} {cy : Nat → ClassId} {D : va_G} {K : (Nat → Nat) × (Nat → Nat)} {σ : oSt}
set_option maxHeartbeats 4000000 in
set_option maxRecDepth 100000 in
theorem c_X11_isRoad (a0 : Nat) (ha0 : oA L τ a0 10) (a1 : Nat) (ha1 : oA L τ a1 48) (a2 : Int32) (ia2 : Iv a2 0 63) : oMet l A L τ cy D K yX11_isRoad cX11_isRoad 3 (some .boolean) 0 0 [.ref a0, .ref a1, .int a2] σ (va_Qi (fun r σ1 => σ1 = σ ∧ Iv r 0 1) (oPo A L τ cy D) A) := by
  refine oMk (by decide) (Nat.le_of_ble_eq_true rfl) rfl ?_
  intro p e s m args below meth c ls cx rx hA hw hl
  generalize hQ : MQ below _ args s 0 0 A = Q
  have hx := cx.1.1
  have hb := cx.1.2.1
  have hml := cx.1.2.2.1
  have hown := cx.1.2.2.2.1
  have hts := cx.1.2.2.2.2
  have hl : lv_has ls 3 [(0, .ref a0), (1, .ref a1), (2, .int a2)] := hl
  refine lv_aload_n hx hb dX11_isRoad_0 rfl (lv_at hl 1 rfl) ?_
  refine lv_sipush (v := 192) hx hb dX11_isRoad_1 (by decide) ?_
  refine lv_iload_n hx hb dX11_isRoad_4 rfl (lv_at hl 2 rfl) ?_
  refine lv_iadd hx hb dX11_isRoad_5 ?_
  refine lv_topi (fun v1 e1 => ?_)
  have i1 : Iv v1 192 255 := iv_add e1 (⟨by decide, by decide⟩ : Iv 192 192 192) ia2 (by decide)
  have x1 : v1.toInt = a2.toInt + 192 := (ex_add e1 (⟨by decide, by decide⟩ : Iv 192 192 192) ia2 (by decide)).trans (Int.add_comm _ _)
  refine o_iald cx hw ha1 (by decide) rfl (iv_in i1 (by decide)) dX11_isRoad_6 (fun v2 e2 b2 => ?_)
  refine lv_iconst (v := (-1)) hx hb dX11_isRoad_7 (by decide) ?_
  refine lv_icmp_eq (tgt := 35) hx hb dX11_isRoad_8 (by decide) (fun c3 => ?_) (fun c3 => ?_)
  · --
    have i4 : Iv v2 (-1) (-1) := iv_eq1 c3 (iv_top v2) (⟨by decide, by decide⟩ : Iv (-1) (-1) (-1)) (by decide)
    refine lv_iconst (v := 0) hx hb dX11_isRoad_35 (by decide) ?_
    rw [← hQ]
    exact o_rz cx rx hw (iv_nz01 (iv_w (⟨by decide, by decide⟩ : Iv 0 0 0) (by decide))) dX11_isRoad_36 ⟨rfl, (iv_w (⟨by decide, by decide⟩ : Iv 0 0 0) (by decide))⟩
  · --
    refine lv_aload_n hx hb dX11_isRoad_11 rfl (lv_at hl 1 rfl) ?_
    refine lv_sipush (v := 333) hx hb dX11_isRoad_12 (by decide) ?_
    refine o_iald cx hw ha1 (by decide) rfl (iv_in (⟨by decide, by decide⟩ : Iv 333 333 333) (by decide)) dX11_isRoad_15 (fun v5 e5 b5 => ?_)
    refine lv_aload_n hx hb dX11_isRoad_16 rfl (lv_at hl 1 rfl) ?_
    refine lv_sipush (v := 192) hx hb dX11_isRoad_17 (by decide) ?_
    refine lv_iload_n hx hb dX11_isRoad_20 rfl (lv_at hl 2 rfl) ?_
    refine lv_iadd hx hb dX11_isRoad_21 ?_
    refine lv_topi (fun v6 e6 => ?_)
    have i6 : Iv v6 192 255 := iv_add e6 (⟨by decide, by decide⟩ : Iv 192 192 192) ia2 (by decide)
    have x6 : v6.toInt = a2.toInt + 192 := (ex_add e6 (⟨by decide, by decide⟩ : Iv 192 192 192) ia2 (by decide)).trans (Int.add_comm _ _)
    refine o_iald cx hw ha1 (by decide) rfl (iv_in i6 (by decide)) dX11_isRoad_22 (fun v7 e7 b7 => ?_)
    refine lv_isub hx hb dX11_isRoad_23 ?_
    refine lv_topi (fun v8 e8 => ?_)
    refine lv_aload_n hx hb dX11_isRoad_24 rfl (lv_at hl 0 rfl) ?_
    refine g_650 cx hw ha0 k_f_X11_25 dX11_isRoad_25 (fun v9 e9 => ?_)
    refine lv_icmp_gt (tgt := 35) hx hb dX11_isRoad_28 (by decide) (fun c10 => ?_) (fun c10 => ?_)
    · --
      have i11 : Iv v9 (-2147483648) 2147483646 := iv_lt1 c10 (iv_top v9) (iv_top v8) (by decide)
      have i12 : Iv v8 (-2147483647) 2147483647 := iv_lt2 c10 (iv_top v9) (iv_top v8) (by decide)
      refine lv_iconst (v := 0) hx hb dX11_isRoad_35 (by decide) ?_
      rw [← hQ]
      exact o_rz cx rx hw (iv_nz01 (iv_w (⟨by decide, by decide⟩ : Iv 0 0 0) (by decide))) dX11_isRoad_36 ⟨rfl, (iv_w (⟨by decide, by decide⟩ : Iv 0 0 0) (by decide))⟩
    · --
      refine lv_iconst (v := 1) hx hb dX11_isRoad_31 (by decide) ?_
      refine lv_goto (tgt := 36) hx hb dX11_isRoad_32 (by decide) ?_
      rw [← hQ]
      exact o_rz cx rx hw (iv_nz01 (iv_w (⟨by decide, by decide⟩ : Iv 1 1 1) (by decide))) dX11_isRoad_36 ⟨rfl, (iv_w (⟨by decide, by decide⟩ : Iv 1 1 1) (by decide))⟩
abbrev fs_X11_pleases : List Nat := [659, 660, 661, 662, 663, 669]
abbrev ts_X11_pleases : List Nat := [55]
set_option maxHeartbeats 4000000 in
set_option maxRecDepth 100000 in
theorem c_X11_pleases (a0 : Nat) (ha0 : oA L τ a0 10) (a1 : Nat) (ha1 : oA L τ a1 48) (a2 : Int32) (ia2 : Iv a2 0 5) (a3 : Int32) (ia3 : Iv a3 0 63) : oMet l A L τ cy D K yX11_pleases cX11_pleases 7 (some .int) 338 8494 [.ref a0, .ref a1, .int a2, .int a3] σ (va_Qi (fun r σ1 => oFr τ fs_X11_pleases ts_X11_pleases σ σ1) (oPo A L τ cy D) A) := by
  refine oMk (by decide) (Nat.le_of_ble_eq_true rfl) rfl ?_
  intro p e s m args below meth c ls cx rx hA hw hl
  generalize hQ : MQ below _ args s 0 0 A = Q
  have hx := cx.1.1
  have hb := cx.1.2.1
  have hml := cx.1.2.2.1
  have hown := cx.1.2.2.2.1
  have hts := cx.1.2.2.2.2
  have hl : lv_has ls 7 [(0, .ref a0), (1, .ref a1), (2, .int a2), (3, .int a3)] := hl
  have fr : oFr τ fs_X11_pleases ts_X11_pleases σ σ := oFr_rf
  refine lv_aload_n hx hb dX11_pleases_0 rfl (lv_at hl 0 rfl) ?_
  refine lv_aload_n hx hb dX11_pleases_1 rfl (lv_at hl 1 rfl) ?_
  refine lv_iload_n hx hb dX11_pleases_2 rfl (lv_at hl 3 rfl) ?_
  refine o_ci hw (oRunV cx hA hw q_X11_isRoad k_m_X11_211 rfl ha0 (by decide) (As := [.ref a1, .int a3]) (c_X11_isRoad a0 ha0 a1 ha1 a3 (iv_w ia3 (by decide))) (by decide) rfl hl.1 rfl (Nat.le_of_ble_eq_true rfl) dX11_pleases_3 (by decide)) (fun v2 σ1 H locs hp hw => ?_)
  obtain ⟨p2_0, p2_1⟩ := hp
  rw [p2_0] at hw
  have J_14 : ∀ (k14_0 : Int32) (ik14_0 : Iv k14_0 0 1), ∀ (H : Heap) (locs : List Loc), oI A L τ cy D s.heap σ H locs → ∀ (ls : Array Slot), lv_has ls 7 [(0, .ref a0), (1, .ref a1), (2, .int a2), (3, .int a3)] → W p l e ({ frames := 338, cells := 0, slots := 0, locals := 8494 } : Room) s m args below meth c H locs 0 0 Q (F0 m 14 ls [.int k14_0]) := by
    intro k14_0 ik14_0 H locs hw     ls hl
    refine lv_istore (lv' := [(4, .int k14_0), (0, .ref a0), (1, .ref a1), (2, .int a2), (3, .int a3)]) hx hb dX11_pleases_14 hl (by decide) rfl (fun ls hl => ?_)
    refine lv_aload_n hx hb dX11_pleases_16 rfl (lv_at hl 1 rfl) ?_
    refine g_668 cx hw ha0 k_f_X11_208 dX11_pleases_17 (fun v3 e3 i3 => ?_)
    refine lv_if_ne (tgt := 53) hx hb dX11_pleases_20 (by decide) (fun c4 => ?_) (fun c4 => ?_)
    · --
      have i5 : Iv v3 1 40 := iv_ne1 c4 i3 (⟨by decide, by decide⟩ : Iv 0 0 0) (by decide)
      refine lv_iconst (v := 0) hx hb dX11_pleases_53 (by decide) ?_
      refine lv_istore (lv' := [(5, .int 0), (4, .int k14_0), (0, .ref a0), (1, .ref a1), (2, .int a2), (3, .int a3)]) hx hb dX11_pleases_54 hl (by decide) rfl (fun ls hl => ?_)
      refine lv_iconst (v := 0) hx hb dX11_pleases_56 (by decide) ?_
      refine lv_istore (lv' := [(6, .int 0), (5, .int 0), (4, .int k14_0), (0, .ref a0), (1, .ref a1), (2, .int a2), (3, .int a3)]) hx hb dX11_pleases_57 hl (by decide) rfl (fun ls hl => ?_)
      have J_59 : ∀ n59 : Nat, ∀ (j59_5 : Int32) (j59_6 : Int32) (ij59_6 : Iv j59_6 0 6), ∀ (H : Heap) (locs : List Loc), oI A L τ cy D s.heap σ H locs → (6 - j59_6.toInt).toNat < n59 → ∀ (ls : Array Slot), lv_has ls 7 [(0, .ref a0), (1, .ref a1), (2, .int a2), (3, .int a3), (4, .int k14_0), (5, .int j59_5), (6, .int j59_6)] → W p l e ({ frames := 338, cells := 0, slots := 0, locals := 8494 } : Room) s m args below meth c H locs 0 0 Q (F0 m 59 ls []) := by
        intro n59
        induction n59 with
        | zero => intro j59_5 j59_6 ij59_6 H locs hw  hn_59   ls hl; exact absurd hn_59 (Nat.not_lt_zero _)
        | succ n59 ih_59 =>
          intro j59_5 j59_6 ij59_6 H locs hw  hn_59   ls hl
          refine lv_iload hx hb dX11_pleases_59 (lv_at hl 6 rfl) ?_
          refine lv_aload_n hx hb dX11_pleases_61 rfl (lv_at hl 0 rfl) ?_
          refine g_647 cx hw ha0 k_f_X11_105 dX11_pleases_62 (fun v6 e6 i6 => ?_)
          refine lv_icmp_ge (tgt := 102) hx hb dX11_pleases_65 (by decide) (fun c7 => ?_) (fun c7 => ?_)
          · --
            refine lv_aload_n hx hb dX11_pleases_102 rfl (lv_at hl 0 rfl) ?_
            refine g_670 cx hw ha0 k_f_X11_52 dX11_pleases_103 (fun v8 e8 h8 => ?_)
            refine lv_iconst (v := 0) hx hb dX11_pleases_106 (by decide) ?_
            refine lv_aload_n hx hb dX11_pleases_107 rfl (lv_at hl 1 rfl) ?_
            refine lv_iconst (v := 0) hx hb dX11_pleases_108 (by decide) ?_
            refine lv_iload_n hx hb dX11_pleases_109 rfl (lv_at hl 3 rfl) ?_
            refine lv_iadd hx hb dX11_pleases_110 ?_
            refine lv_topi (fun v9 e9 => ?_)
            have i9 : Iv v9 0 63 := iv_add e9 (⟨by decide, by decide⟩ : Iv 0 0 0) ia3 (by decide)
            have x9 : v9.toInt = a3.toInt + 0 := (ex_add e9 (⟨by decide, by decide⟩ : Iv 0 0 0) ia3 (by decide)).trans (Int.add_comm _ _)
            refine o_iald cx hw ha1 (by decide) rfl (iv_in i9 (by decide)) dX11_pleases_111 (fun v10 e10 b10 => ?_)
            refine o_iast cx hw h8 (by decide) rfl (iv_in (⟨by decide, by decide⟩ : Iv 0 0 0) (by decide)) trivial dX11_pleases_112 (fun σ11 H locs eσ11 hw => ?_)
            have fr := oFr_p fr eσ11 h8 (by decide)
            refine lv_aload_n hx hb dX11_pleases_113 rfl (lv_at hl 0 rfl) ?_
            refine g_670 cx hw ha0 k_f_X11_52 dX11_pleases_114 (fun v12 e12 h12 => ?_)
            rw [show v12 = v8 from Option.some.inj (e12.symm.trans (((kr_p eσ11).trans e8)))]
            refine lv_iconst (v := 1) hx hb dX11_pleases_117 (by decide) ?_
            refine lv_aload_n hx hb dX11_pleases_118 rfl (lv_at hl 1 rfl) ?_
            refine lv_bipush (v := 64) hx hb dX11_pleases_119 (by decide) ?_
            refine lv_iload_n hx hb dX11_pleases_121 rfl (lv_at hl 3 rfl) ?_
            refine lv_iadd hx hb dX11_pleases_122 ?_
            refine lv_topi (fun v13 e13 => ?_)
            have i13 : Iv v13 64 127 := iv_add e13 (⟨by decide, by decide⟩ : Iv 64 64 64) ia3 (by decide)
            have x13 : v13.toInt = a3.toInt + 64 := (ex_add e13 (⟨by decide, by decide⟩ : Iv 64 64 64) ia3 (by decide)).trans (Int.add_comm _ _)
            refine o_iald cx hw ha1 (by decide) rfl (iv_in i13 (by decide)) dX11_pleases_123 (fun v14 e14 b14 => ?_)
            refine o_iast cx hw h8 (by decide) rfl (iv_in (⟨by decide, by decide⟩ : Iv 1 1 1) (by decide)) trivial dX11_pleases_124 (fun σ15 H locs eσ15 hw => ?_)
            have fr := oFr_p fr eσ15 h8 (by decide)
            refine lv_aload_n hx hb dX11_pleases_125 rfl (lv_at hl 0 rfl) ?_
            refine g_670 cx hw ha0 k_f_X11_52 dX11_pleases_126 (fun v16 e16 h16 => ?_)
            rw [show v16 = v8 from Option.some.inj (e16.symm.trans (((kr_p eσ15).trans ((kr_p eσ11).trans e8))))]
            refine lv_iconst (v := 2) hx hb dX11_pleases_129 (by decide) ?_
            refine lv_aload_n hx hb dX11_pleases_130 rfl (lv_at hl 1 rfl) ?_
            refine lv_sipush (v := 128) hx hb dX11_pleases_131 (by decide) ?_
            refine lv_iload_n hx hb dX11_pleases_134 rfl (lv_at hl 3 rfl) ?_
            refine lv_iadd hx hb dX11_pleases_135 ?_
            refine lv_topi (fun v17 e17 => ?_)
            have i17 : Iv v17 128 191 := iv_add e17 (⟨by decide, by decide⟩ : Iv 128 128 128) ia3 (by decide)
            have x17 : v17.toInt = a3.toInt + 128 := (ex_add e17 (⟨by decide, by decide⟩ : Iv 128 128 128) ia3 (by decide)).trans (Int.add_comm _ _)
            refine o_iald cx hw ha1 (by decide) rfl (iv_in i17 (by decide)) dX11_pleases_136 (fun v18 e18 b18 => ?_)
            refine o_iast cx hw h8 (by decide) rfl (iv_in (⟨by decide, by decide⟩ : Iv 2 2 2) (by decide)) trivial dX11_pleases_137 (fun σ19 H locs eσ19 hw => ?_)
            have fr := oFr_p fr eσ19 h8 (by decide)
            refine lv_aload_n hx hb dX11_pleases_138 rfl (lv_at hl 0 rfl) ?_
            refine g_670 cx hw ha0 k_f_X11_52 dX11_pleases_139 (fun v20 e20 h20 => ?_)
            rw [show v20 = v8 from Option.some.inj (e20.symm.trans (((kr_p eσ19).trans ((kr_p eσ15).trans ((kr_p eσ11).trans e8)))))]
            refine lv_iconst (v := 3) hx hb dX11_pleases_142 (by decide) ?_
            refine lv_iload hx hb dX11_pleases_143 (lv_at hl 4 rfl) ?_
            refine o_iast cx hw h8 (by decide) rfl (iv_in (⟨by decide, by decide⟩ : Iv 3 3 3) (by decide)) trivial dX11_pleases_145 (fun σ21 H locs eσ21 hw => ?_)
            have fr := oFr_p fr eσ21 h8 (by decide)
            refine lv_aload_n hx hb dX11_pleases_146 rfl (lv_at hl 0 rfl) ?_
            refine g_670 cx hw ha0 k_f_X11_52 dX11_pleases_147 (fun v22 e22 h22 => ?_)
            rw [show v22 = v8 from Option.some.inj (e22.symm.trans (((kr_p eσ21).trans ((kr_p eσ19).trans ((kr_p eσ15).trans ((kr_p eσ11).trans e8))))))]
            refine lv_iconst (v := 4) hx hb dX11_pleases_150 (by decide) ?_
            refine lv_aload_n hx hb dX11_pleases_151 rfl (lv_at hl 1 rfl) ?_
            refine lv_sipush (v := 320) hx hb dX11_pleases_152 (by decide) ?_
            refine lv_iload_n hx hb dX11_pleases_155 rfl (lv_at hl 2 rfl) ?_
            refine lv_iadd hx hb dX11_pleases_156 ?_
            refine lv_topi (fun v23 e23 => ?_)
            have i23 : Iv v23 320 325 := iv_add e23 (⟨by decide, by decide⟩ : Iv 320 320 320) ia2 (by decide)
            have x23 : v23.toInt = a2.toInt + 320 := (ex_add e23 (⟨by decide, by decide⟩ : Iv 320 320 320) ia2 (by decide)).trans (Int.add_comm _ _)
            refine o_iald cx hw ha1 (by decide) rfl (iv_in i23 (by decide)) dX11_pleases_157 (fun v24 e24 b24 => ?_)
            have i24 : Iv v24 0 63 := rb_now b24 i23 (by decide)
            refine lv_iload_n hx hb dX11_pleases_158 rfl (lv_at hl 3 rfl) ?_
            have J_167 : ∀ (k167_2 : Int32) (ik167_2 : Iv k167_2 0 1), ∀ (H : Heap) (locs : List Loc), oI A L τ cy D s.heap σ21 H locs → ∀ (ls : Array Slot), lv_has ls 7 [(0, .ref a0), (1, .ref a1), (2, .int a2), (3, .int a3), (4, .int k14_0), (5, .int j59_5), (6, .int j59_6)] → W p l e ({ frames := 338, cells := 0, slots := 0, locals := 8494 } : Room) s m args below meth c H locs 0 0 Q (F0 m 167 ls [.int k167_2, .int 4, .ref v8]) := by
              intro k167_2 ik167_2 H locs hw     ls hl
              refine o_iast cx hw h8 (by decide) rfl (iv_in (⟨by decide, by decide⟩ : Iv 4 4 4) (by decide)) trivial dX11_pleases_167 (fun σ25 H locs eσ25 hw => ?_)
              have fr := oFr_p fr eσ25 h8 (by decide)
              refine lv_aload_n hx hb dX11_pleases_168 rfl (lv_at hl 0 rfl) ?_
              refine g_670 cx hw ha0 k_f_X11_52 dX11_pleases_169 (fun v26 e26 h26 => ?_)
              rw [show v26 = v8 from Option.some.inj (e26.symm.trans (((kr_p eσ25).trans ((kr_p eσ21).trans ((kr_p eσ19).trans ((kr_p eσ15).trans ((kr_p eσ11).trans e8)))))))]
              refine lv_iconst (v := 5) hx hb dX11_pleases_172 (by decide) ?_
              refine lv_iload hx hb dX11_pleases_173 (lv_at hl 5 rfl) ?_
              refine o_iast cx hw h8 (by decide) rfl (iv_in (⟨by decide, by decide⟩ : Iv 5 5 5) (by decide)) trivial dX11_pleases_175 (fun σ27 H locs eσ27 hw => ?_)
              have fr := oFr_p fr eσ27 h8 (by decide)
              refine lv_aload_n hx hb dX11_pleases_176 rfl (lv_at hl 0 rfl) ?_
              refine g_670 cx hw ha0 k_f_X11_52 dX11_pleases_177 (fun v28 e28 h28 => ?_)
              rw [show v28 = v8 from Option.some.inj (e28.symm.trans (((kr_p eσ27).trans ((kr_p eσ25).trans ((kr_p eσ21).trans ((kr_p eσ19).trans ((kr_p eσ15).trans ((kr_p eσ11).trans e8))))))))]
              refine lv_bipush (v := 6) hx hb dX11_pleases_180 (by decide) ?_
              refine lv_aload_n hx hb dX11_pleases_182 rfl (lv_at hl 0 rfl) ?_
              refine g_648 cx hw ha0 k_f_X11_22 dX11_pleases_183 (fun v29 e29 h29 => ?_)
              refine lv_iload_n hx hb dX11_pleases_186 rfl (lv_at hl 2 rfl) ?_
              refine o_iald cx hw h29 (by decide) rfl (iv_in ia2 (by decide)) dX11_pleases_187 (fun v30 e30 b30 => ?_)
              refine o_iast cx hw h8 (by decide) rfl (iv_in (⟨by decide, by decide⟩ : Iv 6 6 6) (by decide)) trivial dX11_pleases_188 (fun σ31 H locs eσ31 hw => ?_)
              have fr := oFr_p fr eσ31 h8 (by decide)
              refine lv_aload_n hx hb dX11_pleases_189 rfl (lv_at hl 0 rfl) ?_
              refine g_670 cx hw ha0 k_f_X11_52 dX11_pleases_190 (fun v32 e32 h32 => ?_)
              rw [show v32 = v8 from Option.some.inj (e32.symm.trans (((kr_p eσ31).trans ((kr_p eσ27).trans ((kr_p eσ25).trans ((kr_p eσ21).trans ((kr_p eσ19).trans ((kr_p eσ15).trans ((kr_p eσ11).trans e8)))))))))]
              refine lv_bipush (v := 7) hx hb dX11_pleases_193 (by decide) ?_
              refine lv_iload_n hx hb dX11_pleases_195 rfl (lv_at hl 2 rfl) ?_
              refine o_iast cx hw h8 (by decide) rfl (iv_in (⟨by decide, by decide⟩ : Iv 7 7 7) (by decide)) trivial dX11_pleases_196 (fun σ33 H locs eσ33 hw => ?_)
              have fr := oFr_p fr eσ33 h8 (by decide)
              refine lv_aload_n hx hb dX11_pleases_197 rfl (lv_at hl 0 rfl) ?_
              refine g_670 cx hw ha0 k_f_X11_52 dX11_pleases_198 (fun v34 e34 h34 => ?_)
              rw [show v34 = v8 from Option.some.inj (e34.symm.trans (((kr_p eσ33).trans ((kr_p eσ31).trans ((kr_p eσ27).trans ((kr_p eσ25).trans ((kr_p eσ21).trans ((kr_p eσ19).trans ((kr_p eσ15).trans ((kr_p eσ11).trans e8))))))))))]
              refine lv_bipush (v := 8) hx hb dX11_pleases_201 (by decide) ?_
              refine lv_aload_n hx hb dX11_pleases_203 rfl (lv_at hl 1 rfl) ?_
              refine lv_sipush (v := 333) hx hb dX11_pleases_204 (by decide) ?_
              refine o_iald cx hw ha1 (by decide) rfl (iv_in (⟨by decide, by decide⟩ : Iv 333 333 333) (by decide)) dX11_pleases_207 (fun v35 e35 b35 => ?_)
              refine o_iast cx hw h8 (by decide) rfl (iv_in (⟨by decide, by decide⟩ : Iv 8 8 8) (by decide)) trivial dX11_pleases_208 (fun σ36 H locs eσ36 hw => ?_)
              have fr := oFr_p fr eσ36 h8 (by decide)
              refine lv_aload_n hx hb dX11_pleases_209 rfl (lv_at hl 0 rfl) ?_
              refine lv_aload_n hx hb dX11_pleases_210 rfl (lv_at hl 0 rfl) ?_
              refine g_667 cx hw ha0 k_f_X11_49 dX11_pleases_211 (fun v37 e37 h37 => ?_)
              refine lv_aload_n hx hb dX11_pleases_214 rfl (lv_at hl 0 rfl) ?_
              refine g_668 cx hw ha0 k_f_X11_208 dX11_pleases_215 (fun v38 e38 i38 => ?_)
              rw [show v38 = v3 from e38.trans ((kp_p eσ36).trans ((kp_p eσ33).trans ((kp_p eσ31).trans ((kp_p eσ27).trans ((kp_p eσ25).trans ((kp_p eσ21).trans ((kp_p eσ19).trans ((kp_p eσ15).trans ((kp_p eσ11).trans e3.symm)))))))))]
              refine lv_bipush (v := 40) hx hb dX11_pleases_218 (by decide) ?_
              have i39 : Iv (σ36.1 660 a0) 0 80 := o_fb (j := 660) hw ha0 rfl
              have i40 : Iv (σ36.1 661 a0) 0 80 := o_fb (j := 661) hw ha0 rfl
              refine o_cv hw (oRunV cx hA hw q_X11_begin k_m_X11_142 rfl ha0 (by decide) (As := [.ref v37, .int v3, .int 40]) (c_X11_beginR a0 ha0 v37 h37 v3 (iv_w i5 (by decide)) 40 (iv_w (⟨by decide, by decide⟩ : Iv 40 40 40) (by decide))) (by decide) rfl hl.1 rfl (Nat.le_of_ble_eq_true rfl) dX11_pleases_220 (by decide)) (fun σ41 H locs hp hw => ?_)
              obtain ⟨p42_0, p42_1, p42_2, p42_3, p42_4, p42_5, p42_6⟩ := hp
              have fr := oFr_tr fr p42_0 (by decide)
              refine lv_aload_n hx hb dX11_pleases_223 rfl (lv_at hl 0 rfl) ?_
              refine lv_iconst (v := 1) hx hb dX11_pleases_224 (by decide) ?_
              refine p_669 cx hw ha0 (iv_w (⟨by decide, by decide⟩ : Iv 1 1 1) (by decide)) k_f_X11_205 dX11_pleases_225 (fun σ43 H locs eσ43 hw => ?_)
              have fr := oFr_i fr eσ43 (by decide)
              refine lv_aload_n hx hb dX11_pleases_228 rfl (lv_at hl 0 rfl) ?_
              refine lv_iconst (v := 0) hx hb dX11_pleases_229 (by decide) ?_
              have z44 : (σ43.1 662 a0).toInt = ((σ41.1 662 a0) : Int32).toInt := congrArg Int32.toInt (show σ43.1 662 a0 = (σ41.1 662 a0) from ((kp_i eσ43 (by decide)).trans rfl))
              have z45 : (σ43.1 660 a0).toInt = ((σ41.1 660 a0) : Int32).toInt := congrArg Int32.toInt (show σ43.1 660 a0 = (σ41.1 660 a0) from ((kp_i eσ43 (by decide)).trans rfl))
              have z46 : (σ43.1 663 a0).toInt = ((σ41.1 663 a0) : Int32).toInt := congrArg Int32.toInt (show σ43.1 663 a0 = (σ41.1 663 a0) from ((kp_i eσ43 (by decide)).trans rfl))
              have z47 : (σ43.1 661 a0).toInt = ((σ41.1 661 a0) : Int32).toInt := congrArg Int32.toInt (show σ43.1 661 a0 = (σ41.1 661 a0) from ((kp_i eσ43 (by decide)).trans rfl))
              refine o_ci hw (oRunV cx hA hw q_X11_held k_m_X11_195 rfl ha0 (by decide) (As := [.int 0]) (c_X11_heldRz a0 ha0 0 v37 (((kr_i eσ43).trans p42_1)) h37 (kn_iv (((kp_i eσ43 (by decide)).trans rfl)) (iv_w p42_2 (by decide))) (kn_iv (((kp_i eσ43 (by decide)).trans rfl)) (iv_w p42_4 (by decide)))) (by decide) rfl hl.1 rfl (Nat.le_of_ble_eq_true rfl) dX11_pleases_230 (by decide)) (fun v49 σ48 H locs hp hw => ?_)
              obtain ⟨p49_0, p49_1, p49_2⟩ := hp
              have fr := oFr_tr fr p49_0 (by decide)
              have i50 : Iv (σ48.1 662 a0) 0 200 := o_fb (j := 662) hw ha0 rfl
              have i51 : Iv (σ48.1 663 a0) (-1) 200 := o_fb (j := 663) hw ha0 rfl
              refine lv_istore (lv' := [(6, .int v49), (0, .ref a0), (1, .ref a1), (2, .int a2), (3, .int a3), (4, .int k14_0), (5, .int j59_5)]) hx hb dX11_pleases_233 hl (by decide) rfl (fun ls hl => ?_)
              refine lv_aload_n hx hb dX11_pleases_235 rfl (lv_at hl 1 rfl) ?_
              refine lv_iconst (v := 0) hx hb dX11_pleases_236 (by decide) ?_
              refine p_669 cx hw ha0 (iv_w (⟨by decide, by decide⟩ : Iv 0 0 0) (by decide)) k_f_X11_205 dX11_pleases_237 (fun σ52 H locs eσ52 hw => ?_)
              have fr := oFr_i fr eσ52 (by decide)
              refine lv_iload hx hb dX11_pleases_240 (lv_at hl 0 rfl) ?_
              rw [← hQ]
              exact o_ri cx rx hw dX11_pleases_242 fr
            refine lv_icmp_ne (tgt := 166) hx hb dX11_pleases_159 (by decide) (fun c53 => ?_) (fun c53 => ?_)
            · --
              refine lv_iconst (v := 1) hx hb dX11_pleases_166 (by decide) ?_
              exact J_167 1 (iv_w (⟨by decide, by decide⟩ : Iv 1 1 1) (by decide)) _ _ hw _ (lv_sub hl [0, 1, 2, 3, 4, 5, 6] rfl)
            · --
              refine lv_iconst (v := 0) hx hb dX11_pleases_162 (by decide) ?_
              refine lv_goto (tgt := 167) hx hb dX11_pleases_163 (by decide) ?_
              exact J_167 0 (iv_w (⟨by decide, by decide⟩ : Iv 0 0 0) (by decide)) _ _ hw _ (lv_sub hl [0, 1, 2, 3, 4, 5, 6] rfl)
          · --
            have i54 : Iv j59_6 0 5 := iv_lt1 (iv_nle c7) ij59_6 i6 (by decide)
            have i55 : Iv v6 1 6 := iv_lt2 (iv_nle c7) ij59_6 i6 (by decide)
            refine lv_iload hx hb dX11_pleases_68 (lv_at hl 5 rfl) ?_
            refine lv_iload hx hb dX11_pleases_70 (lv_at hl 6 rfl) ?_
            refine lv_iload_n hx hb dX11_pleases_72 rfl (lv_at hl 2 rfl) ?_
            have J_93 : ∀ (k93_1 : Int32) (ik93_1 : Iv k93_1 0 1), ∀ (H : Heap) (locs : List Loc), oI A L τ cy D s.heap σ H locs → ∀ (ls : Array Slot), lv_has ls 7 [(0, .ref a0), (1, .ref a1), (2, .int a2), (3, .int a3), (4, .int k14_0), (5, .int j59_5), (6, .int j59_6)] → W p l e ({ frames := 338, cells := 0, slots := 0, locals := 8494 } : Room) s m args below meth c H locs 0 0 Q (F0 m 93 ls [.int k93_1, .int j59_5]) := by
              intro k93_1 ik93_1 H locs hw     ls hl
              refine lv_iadd hx hb dX11_pleases_93 ?_
              refine lv_topi (fun v56 e56 => ?_)
              refine lv_istore (lv' := [(5, .int v56), (0, .ref a0), (1, .ref a1), (2, .int a2), (3, .int a3), (4, .int k14_0), (6, .int j59_6)]) hx hb dX11_pleases_94 hl (by decide) rfl (fun ls hl => ?_)
              obtain ⟨v57, e57⟩ : ∃ y : Int32, y = j59_6 + 1 := ⟨_, rfl⟩
              have i57 : Iv v57 1 6 := iv_add e57 i54 (⟨by decide, by decide⟩ : Iv 1 1 1) (by decide)
              have x57 : v57.toInt = j59_6.toInt + 1 := ex_add e57 i54 (⟨by decide, by decide⟩ : Iv 1 1 1) (by decide)
              refine lv_iinc (v := v57) (lv' := [(6, .int v57), (5, .int v56), (0, .ref a0), (1, .ref a1), (2, .int a2), (3, .int a3), (4, .int k14_0)]) hx hb dX11_pleases_96 hl (k := 6) rfl (by rw [e57]; rfl) (by decide) rfl (fun ls hl => ?_)
              refine lv_goto (tgt := 59) hx hb dX11_pleases_99 (by decide) ?_
              exact ih_59 v56 v57 (iv_w i57 (by decide)) _ _ hw (ms_up x57 (by decide) (iv_w (a' := 0) (b' := 6) i57 (by decide)).2 hn_59) _ (lv_sub hl [2, 3, 4, 5, 6, 1, 0] rfl)
            have J_92 : ∀ (H : Heap) (locs : List Loc), oI A L τ cy D s.heap σ H locs → ∀ (ls : Array Slot), lv_has ls 7 [(0, .ref a0), (1, .ref a1), (2, .int a2), (3, .int a3), (4, .int k14_0), (5, .int j59_5), (6, .int j59_6)] → W p l e ({ frames := 338, cells := 0, slots := 0, locals := 8494 } : Room) s m args below meth c H locs 0 0 Q (F0 m 92 ls [.int j59_5]) := by
              intro  H locs hw     ls hl
              refine lv_iconst (v := 0) hx hb dX11_pleases_92 (by decide) ?_
              exact J_93 0 (iv_w (⟨by decide, by decide⟩ : Iv 0 0 0) (by decide)) _ _ hw _ (lv_sub hl [0, 1, 2, 3, 4, 5, 6] rfl)
            refine lv_icmp_eq (tgt := 92) hx hb dX11_pleases_73 (by decide) (fun c58 => ?_) (fun c58 => ?_)
            · --
              exact J_92 _ _ hw _ (lv_sub hl [0, 1, 2, 3, 4, 5, 6] rfl)
            · --
              refine lv_aload_n hx hb dX11_pleases_76 rfl (lv_at hl 1 rfl) ?_
              refine lv_sipush (v := 320) hx hb dX11_pleases_77 (by decide) ?_
              refine lv_iload hx hb dX11_pleases_80 (lv_at hl 6 rfl) ?_
              refine lv_iadd hx hb dX11_pleases_82 ?_
              refine lv_topi (fun v59 e59 => ?_)
              have i59 : Iv v59 320 325 := iv_add e59 (⟨by decide, by decide⟩ : Iv 320 320 320) i54 (by decide)
              have x59 : v59.toInt = j59_6.toInt + 320 := (ex_add e59 (⟨by decide, by decide⟩ : Iv 320 320 320) i54 (by decide)).trans (Int.add_comm _ _)
              refine o_iald cx hw ha1 (by decide) rfl (iv_in i59 (by decide)) dX11_pleases_83 (fun v60 e60 b60 => ?_)
              have i60 : Iv v60 0 63 := rb_now b60 i59 (by decide)
              refine lv_iload_n hx hb dX11_pleases_84 rfl (lv_at hl 3 rfl) ?_
              refine lv_icmp_ne (tgt := 92) hx hb dX11_pleases_85 (by decide) (fun c61 => ?_) (fun c61 => ?_)
              · --
                exact J_92 _ _ hw _ (lv_sub hl [0, 1, 2, 3, 4, 5, 6] rfl)
              · --
                refine lv_iconst (v := 1) hx hb dX11_pleases_88 (by decide) ?_
                refine lv_goto (tgt := 93) hx hb dX11_pleases_89 (by decide) ?_
                exact J_93 1 (iv_w (⟨by decide, by decide⟩ : Iv 1 1 1) (by decide)) _ _ hw _ (lv_sub hl [0, 1, 2, 3, 4, 5, 6] rfl)
      exact J_59 _ 0 0 (iv_w (⟨by decide, by decide⟩ : Iv 0 0 0) (by decide)) _ _ hw (Nat.lt_succ_self _) _ (lv_sub hl [3, 4, 5, 6, 2, 1, 0] rfl)
    · --
      have i62 : Iv v3 0 0 := iv_eq1 c4 i3 (⟨by decide, by decide⟩ : Iv 0 0 0) (by decide)
      refine lv_aload_n hx hb dX11_pleases_23 rfl (lv_at hl 2 rfl) ?_
      refine lv_iconst (v := 0) hx hb dX11_pleases_24 (by decide) ?_
      refine lv_iload_n hx hb dX11_pleases_25 rfl (lv_at hl 4 rfl) ?_
      refine lv_iadd hx hb dX11_pleases_26 ?_
      refine lv_topi (fun v63 e63 => ?_)
      have i63 : Iv v63 0 63 := iv_add e63 (⟨by decide, by decide⟩ : Iv 0 0 0) ia3 (by decide)
      have x63 : v63.toInt = a3.toInt + 0 := (ex_add e63 (⟨by decide, by decide⟩ : Iv 0 0 0) ia3 (by decide)).trans (Int.add_comm _ _)
      refine o_iald cx hw ha1 (by decide) rfl (iv_in i63 (by decide)) dX11_pleases_27 (fun v64 e64 b64 => ?_)
      refine lv_iconst (v := 2) hx hb dX11_pleases_28 (by decide) ?_
      refine lv_imul hx hb dX11_pleases_29 ?_
      refine lv_topi (fun v65 e65 => ?_)
      refine lv_aload_n hx hb dX11_pleases_30 rfl (lv_at hl 2 rfl) ?_
      refine lv_bipush (v := 64) hx hb dX11_pleases_31 (by decide) ?_
      refine lv_iload_n hx hb dX11_pleases_33 rfl (lv_at hl 4 rfl) ?_
      refine lv_iadd hx hb dX11_pleases_34 ?_
      refine lv_topi (fun v66 e66 => ?_)
      have i66 : Iv v66 64 127 := iv_add e66 (⟨by decide, by decide⟩ : Iv 64 64 64) ia3 (by decide)
      have x66 : v66.toInt = a3.toInt + 64 := (ex_add e66 (⟨by decide, by decide⟩ : Iv 64 64 64) ia3 (by decide)).trans (Int.add_comm _ _)
      refine o_iald cx hw ha1 (by decide) rfl (iv_in i66 (by decide)) dX11_pleases_35 (fun v67 e67 b67 => ?_)
      refine lv_iconst (v := 5) hx hb dX11_pleases_36 (by decide) ?_
      refine lv_imul hx hb dX11_pleases_37 ?_
      refine lv_topi (fun v68 e68 => ?_)
      refine lv_iadd hx hb dX11_pleases_38 ?_
      refine lv_topi (fun v69 e69 => ?_)
      refine lv_aload_n hx hb dX11_pleases_39 rfl (lv_at hl 2 rfl) ?_
      refine lv_sipush (v := 128) hx hb dX11_pleases_40 (by decide) ?_
      refine lv_iload_n hx hb dX11_pleases_43 rfl (lv_at hl 4 rfl) ?_
      refine lv_iadd hx hb dX11_pleases_44 ?_
      refine lv_topi (fun v70 e70 => ?_)
      have i70 : Iv v70 128 191 := iv_add e70 (⟨by decide, by decide⟩ : Iv 128 128 128) ia3 (by decide)
      have x70 : v70.toInt = a3.toInt + 128 := (ex_add e70 (⟨by decide, by decide⟩ : Iv 128 128 128) ia3 (by decide)).trans (Int.add_comm _ _)
      refine o_iald cx hw ha1 (by decide) rfl (iv_in i70 (by decide)) dX11_pleases_45 (fun v71 e71 b71 => ?_)
      refine lv_iconst (v := 3) hx hb dX11_pleases_46 (by decide) ?_
      refine lv_imul hx hb dX11_pleases_47 ?_
      refine lv_topi (fun v72 e72 => ?_)
      refine lv_isub hx hb dX11_pleases_48 ?_
      refine lv_topi (fun v73 e73 => ?_)
      refine lv_iload hx hb dX11_pleases_49 (lv_at hl 0 rfl) ?_
      refine lv_isub hx hb dX11_pleases_51 ?_
      refine lv_topi (fun v74 e74 => ?_)
      rw [← hQ]
      exact o_ri cx rx hw dX11_pleases_52 fr
  refine lv_if_eq (tgt := 13) hx hb dX11_pleases_6 (by decide) (fun c75 => ?_) (fun c75 => ?_)
  · --
    have i76 : Iv v2 0 0 := iv_eq1 c75 p2_1 (⟨by decide, by decide⟩ : Iv 0 0 0) (by decide)
    refine lv_iconst (v := 0) hx hb dX11_pleases_13 (by decide) ?_
    exact J_14 0 (iv_w (⟨by decide, by decide⟩ : Iv 0 0 0) (by decide)) _ _ hw _ (lv_sub hl [0, 1, 2, 3] rfl)
  · --
    have i77 : Iv v2 1 1 := iv_ne1 c75 p2_1 (⟨by decide, by decide⟩ : Iv 0 0 0) (by decide)
    refine lv_iconst (v := 1) hx hb dX11_pleases_9 (by decide) ?_
    refine lv_goto (tgt := 14) hx hb dX11_pleases_10 (by decide) ?_
    exact J_14 1 (iv_w (⟨by decide, by decide⟩ : Iv 1 1 1) (by decide)) _ _ hw _ (lv_sub hl [0, 1, 2, 3] rfl)
set_option maxHeartbeats 4000000 in
set_option maxRecDepth 100000 in
theorem c_X11_canBe (a0 : Nat) (ha0 : oA L τ a0 10) (a1 : Nat) (ha1 : oA L τ a1 48) (a2 : Int32) (ia2 : Iv a2 0 63) : oMet l A L τ cy D K yX11_canBe cX11_canBe 3 (some .boolean) 1 22 [.ref a0, .ref a1, .int a2] σ (va_Qi (fun r σ1 => σ1 = σ ∧ Iv r 0 1) (oPo A L τ cy D) A) := by
  refine oMk (by decide) (Nat.le_of_ble_eq_true rfl) rfl ?_
  intro p e s m args below meth c ls cx rx hA hw hl
  generalize hQ : MQ below _ args s 0 0 A = Q
  have hx := cx.1.1
  have hb := cx.1.2.1
  have hml := cx.1.2.2.1
  have hown := cx.1.2.2.2.1
  have hts := cx.1.2.2.2.2
  have hl : lv_has ls 3 [(0, .ref a0), (1, .ref a1), (2, .int a2)] := hl
  refine lv_aload_n hx hb dX11_canBe_0 rfl (lv_at hl 0 rfl) ?_
  refine g_643 cx hw ha0 k_f_X11_13 dX11_canBe_1 (fun v1 e1 h1 => ?_)
  refine lv_iload_n hx hb dX11_canBe_4 rfl (lv_at hl 2 rfl) ?_
  refine o_iald cx hw h1 (by decide) rfl (iv_in ia2 (by decide)) dX11_canBe_5 (fun v2 e2 b2 => ?_)
  have J_37 : ∀ (H : Heap) (locs : List Loc), oI A L τ cy D s.heap σ H locs → ∀ (ls : Array Slot), lv_has ls 3 [(0, .ref a0), (1, .ref a1), (2, .int a2)] → W p l e ({ frames := 1, cells := 0, slots := 0, locals := 22 } : Room) s m args below meth c H locs 0 0 Q (F0 m 37 ls []) := by
    intro  H locs hw     ls hl
    refine lv_iconst (v := 1) hx hb dX11_canBe_37 (by decide) ?_
    refine lv_goto (tgt := 42) hx hb dX11_canBe_38 (by decide) ?_
    rw [← hQ]
    exact o_rz cx rx hw (iv_nz01 (iv_w (⟨by decide, by decide⟩ : Iv 1 1 1) (by decide))) dX11_canBe_42 ⟨rfl, (iv_w (⟨by decide, by decide⟩ : Iv 1 1 1) (by decide))⟩
  refine lv_if_eq (tgt := 37) hx hb dX11_canBe_6 (by decide) (fun c3 => ?_) (fun c3 => ?_)
  · --
    have i4 : Iv v2 0 0 := iv_eq1 c3 (iv_top v2) (⟨by decide, by decide⟩ : Iv 0 0 0) (by decide)
    exact J_37 _ _ hw _ (lv_sub hl [0, 1, 2] rfl)
  · --
    refine lv_aload_n hx hb dX11_canBe_9 rfl (lv_at hl 0 rfl) ?_
    refine g_643 cx hw ha0 k_f_X11_13 dX11_canBe_10 (fun v5 e5 h5 => ?_)
    rw [show v5 = v1 from Option.some.inj (e5.symm.trans (e1))]
    refine lv_iload_n hx hb dX11_canBe_13 rfl (lv_at hl 2 rfl) ?_
    refine o_iald cx hw h1 (by decide) rfl (iv_in ia2 (by decide)) dX11_canBe_14 (fun v6 e6 b6 => ?_)
    refine lv_iconst (v := 2) hx hb dX11_canBe_15 (by decide) ?_
    refine lv_icmp_ne (tgt := 41) hx hb dX11_canBe_16 (by decide) (fun c7 => ?_) (fun c7 => ?_)
    · --
      refine lv_iconst (v := 0) hx hb dX11_canBe_41 (by decide) ?_
      rw [← hQ]
      exact o_rz cx rx hw (iv_nz01 (iv_w (⟨by decide, by decide⟩ : Iv 0 0 0) (by decide))) dX11_canBe_42 ⟨rfl, (iv_w (⟨by decide, by decide⟩ : Iv 0 0 0) (by decide))⟩
    · --
      have i8 : Iv v6 2 2 := iv_eq1 c7 (iv_top v6) (⟨by decide, by decide⟩ : Iv 2 2 2) (by decide)
      refine lv_aload_n hx hb dX11_canBe_19 rfl (lv_at hl 1 rfl) ?_
      refine lv_sipush (v := 332) hx hb dX11_canBe_20 (by decide) ?_
      refine o_iald cx hw ha1 (by decide) rfl (iv_in (⟨by decide, by decide⟩ : Iv 332 332 332) (by decide)) dX11_canBe_23 (fun v9 e9 b9 => ?_)
      refine lv_i2l hx hb dX11_canBe_24 rfl ?_
      refine lv_topl (fun v10 e10 => ?_)
      refine lv_aload_n hx hb dX11_canBe_25 rfl (lv_at hl 0 rfl) ?_
      refine g_644 cx hw ha0 k_f_X11_16 dX11_canBe_26 (fun v11 e11 h11 => ?_)
      refine lv_iload_n hx hb dX11_canBe_29 rfl (lv_at hl 2 rfl) ?_
      refine o_iald cx hw h11 (by decide) rfl (iv_in ia2 (by decide)) dX11_canBe_30 (fun v12 e12 b12 => ?_)
      refine o_ci hw (oRunS cx hA hw q_X11_has k_m_X11_215 (As := [.long v10, .int v12]) (c_X11_has v10 v12) (by decide) rfl hl.1 rfl (Nat.le_of_ble_eq_true rfl) dX11_canBe_31 (by decide)) (fun v14 σ13 H locs hp hw => ?_)
      obtain ⟨p14_0, p14_1, p14_2⟩ := hp
      rw [p14_0] at hw
      refine lv_if_eq (tgt := 41) hx hb dX11_canBe_34 (by decide) (fun c15 => ?_) (fun c15 => ?_)
      · --
        have i16 : Iv v14 0 0 := iv_eq1 c15 p14_1 (⟨by decide, by decide⟩ : Iv 0 0 0) (by decide)
        refine lv_iconst (v := 0) hx hb dX11_canBe_41 (by decide) ?_
        rw [← hQ]
        exact o_rz cx rx hw (iv_nz01 (iv_w (⟨by decide, by decide⟩ : Iv 0 0 0) (by decide))) dX11_canBe_42 ⟨rfl, (iv_w (⟨by decide, by decide⟩ : Iv 0 0 0) (by decide))⟩
      · --
        have i17 : Iv v14 1 1 := iv_ne1 c15 p14_1 (⟨by decide, by decide⟩ : Iv 0 0 0) (by decide)
        exact J_37 _ _ hw _ (lv_sub hl [0, 1, 2] rfl)
set_option maxHeartbeats 4000000 in
set_option maxRecDepth 100000 in
theorem c_X11_beside (a0 : Nat) (ha0 : oA L τ a0 10) (a1 : Int32) (ia1 : Iv a1 0 63) (a2 : Int32) : oMet l A L τ cy D K yX11_beside cX11_beside 5 (some .int) 1 22 [.ref a0, .int a1, .int a2] σ (va_Qi (fun r σ1 => σ1 = σ ∧ Iv r (-1) 63 ∧ (r = bs_F (σ.1 641 a0) (σ.1 642 a0) a1 a2)) (oPo A L τ cy D) A) := by
  refine oMk (by decide) (Nat.le_of_ble_eq_true rfl) rfl ?_
  intro p e s m args below meth c ls cx rx hA hw hl
  generalize hQ : MQ below _ args s 0 0 A = Q
  have hx := cx.1.1
  have hb := cx.1.2.1
  have hml := cx.1.2.2.1
  have hown := cx.1.2.2.2.1
  have hts := cx.1.2.2.2.2
  have hl : lv_has ls 5 [(0, .ref a0), (1, .int a1), (2, .int a2)] := hl
  refine lv_iload_n hx hb dX11_beside_0 rfl (lv_at hl 1 rfl) ?_
  refine lv_bipush (v := 8) hx hb dX11_beside_1 (by decide) ?_
  refine lv_irem hx hb dX11_beside_3 (iv_nz (⟨by decide, by decide⟩ : Iv 8 8 8) (by decide)) ?_
  refine lv_topi (fun v1 e1 => ?_)
  have i1 : Iv v1 0 7 := iv_rem e1 ia1 (⟨by decide, by decide⟩ : Iv 8 8 8) (by decide)
  refine lv_iload_n hx hb dX11_beside_4 rfl (lv_at hl 2 rfl) ?_
  refine lv_iconst (v := 1) hx hb dX11_beside_5 (by decide) ?_
  refine lv_icmp_ne (tgt := 13) hx hb dX11_beside_6 (by decide) (fun c2 => ?_) (fun c2 => ?_)
  · --
    refine lv_iload_n hx hb dX11_beside_13 rfl (lv_at hl 2 rfl) ?_
    refine lv_iconst (v := 3) hx hb dX11_beside_14 (by decide) ?_
    refine lv_icmp_ne (tgt := 22) hx hb dX11_beside_15 (by decide) (fun c3 => ?_) (fun c3 => ?_)
    · --
      refine lv_iconst (v := 0) hx hb dX11_beside_22 (by decide) ?_
      refine lv_iadd hx hb dX11_beside_23 ?_
      refine lv_topi (fun v4 e4 => ?_)
      have i4 : Iv v4 0 7 := iv_add e4 i1 (⟨by decide, by decide⟩ : Iv 0 0 0) (by decide)
      have x4 : v4.toInt = v1.toInt + 0 := ex_add e4 i1 (⟨by decide, by decide⟩ : Iv 0 0 0) (by decide)
      refine lv_istore_n (lv' := [(3, .int v4), (0, .ref a0), (1, .int a1), (2, .int a2)]) hx hb dX11_beside_24 rfl hl (by decide) rfl (fun ls hl => ?_)
      refine lv_iload_n hx hb dX11_beside_25 rfl (lv_at hl 2 rfl) ?_
      refine lv_bipush (v := 8) hx hb dX11_beside_26 (by decide) ?_
      refine lv_idiv hx hb dX11_beside_28 (iv_nz (⟨by decide, by decide⟩ : Iv 8 8 8) (by decide)) ?_
      refine lv_topi (fun v5 e5 => ?_)
      have i5 : Iv v5 0 7 := iv_divc e5 ia1 (⟨by decide, by decide⟩ : Iv 8 8 8) (by decide)
      refine lv_iload_n hx hb dX11_beside_29 rfl (lv_at hl 3 rfl) ?_
      refine lv_if_ne (tgt := 37) hx hb dX11_beside_30 (by decide) (fun c6 => ?_) (fun c6 => ?_)
      · --
        refine lv_iload_n hx hb dX11_beside_37 rfl (lv_at hl 3 rfl) ?_
        refine lv_iconst (v := 2) hx hb dX11_beside_38 (by decide) ?_
        refine lv_icmp_ne (tgt := 46) hx hb dX11_beside_39 (by decide) (fun c7 => ?_) (fun c7 => ?_)
        · --
          refine lv_iconst (v := 0) hx hb dX11_beside_46 (by decide) ?_
          refine lv_iadd hx hb dX11_beside_47 ?_
          refine lv_topi (fun v8 e8 => ?_)
          have i8 : Iv v8 0 7 := iv_add e8 i5 (⟨by decide, by decide⟩ : Iv 0 0 0) (by decide)
          have x8 : v8.toInt = v5.toInt + 0 := ex_add e8 i5 (⟨by decide, by decide⟩ : Iv 0 0 0) (by decide)
          refine lv_istore (lv' := [(4, .int v8), (3, .int v4), (0, .ref a0), (1, .int a1), (2, .int a2)]) hx hb dX11_beside_48 hl (by decide) rfl (fun ls hl => ?_)
          refine lv_iload_n hx hb dX11_beside_50 rfl (lv_at hl 1 rfl) ?_
          refine lv_iconst (v := 0) hx hb dX11_beside_51 (by decide) ?_
          refine lv_aload_n hx hb dX11_beside_52 rfl (lv_at hl 2 rfl) ?_
          refine g_641 cx hw ha0 k_f_X11_99 dX11_beside_53 (fun v9 e9 i9 => ?_)
          have z9 : v9.toInt = (σ.1 641 a0).toInt := congrArg Int32.toInt e9
          refine lv_iconst (v := 1) hx hb dX11_beside_56 (by decide) ?_
          refine lv_isub hx hb dX11_beside_57 ?_
          refine lv_topi (fun v10 e10 => ?_)
          have i10 : Iv v10 (-1) 7 := iv_sub e10 i9 (⟨by decide, by decide⟩ : Iv 1 1 1) (by decide)
          have x10 : v10.toInt = v9.toInt + (-1) := ex_sub e10 i9 (⟨by decide, by decide⟩ : Iv 1 1 1) (by decide)
          refine o_ci hw (oRunS cx hA hw q_X11_in k_m_X11_95 (As := [.int v4, .int 0, .int v10]) (c_X11_in v4 0 v10) (by decide) rfl hl.1 rfl (Nat.le_of_ble_eq_true rfl) dX11_beside_58 (by decide)) (fun v12 σ11 H locs hp hw => ?_)
          obtain ⟨p12_0, p12_1, p12_2, p12_3, p12_4, p12_5⟩ := hp
          rw [p12_0] at hw
          refine lv_if_eq (tgt := 89) hx hb dX11_beside_61 (by decide) (fun c13 => ?_) (fun c13 => ?_)
          · --
            have i14 : Iv v12 0 0 := iv_eq1 c13 p12_1 (⟨by decide, by decide⟩ : Iv 0 0 0) (by decide)
            refine lv_iconst (v := (-1)) hx hb dX11_beside_89 (by decide) ?_
            rw [← hQ]
            exact o_ri cx rx hw dX11_beside_90 ⟨rfl, (iv_w (⟨by decide, by decide⟩ : Iv (-1) (-1) (-1)) (by decide)), (by have hx9 : bs_x a1 a2 = v4 := (by rw [bs_x, if_neg c2, if_neg c3, e4, e1]); have hy9 : bs_y a1 a2 = v8 := (by rw [bs_y, if_neg c6, if_neg c7, e8, e5]); rw [bs_F, hx9, hy9, ← e9, ← e10, ← p12_5, if_pos c13])⟩
          · --
            have i15 : Iv v12 1 1 := iv_ne1 c13 p12_1 (⟨by decide, by decide⟩ : Iv 0 0 0) (by decide)
            have l16 : v4.toInt ≤ v10.toInt + 0 := le_of (p12_2 c13).2
            have i17 : Iv v4 0 7 := (fun h => iv_rel (p12_2 h) (⟨by decide, by decide⟩ : Iv 0 0 0) i10) c13
            refine lv_iload hx hb dX11_beside_64 (lv_at hl 0 rfl) ?_
            refine lv_iconst (v := 0) hx hb dX11_beside_66 (by decide) ?_
            refine lv_aload_n hx hb dX11_beside_67 rfl (lv_at hl 2 rfl) ?_
            refine g_642 cx hw ha0 k_f_X11_102 dX11_beside_68 (fun v18 e18 i18 => ?_)
            have z18 : v18.toInt = (σ.1 642 a0).toInt := congrArg Int32.toInt e18
            refine lv_iconst (v := 1) hx hb dX11_beside_71 (by decide) ?_
            refine lv_isub hx hb dX11_beside_72 ?_
            refine lv_topi (fun v19 e19 => ?_)
            have i19 : Iv v19 (-1) 7 := iv_sub e19 i18 (⟨by decide, by decide⟩ : Iv 1 1 1) (by decide)
            have x19 : v19.toInt = v18.toInt + (-1) := ex_sub e19 i18 (⟨by decide, by decide⟩ : Iv 1 1 1) (by decide)
            refine o_ci hw (oRunS cx hA hw q_X11_in k_m_X11_95 (As := [.int v8, .int 0, .int v19]) (c_X11_in v8 0 v19) (by decide) rfl hl.1 rfl (Nat.le_of_ble_eq_true rfl) dX11_beside_73 (by decide)) (fun v21 σ20 H locs hp hw => ?_)
            obtain ⟨p21_0, p21_1, p21_2, p21_3, p21_4, p21_5⟩ := hp
            rw [p21_0] at hw
            refine lv_if_eq (tgt := 89) hx hb dX11_beside_76 (by decide) (fun c22 => ?_) (fun c22 => ?_)
            · --
              have i23 : Iv v21 0 0 := iv_eq1 c22 p21_1 (⟨by decide, by decide⟩ : Iv 0 0 0) (by decide)
              refine lv_iconst (v := (-1)) hx hb dX11_beside_89 (by decide) ?_
              rw [← hQ]
              exact o_ri cx rx hw dX11_beside_90 ⟨rfl, (iv_w (⟨by decide, by decide⟩ : Iv (-1) (-1) (-1)) (by decide)), (by have hx9 : bs_x a1 a2 = v4 := (by rw [bs_x, if_neg c2, if_neg c3, e4, e1]); have hy9 : bs_y a1 a2 = v8 := (by rw [bs_y, if_neg c6, if_neg c7, e8, e5]); rw [bs_F, hx9, hy9, ← e9, ← e10, ← p12_5, if_neg c13, ← e18, ← e19, ← p21_5, if_pos c22])⟩
            · --
              have i24 : Iv v21 1 1 := iv_ne1 c22 p21_1 (⟨by decide, by decide⟩ : Iv 0 0 0) (by decide)
              have l25 : v8.toInt ≤ v19.toInt + 0 := le_of (p21_2 c22).2
              have i26 : Iv v8 0 7 := (fun h => iv_rel (p21_2 h) (⟨by decide, by decide⟩ : Iv 0 0 0) i19) c22
              refine lv_bipush (v := 8) hx hb dX11_beside_79 (by decide) ?_
              refine lv_iload hx hb dX11_beside_81 (lv_at hl 0 rfl) ?_
              refine lv_imul hx hb dX11_beside_83 ?_
              refine lv_topi (fun v27 e27 => ?_)
              have i27 : Iv v27 0 56 := iv_mul e27 (⟨by decide, by decide⟩ : Iv 8 8 8) i26 (by decide)
              refine lv_iload_n hx hb dX11_beside_84 rfl (lv_at hl 1 rfl) ?_
              refine lv_iadd hx hb dX11_beside_85 ?_
              refine lv_topi (fun v28 e28 => ?_)
              have i28 : Iv v28 0 63 := iv_add e28 i27 i17 (by decide)
              have x28 : v28.toInt = v27.toInt + v4.toInt := ex_add e28 i27 i17 (by decide)
              refine lv_goto (tgt := 90) hx hb dX11_beside_86 (by decide) ?_
              rw [← hQ]
              exact o_ri cx rx hw dX11_beside_90 ⟨rfl, (iv_w i28 (by decide)), (by have hx9 : bs_x a1 a2 = v4 := (by rw [bs_x, if_neg c2, if_neg c3, e4, e1]); have hy9 : bs_y a1 a2 = v8 := (by rw [bs_y, if_neg c6, if_neg c7, e8, e5]); rw [bs_F, hx9, hy9, ← e9, ← e10, ← p12_5, if_neg c13, ← e18, ← e19, ← p21_5, if_neg c22, e28, e27])⟩
        · --
          have i29 : Iv a2 2 2 := iv_eq1 c7 (iv_top a2) (⟨by decide, by decide⟩ : Iv 2 2 2) (by decide)
          refine lv_iconst (v := 1) hx hb dX11_beside_42 (by decide) ?_
          refine lv_goto (tgt := 47) hx hb dX11_beside_43 (by decide) ?_
          refine lv_iadd hx hb dX11_beside_47 ?_
          refine lv_topi (fun v30 e30 => ?_)
          have i30 : Iv v30 1 8 := iv_add e30 i5 (⟨by decide, by decide⟩ : Iv 1 1 1) (by decide)
          have x30 : v30.toInt = v5.toInt + 1 := ex_add e30 i5 (⟨by decide, by decide⟩ : Iv 1 1 1) (by decide)
          refine lv_istore (lv' := [(4, .int v30), (3, .int v4), (0, .ref a0), (1, .int a1), (2, .int a2)]) hx hb dX11_beside_48 hl (by decide) rfl (fun ls hl => ?_)
          refine lv_iload_n hx hb dX11_beside_50 rfl (lv_at hl 1 rfl) ?_
          refine lv_iconst (v := 0) hx hb dX11_beside_51 (by decide) ?_
          refine lv_aload_n hx hb dX11_beside_52 rfl (lv_at hl 2 rfl) ?_
          refine g_641 cx hw ha0 k_f_X11_99 dX11_beside_53 (fun v31 e31 i31 => ?_)
          have z31 : v31.toInt = (σ.1 641 a0).toInt := congrArg Int32.toInt e31
          refine lv_iconst (v := 1) hx hb dX11_beside_56 (by decide) ?_
          refine lv_isub hx hb dX11_beside_57 ?_
          refine lv_topi (fun v32 e32 => ?_)
          have i32 : Iv v32 (-1) 7 := iv_sub e32 i31 (⟨by decide, by decide⟩ : Iv 1 1 1) (by decide)
          have x32 : v32.toInt = v31.toInt + (-1) := ex_sub e32 i31 (⟨by decide, by decide⟩ : Iv 1 1 1) (by decide)
          refine o_ci hw (oRunS cx hA hw q_X11_in k_m_X11_95 (As := [.int v4, .int 0, .int v32]) (c_X11_in v4 0 v32) (by decide) rfl hl.1 rfl (Nat.le_of_ble_eq_true rfl) dX11_beside_58 (by decide)) (fun v34 σ33 H locs hp hw => ?_)
          obtain ⟨p34_0, p34_1, p34_2, p34_3, p34_4, p34_5⟩ := hp
          rw [p34_0] at hw
          refine lv_if_eq (tgt := 89) hx hb dX11_beside_61 (by decide) (fun c35 => ?_) (fun c35 => ?_)
          · --
            have i36 : Iv v34 0 0 := iv_eq1 c35 p34_1 (⟨by decide, by decide⟩ : Iv 0 0 0) (by decide)
            refine lv_iconst (v := (-1)) hx hb dX11_beside_89 (by decide) ?_
            rw [← hQ]
            exact o_ri cx rx hw dX11_beside_90 ⟨rfl, (iv_w (⟨by decide, by decide⟩ : Iv (-1) (-1) (-1)) (by decide)), (by have hx9 : bs_x a1 a2 = v4 := (by rw [bs_x, if_neg c2, if_neg c3, e4, e1]); have hy9 : bs_y a1 a2 = v30 := (by rw [bs_y, if_neg c6, if_pos c7, e30, e5]); rw [bs_F, hx9, hy9, ← e31, ← e32, ← p34_5, if_pos c35])⟩
          · --
            have i37 : Iv v34 1 1 := iv_ne1 c35 p34_1 (⟨by decide, by decide⟩ : Iv 0 0 0) (by decide)
            have l38 : v4.toInt ≤ v32.toInt + 0 := le_of (p34_2 c35).2
            have i39 : Iv v4 0 7 := (fun h => iv_rel (p34_2 h) (⟨by decide, by decide⟩ : Iv 0 0 0) i32) c35
            refine lv_iload hx hb dX11_beside_64 (lv_at hl 0 rfl) ?_
            refine lv_iconst (v := 0) hx hb dX11_beside_66 (by decide) ?_
            refine lv_aload_n hx hb dX11_beside_67 rfl (lv_at hl 2 rfl) ?_
            refine g_642 cx hw ha0 k_f_X11_102 dX11_beside_68 (fun v40 e40 i40 => ?_)
            have z40 : v40.toInt = (σ.1 642 a0).toInt := congrArg Int32.toInt e40
            refine lv_iconst (v := 1) hx hb dX11_beside_71 (by decide) ?_
            refine lv_isub hx hb dX11_beside_72 ?_
            refine lv_topi (fun v41 e41 => ?_)
            have i41 : Iv v41 (-1) 7 := iv_sub e41 i40 (⟨by decide, by decide⟩ : Iv 1 1 1) (by decide)
            have x41 : v41.toInt = v40.toInt + (-1) := ex_sub e41 i40 (⟨by decide, by decide⟩ : Iv 1 1 1) (by decide)
            refine o_ci hw (oRunS cx hA hw q_X11_in k_m_X11_95 (As := [.int v30, .int 0, .int v41]) (c_X11_in v30 0 v41) (by decide) rfl hl.1 rfl (Nat.le_of_ble_eq_true rfl) dX11_beside_73 (by decide)) (fun v43 σ42 H locs hp hw => ?_)
            obtain ⟨p43_0, p43_1, p43_2, p43_3, p43_4, p43_5⟩ := hp
            rw [p43_0] at hw
            refine lv_if_eq (tgt := 89) hx hb dX11_beside_76 (by decide) (fun c44 => ?_) (fun c44 => ?_)
            · --
              have i45 : Iv v43 0 0 := iv_eq1 c44 p43_1 (⟨by decide, by decide⟩ : Iv 0 0 0) (by decide)
              refine lv_iconst (v := (-1)) hx hb dX11_beside_89 (by decide) ?_
              rw [← hQ]
              exact o_ri cx rx hw dX11_beside_90 ⟨rfl, (iv_w (⟨by decide, by decide⟩ : Iv (-1) (-1) (-1)) (by decide)), (by have hx9 : bs_x a1 a2 = v4 := (by rw [bs_x, if_neg c2, if_neg c3, e4, e1]); have hy9 : bs_y a1 a2 = v30 := (by rw [bs_y, if_neg c6, if_pos c7, e30, e5]); rw [bs_F, hx9, hy9, ← e31, ← e32, ← p34_5, if_neg c35, ← e40, ← e41, ← p43_5, if_pos c44])⟩
            · --
              have i46 : Iv v43 1 1 := iv_ne1 c44 p43_1 (⟨by decide, by decide⟩ : Iv 0 0 0) (by decide)
              have l47 : v30.toInt ≤ v41.toInt + 0 := le_of (p43_2 c44).2
              have i48 : Iv v30 0 7 := (fun h => iv_rel (p43_2 h) (⟨by decide, by decide⟩ : Iv 0 0 0) i41) c44
              have i49 : Iv v30 1 7 := iv_cap i48 i30 (by decide)
              refine lv_bipush (v := 8) hx hb dX11_beside_79 (by decide) ?_
              refine lv_iload hx hb dX11_beside_81 (lv_at hl 0 rfl) ?_
              refine lv_imul hx hb dX11_beside_83 ?_
              refine lv_topi (fun v50 e50 => ?_)
              have i50 : Iv v50 8 56 := iv_mul e50 (⟨by decide, by decide⟩ : Iv 8 8 8) i49 (by decide)
              refine lv_iload_n hx hb dX11_beside_84 rfl (lv_at hl 1 rfl) ?_
              refine lv_iadd hx hb dX11_beside_85 ?_
              refine lv_topi (fun v51 e51 => ?_)
              have i51 : Iv v51 8 63 := iv_add e51 i50 i39 (by decide)
              have x51 : v51.toInt = v50.toInt + v4.toInt := ex_add e51 i50 i39 (by decide)
              refine lv_goto (tgt := 90) hx hb dX11_beside_86 (by decide) ?_
              rw [← hQ]
              exact o_ri cx rx hw dX11_beside_90 ⟨rfl, (iv_w i51 (by decide)), (by have hx9 : bs_x a1 a2 = v4 := (by rw [bs_x, if_neg c2, if_neg c3, e4, e1]); have hy9 : bs_y a1 a2 = v30 := (by rw [bs_y, if_neg c6, if_pos c7, e30, e5]); rw [bs_F, hx9, hy9, ← e31, ← e32, ← p34_5, if_neg c35, ← e40, ← e41, ← p43_5, if_neg c44, e51, e50])⟩
      · --
        have i52 : Iv a2 0 0 := iv_eq1 c6 (iv_top a2) (⟨by decide, by decide⟩ : Iv 0 0 0) (by decide)
        refine lv_iconst (v := (-1)) hx hb dX11_beside_33 (by decide) ?_
        refine lv_goto (tgt := 47) hx hb dX11_beside_34 (by decide) ?_
        refine lv_iadd hx hb dX11_beside_47 ?_
        refine lv_topi (fun v53 e53 => ?_)
        have i53 : Iv v53 (-1) 6 := iv_add e53 i5 (⟨by decide, by decide⟩ : Iv (-1) (-1) (-1)) (by decide)
        have x53 : v53.toInt = v5.toInt + (-1) := ex_add e53 i5 (⟨by decide, by decide⟩ : Iv (-1) (-1) (-1)) (by decide)
        refine lv_istore (lv' := [(4, .int v53), (3, .int v4), (0, .ref a0), (1, .int a1), (2, .int a2)]) hx hb dX11_beside_48 hl (by decide) rfl (fun ls hl => ?_)
        refine lv_iload_n hx hb dX11_beside_50 rfl (lv_at hl 1 rfl) ?_
        refine lv_iconst (v := 0) hx hb dX11_beside_51 (by decide) ?_
        refine lv_aload_n hx hb dX11_beside_52 rfl (lv_at hl 2 rfl) ?_
        refine g_641 cx hw ha0 k_f_X11_99 dX11_beside_53 (fun v54 e54 i54 => ?_)
        have z54 : v54.toInt = (σ.1 641 a0).toInt := congrArg Int32.toInt e54
        refine lv_iconst (v := 1) hx hb dX11_beside_56 (by decide) ?_
        refine lv_isub hx hb dX11_beside_57 ?_
        refine lv_topi (fun v55 e55 => ?_)
        have i55 : Iv v55 (-1) 7 := iv_sub e55 i54 (⟨by decide, by decide⟩ : Iv 1 1 1) (by decide)
        have x55 : v55.toInt = v54.toInt + (-1) := ex_sub e55 i54 (⟨by decide, by decide⟩ : Iv 1 1 1) (by decide)
        refine o_ci hw (oRunS cx hA hw q_X11_in k_m_X11_95 (As := [.int v4, .int 0, .int v55]) (c_X11_in v4 0 v55) (by decide) rfl hl.1 rfl (Nat.le_of_ble_eq_true rfl) dX11_beside_58 (by decide)) (fun v57 σ56 H locs hp hw => ?_)
        obtain ⟨p57_0, p57_1, p57_2, p57_3, p57_4, p57_5⟩ := hp
        rw [p57_0] at hw
        refine lv_if_eq (tgt := 89) hx hb dX11_beside_61 (by decide) (fun c58 => ?_) (fun c58 => ?_)
        · --
          have i59 : Iv v57 0 0 := iv_eq1 c58 p57_1 (⟨by decide, by decide⟩ : Iv 0 0 0) (by decide)
          refine lv_iconst (v := (-1)) hx hb dX11_beside_89 (by decide) ?_
          rw [← hQ]
          exact o_ri cx rx hw dX11_beside_90 ⟨rfl, (iv_w (⟨by decide, by decide⟩ : Iv (-1) (-1) (-1)) (by decide)), (by have hx9 : bs_x a1 a2 = v4 := (by rw [bs_x, if_neg c2, if_neg c3, e4, e1]); have hy9 : bs_y a1 a2 = v53 := (by rw [bs_y, if_pos c6, e53, e5]); rw [bs_F, hx9, hy9, ← e54, ← e55, ← p57_5, if_pos c58])⟩
        · --
          have i60 : Iv v57 1 1 := iv_ne1 c58 p57_1 (⟨by decide, by decide⟩ : Iv 0 0 0) (by decide)
          have l61 : v4.toInt ≤ v55.toInt + 0 := le_of (p57_2 c58).2
          have i62 : Iv v4 0 7 := (fun h => iv_rel (p57_2 h) (⟨by decide, by decide⟩ : Iv 0 0 0) i55) c58
          refine lv_iload hx hb dX11_beside_64 (lv_at hl 0 rfl) ?_
          refine lv_iconst (v := 0) hx hb dX11_beside_66 (by decide) ?_
          refine lv_aload_n hx hb dX11_beside_67 rfl (lv_at hl 2 rfl) ?_
          refine g_642 cx hw ha0 k_f_X11_102 dX11_beside_68 (fun v63 e63 i63 => ?_)
          have z63 : v63.toInt = (σ.1 642 a0).toInt := congrArg Int32.toInt e63
          refine lv_iconst (v := 1) hx hb dX11_beside_71 (by decide) ?_
          refine lv_isub hx hb dX11_beside_72 ?_
          refine lv_topi (fun v64 e64 => ?_)
          have i64 : Iv v64 (-1) 7 := iv_sub e64 i63 (⟨by decide, by decide⟩ : Iv 1 1 1) (by decide)
          have x64 : v64.toInt = v63.toInt + (-1) := ex_sub e64 i63 (⟨by decide, by decide⟩ : Iv 1 1 1) (by decide)
          refine o_ci hw (oRunS cx hA hw q_X11_in k_m_X11_95 (As := [.int v53, .int 0, .int v64]) (c_X11_in v53 0 v64) (by decide) rfl hl.1 rfl (Nat.le_of_ble_eq_true rfl) dX11_beside_73 (by decide)) (fun v66 σ65 H locs hp hw => ?_)
          obtain ⟨p66_0, p66_1, p66_2, p66_3, p66_4, p66_5⟩ := hp
          rw [p66_0] at hw
          refine lv_if_eq (tgt := 89) hx hb dX11_beside_76 (by decide) (fun c67 => ?_) (fun c67 => ?_)
          · --
            have i68 : Iv v66 0 0 := iv_eq1 c67 p66_1 (⟨by decide, by decide⟩ : Iv 0 0 0) (by decide)
            refine lv_iconst (v := (-1)) hx hb dX11_beside_89 (by decide) ?_
            rw [← hQ]
            exact o_ri cx rx hw dX11_beside_90 ⟨rfl, (iv_w (⟨by decide, by decide⟩ : Iv (-1) (-1) (-1)) (by decide)), (by have hx9 : bs_x a1 a2 = v4 := (by rw [bs_x, if_neg c2, if_neg c3, e4, e1]); have hy9 : bs_y a1 a2 = v53 := (by rw [bs_y, if_pos c6, e53, e5]); rw [bs_F, hx9, hy9, ← e54, ← e55, ← p57_5, if_neg c58, ← e63, ← e64, ← p66_5, if_pos c67])⟩
          · --
            have i69 : Iv v66 1 1 := iv_ne1 c67 p66_1 (⟨by decide, by decide⟩ : Iv 0 0 0) (by decide)
            have l70 : v53.toInt ≤ v64.toInt + 0 := le_of (p66_2 c67).2
            have i71 : Iv v53 0 7 := (fun h => iv_rel (p66_2 h) (⟨by decide, by decide⟩ : Iv 0 0 0) i64) c67
            have i72 : Iv v53 0 6 := iv_cap i71 i53 (by decide)
            refine lv_bipush (v := 8) hx hb dX11_beside_79 (by decide) ?_
            refine lv_iload hx hb dX11_beside_81 (lv_at hl 0 rfl) ?_
            refine lv_imul hx hb dX11_beside_83 ?_
            refine lv_topi (fun v73 e73 => ?_)
            have i73 : Iv v73 0 48 := iv_mul e73 (⟨by decide, by decide⟩ : Iv 8 8 8) i72 (by decide)
            refine lv_iload_n hx hb dX11_beside_84 rfl (lv_at hl 1 rfl) ?_
            refine lv_iadd hx hb dX11_beside_85 ?_
            refine lv_topi (fun v74 e74 => ?_)
            have i74 : Iv v74 0 55 := iv_add e74 i73 i62 (by decide)
            have x74 : v74.toInt = v73.toInt + v4.toInt := ex_add e74 i73 i62 (by decide)
            refine lv_goto (tgt := 90) hx hb dX11_beside_86 (by decide) ?_
            rw [← hQ]
            exact o_ri cx rx hw dX11_beside_90 ⟨rfl, (iv_w i74 (by decide)), (by have hx9 : bs_x a1 a2 = v4 := (by rw [bs_x, if_neg c2, if_neg c3, e4, e1]); have hy9 : bs_y a1 a2 = v53 := (by rw [bs_y, if_pos c6, e53, e5]); rw [bs_F, hx9, hy9, ← e54, ← e55, ← p57_5, if_neg c58, ← e63, ← e64, ← p66_5, if_neg c67, e74, e73])⟩
    · --
      have i75 : Iv a2 3 3 := iv_eq1 c3 (iv_top a2) (⟨by decide, by decide⟩ : Iv 3 3 3) (by decide)
      refine lv_iconst (v := (-1)) hx hb dX11_beside_18 (by decide) ?_
      refine lv_goto (tgt := 23) hx hb dX11_beside_19 (by decide) ?_
      refine lv_iadd hx hb dX11_beside_23 ?_
      refine lv_topi (fun v76 e76 => ?_)
      have i76 : Iv v76 (-1) 6 := iv_add e76 i1 (⟨by decide, by decide⟩ : Iv (-1) (-1) (-1)) (by decide)
      have x76 : v76.toInt = v1.toInt + (-1) := ex_add e76 i1 (⟨by decide, by decide⟩ : Iv (-1) (-1) (-1)) (by decide)
      refine lv_istore_n (lv' := [(3, .int v76), (0, .ref a0), (1, .int a1), (2, .int a2)]) hx hb dX11_beside_24 rfl hl (by decide) rfl (fun ls hl => ?_)
      refine lv_iload_n hx hb dX11_beside_25 rfl (lv_at hl 2 rfl) ?_
      refine lv_bipush (v := 8) hx hb dX11_beside_26 (by decide) ?_
      refine lv_idiv hx hb dX11_beside_28 (iv_nz (⟨by decide, by decide⟩ : Iv 8 8 8) (by decide)) ?_
      refine lv_topi (fun v77 e77 => ?_)
      have i77 : Iv v77 0 7 := iv_divc e77 ia1 (⟨by decide, by decide⟩ : Iv 8 8 8) (by decide)
      refine lv_iload_n hx hb dX11_beside_29 rfl (lv_at hl 3 rfl) ?_
      refine lv_if_ne (tgt := 37) hx hb dX11_beside_30 (by decide) (fun c78 => ?_) (fun c78 => ?_)
      · --
        refine lv_iload_n hx hb dX11_beside_37 rfl (lv_at hl 3 rfl) ?_
        refine lv_iconst (v := 2) hx hb dX11_beside_38 (by decide) ?_
        refine lv_icmp_ne (tgt := 46) hx hb dX11_beside_39 (by decide) (fun c79 => ?_) (fun c79 => ?_)
        · --
          refine lv_iconst (v := 0) hx hb dX11_beside_46 (by decide) ?_
          refine lv_iadd hx hb dX11_beside_47 ?_
          refine lv_topi (fun v80 e80 => ?_)
          have i80 : Iv v80 0 7 := iv_add e80 i77 (⟨by decide, by decide⟩ : Iv 0 0 0) (by decide)
          have x80 : v80.toInt = v77.toInt + 0 := ex_add e80 i77 (⟨by decide, by decide⟩ : Iv 0 0 0) (by decide)
          refine lv_istore (lv' := [(4, .int v80), (3, .int v76), (0, .ref a0), (1, .int a1), (2, .int a2)]) hx hb dX11_beside_48 hl (by decide) rfl (fun ls hl => ?_)
          refine lv_iload_n hx hb dX11_beside_50 rfl (lv_at hl 1 rfl) ?_
          refine lv_iconst (v := 0) hx hb dX11_beside_51 (by decide) ?_
          refine lv_aload_n hx hb dX11_beside_52 rfl (lv_at hl 2 rfl) ?_
          refine g_641 cx hw ha0 k_f_X11_99 dX11_beside_53 (fun v81 e81 i81 => ?_)
          have z81 : v81.toInt = (σ.1 641 a0).toInt := congrArg Int32.toInt e81
          refine lv_iconst (v := 1) hx hb dX11_beside_56 (by decide) ?_
          refine lv_isub hx hb dX11_beside_57 ?_
          refine lv_topi (fun v82 e82 => ?_)
          have i82 : Iv v82 (-1) 7 := iv_sub e82 i81 (⟨by decide, by decide⟩ : Iv 1 1 1) (by decide)
          have x82 : v82.toInt = v81.toInt + (-1) := ex_sub e82 i81 (⟨by decide, by decide⟩ : Iv 1 1 1) (by decide)
          refine o_ci hw (oRunS cx hA hw q_X11_in k_m_X11_95 (As := [.int v76, .int 0, .int v82]) (c_X11_in v76 0 v82) (by decide) rfl hl.1 rfl (Nat.le_of_ble_eq_true rfl) dX11_beside_58 (by decide)) (fun v84 σ83 H locs hp hw => ?_)
          obtain ⟨p84_0, p84_1, p84_2, p84_3, p84_4, p84_5⟩ := hp
          rw [p84_0] at hw
          refine lv_if_eq (tgt := 89) hx hb dX11_beside_61 (by decide) (fun c85 => ?_) (fun c85 => ?_)
          · --
            have i86 : Iv v84 0 0 := iv_eq1 c85 p84_1 (⟨by decide, by decide⟩ : Iv 0 0 0) (by decide)
            refine lv_iconst (v := (-1)) hx hb dX11_beside_89 (by decide) ?_
            rw [← hQ]
            exact o_ri cx rx hw dX11_beside_90 ⟨rfl, (iv_w (⟨by decide, by decide⟩ : Iv (-1) (-1) (-1)) (by decide)), (by have hx9 : bs_x a1 a2 = v76 := (by rw [bs_x, if_neg c2, if_pos c3, e76, e1]); have hy9 : bs_y a1 a2 = v80 := (by rw [bs_y, if_neg c78, if_neg c79, e80, e77]); rw [bs_F, hx9, hy9, ← e81, ← e82, ← p84_5, if_pos c85])⟩
          · --
            have i87 : Iv v84 1 1 := iv_ne1 c85 p84_1 (⟨by decide, by decide⟩ : Iv 0 0 0) (by decide)
            have l88 : v76.toInt ≤ v82.toInt + 0 := le_of (p84_2 c85).2
            have i89 : Iv v76 0 7 := (fun h => iv_rel (p84_2 h) (⟨by decide, by decide⟩ : Iv 0 0 0) i82) c85
            have i90 : Iv v76 0 6 := iv_cap i89 i76 (by decide)
            refine lv_iload hx hb dX11_beside_64 (lv_at hl 0 rfl) ?_
            refine lv_iconst (v := 0) hx hb dX11_beside_66 (by decide) ?_
            refine lv_aload_n hx hb dX11_beside_67 rfl (lv_at hl 2 rfl) ?_
            refine g_642 cx hw ha0 k_f_X11_102 dX11_beside_68 (fun v91 e91 i91 => ?_)
            have z91 : v91.toInt = (σ.1 642 a0).toInt := congrArg Int32.toInt e91
            refine lv_iconst (v := 1) hx hb dX11_beside_71 (by decide) ?_
            refine lv_isub hx hb dX11_beside_72 ?_
            refine lv_topi (fun v92 e92 => ?_)
            have i92 : Iv v92 (-1) 7 := iv_sub e92 i91 (⟨by decide, by decide⟩ : Iv 1 1 1) (by decide)
            have x92 : v92.toInt = v91.toInt + (-1) := ex_sub e92 i91 (⟨by decide, by decide⟩ : Iv 1 1 1) (by decide)
            refine o_ci hw (oRunS cx hA hw q_X11_in k_m_X11_95 (As := [.int v80, .int 0, .int v92]) (c_X11_in v80 0 v92) (by decide) rfl hl.1 rfl (Nat.le_of_ble_eq_true rfl) dX11_beside_73 (by decide)) (fun v94 σ93 H locs hp hw => ?_)
            obtain ⟨p94_0, p94_1, p94_2, p94_3, p94_4, p94_5⟩ := hp
            rw [p94_0] at hw
            refine lv_if_eq (tgt := 89) hx hb dX11_beside_76 (by decide) (fun c95 => ?_) (fun c95 => ?_)
            · --
              have i96 : Iv v94 0 0 := iv_eq1 c95 p94_1 (⟨by decide, by decide⟩ : Iv 0 0 0) (by decide)
              refine lv_iconst (v := (-1)) hx hb dX11_beside_89 (by decide) ?_
              rw [← hQ]
              exact o_ri cx rx hw dX11_beside_90 ⟨rfl, (iv_w (⟨by decide, by decide⟩ : Iv (-1) (-1) (-1)) (by decide)), (by have hx9 : bs_x a1 a2 = v76 := (by rw [bs_x, if_neg c2, if_pos c3, e76, e1]); have hy9 : bs_y a1 a2 = v80 := (by rw [bs_y, if_neg c78, if_neg c79, e80, e77]); rw [bs_F, hx9, hy9, ← e81, ← e82, ← p84_5, if_neg c85, ← e91, ← e92, ← p94_5, if_pos c95])⟩
            · --
              have i97 : Iv v94 1 1 := iv_ne1 c95 p94_1 (⟨by decide, by decide⟩ : Iv 0 0 0) (by decide)
              have l98 : v80.toInt ≤ v92.toInt + 0 := le_of (p94_2 c95).2
              have i99 : Iv v80 0 7 := (fun h => iv_rel (p94_2 h) (⟨by decide, by decide⟩ : Iv 0 0 0) i92) c95
              refine lv_bipush (v := 8) hx hb dX11_beside_79 (by decide) ?_
              refine lv_iload hx hb dX11_beside_81 (lv_at hl 0 rfl) ?_
              refine lv_imul hx hb dX11_beside_83 ?_
              refine lv_topi (fun v100 e100 => ?_)
              have i100 : Iv v100 0 56 := iv_mul e100 (⟨by decide, by decide⟩ : Iv 8 8 8) i99 (by decide)
              refine lv_iload_n hx hb dX11_beside_84 rfl (lv_at hl 1 rfl) ?_
              refine lv_iadd hx hb dX11_beside_85 ?_
              refine lv_topi (fun v101 e101 => ?_)
              have i101 : Iv v101 0 62 := iv_add e101 i100 i90 (by decide)
              have x101 : v101.toInt = v100.toInt + v76.toInt := ex_add e101 i100 i90 (by decide)
              refine lv_goto (tgt := 90) hx hb dX11_beside_86 (by decide) ?_
              rw [← hQ]
              exact o_ri cx rx hw dX11_beside_90 ⟨rfl, (iv_w i101 (by decide)), (by have hx9 : bs_x a1 a2 = v76 := (by rw [bs_x, if_neg c2, if_pos c3, e76, e1]); have hy9 : bs_y a1 a2 = v80 := (by rw [bs_y, if_neg c78, if_neg c79, e80, e77]); rw [bs_F, hx9, hy9, ← e81, ← e82, ← p84_5, if_neg c85, ← e91, ← e92, ← p94_5, if_neg c95, e101, e100])⟩
        · --
          exact iv_no (iv_eq1 (lo := 3) (hi := 2) c79 i75 (⟨by decide, by decide⟩ : Iv 2 2 2) (by decide)) (by decide)
      · --
        exact iv_no (iv_eq1 (lo := 3) (hi := 0) c78 i75 (⟨by decide, by decide⟩ : Iv 0 0 0) (by decide)) (by decide)
  · --
    have i102 : Iv a2 1 1 := iv_eq1 c2 (iv_top a2) (⟨by decide, by decide⟩ : Iv 1 1 1) (by decide)
    refine lv_iconst (v := 1) hx hb dX11_beside_9 (by decide) ?_
    refine lv_goto (tgt := 23) hx hb dX11_beside_10 (by decide) ?_
    refine lv_iadd hx hb dX11_beside_23 ?_
    refine lv_topi (fun v103 e103 => ?_)
    have i103 : Iv v103 1 8 := iv_add e103 i1 (⟨by decide, by decide⟩ : Iv 1 1 1) (by decide)
    have x103 : v103.toInt = v1.toInt + 1 := ex_add e103 i1 (⟨by decide, by decide⟩ : Iv 1 1 1) (by decide)
    refine lv_istore_n (lv' := [(3, .int v103), (0, .ref a0), (1, .int a1), (2, .int a2)]) hx hb dX11_beside_24 rfl hl (by decide) rfl (fun ls hl => ?_)
    refine lv_iload_n hx hb dX11_beside_25 rfl (lv_at hl 2 rfl) ?_
    refine lv_bipush (v := 8) hx hb dX11_beside_26 (by decide) ?_
    refine lv_idiv hx hb dX11_beside_28 (iv_nz (⟨by decide, by decide⟩ : Iv 8 8 8) (by decide)) ?_
    refine lv_topi (fun v104 e104 => ?_)
    have i104 : Iv v104 0 7 := iv_divc e104 ia1 (⟨by decide, by decide⟩ : Iv 8 8 8) (by decide)
    refine lv_iload_n hx hb dX11_beside_29 rfl (lv_at hl 3 rfl) ?_
    refine lv_if_ne (tgt := 37) hx hb dX11_beside_30 (by decide) (fun c105 => ?_) (fun c105 => ?_)
    · --
      refine lv_iload_n hx hb dX11_beside_37 rfl (lv_at hl 3 rfl) ?_
      refine lv_iconst (v := 2) hx hb dX11_beside_38 (by decide) ?_
      refine lv_icmp_ne (tgt := 46) hx hb dX11_beside_39 (by decide) (fun c106 => ?_) (fun c106 => ?_)
      · --
        refine lv_iconst (v := 0) hx hb dX11_beside_46 (by decide) ?_
        refine lv_iadd hx hb dX11_beside_47 ?_
        refine lv_topi (fun v107 e107 => ?_)
        have i107 : Iv v107 0 7 := iv_add e107 i104 (⟨by decide, by decide⟩ : Iv 0 0 0) (by decide)
        have x107 : v107.toInt = v104.toInt + 0 := ex_add e107 i104 (⟨by decide, by decide⟩ : Iv 0 0 0) (by decide)
        refine lv_istore (lv' := [(4, .int v107), (3, .int v103), (0, .ref a0), (1, .int a1), (2, .int a2)]) hx hb dX11_beside_48 hl (by decide) rfl (fun ls hl => ?_)
        refine lv_iload_n hx hb dX11_beside_50 rfl (lv_at hl 1 rfl) ?_
        refine lv_iconst (v := 0) hx hb dX11_beside_51 (by decide) ?_
        refine lv_aload_n hx hb dX11_beside_52 rfl (lv_at hl 2 rfl) ?_
        refine g_641 cx hw ha0 k_f_X11_99 dX11_beside_53 (fun v108 e108 i108 => ?_)
        have z108 : v108.toInt = (σ.1 641 a0).toInt := congrArg Int32.toInt e108
        refine lv_iconst (v := 1) hx hb dX11_beside_56 (by decide) ?_
        refine lv_isub hx hb dX11_beside_57 ?_
        refine lv_topi (fun v109 e109 => ?_)
        have i109 : Iv v109 (-1) 7 := iv_sub e109 i108 (⟨by decide, by decide⟩ : Iv 1 1 1) (by decide)
        have x109 : v109.toInt = v108.toInt + (-1) := ex_sub e109 i108 (⟨by decide, by decide⟩ : Iv 1 1 1) (by decide)
        refine o_ci hw (oRunS cx hA hw q_X11_in k_m_X11_95 (As := [.int v103, .int 0, .int v109]) (c_X11_in v103 0 v109) (by decide) rfl hl.1 rfl (Nat.le_of_ble_eq_true rfl) dX11_beside_58 (by decide)) (fun v111 σ110 H locs hp hw => ?_)
        obtain ⟨p111_0, p111_1, p111_2, p111_3, p111_4, p111_5⟩ := hp
        rw [p111_0] at hw
        refine lv_if_eq (tgt := 89) hx hb dX11_beside_61 (by decide) (fun c112 => ?_) (fun c112 => ?_)
        · --
          have i113 : Iv v111 0 0 := iv_eq1 c112 p111_1 (⟨by decide, by decide⟩ : Iv 0 0 0) (by decide)
          refine lv_iconst (v := (-1)) hx hb dX11_beside_89 (by decide) ?_
          rw [← hQ]
          exact o_ri cx rx hw dX11_beside_90 ⟨rfl, (iv_w (⟨by decide, by decide⟩ : Iv (-1) (-1) (-1)) (by decide)), (by have hx9 : bs_x a1 a2 = v103 := (by rw [bs_x, if_pos c2, e103, e1]); have hy9 : bs_y a1 a2 = v107 := (by rw [bs_y, if_neg c105, if_neg c106, e107, e104]); rw [bs_F, hx9, hy9, ← e108, ← e109, ← p111_5, if_pos c112])⟩
        · --
          have i114 : Iv v111 1 1 := iv_ne1 c112 p111_1 (⟨by decide, by decide⟩ : Iv 0 0 0) (by decide)
          have l115 : v103.toInt ≤ v109.toInt + 0 := le_of (p111_2 c112).2
          have i116 : Iv v103 0 7 := (fun h => iv_rel (p111_2 h) (⟨by decide, by decide⟩ : Iv 0 0 0) i109) c112
          have i117 : Iv v103 1 7 := iv_cap i116 i103 (by decide)
          refine lv_iload hx hb dX11_beside_64 (lv_at hl 0 rfl) ?_
          refine lv_iconst (v := 0) hx hb dX11_beside_66 (by decide) ?_
          refine lv_aload_n hx hb dX11_beside_67 rfl (lv_at hl 2 rfl) ?_
          refine g_642 cx hw ha0 k_f_X11_102 dX11_beside_68 (fun v118 e118 i118 => ?_)
          have z118 : v118.toInt = (σ.1 642 a0).toInt := congrArg Int32.toInt e118
          refine lv_iconst (v := 1) hx hb dX11_beside_71 (by decide) ?_
          refine lv_isub hx hb dX11_beside_72 ?_
          refine lv_topi (fun v119 e119 => ?_)
          have i119 : Iv v119 (-1) 7 := iv_sub e119 i118 (⟨by decide, by decide⟩ : Iv 1 1 1) (by decide)
          have x119 : v119.toInt = v118.toInt + (-1) := ex_sub e119 i118 (⟨by decide, by decide⟩ : Iv 1 1 1) (by decide)
          refine o_ci hw (oRunS cx hA hw q_X11_in k_m_X11_95 (As := [.int v107, .int 0, .int v119]) (c_X11_in v107 0 v119) (by decide) rfl hl.1 rfl (Nat.le_of_ble_eq_true rfl) dX11_beside_73 (by decide)) (fun v121 σ120 H locs hp hw => ?_)
          obtain ⟨p121_0, p121_1, p121_2, p121_3, p121_4, p121_5⟩ := hp
          rw [p121_0] at hw
          refine lv_if_eq (tgt := 89) hx hb dX11_beside_76 (by decide) (fun c122 => ?_) (fun c122 => ?_)
          · --
            have i123 : Iv v121 0 0 := iv_eq1 c122 p121_1 (⟨by decide, by decide⟩ : Iv 0 0 0) (by decide)
            refine lv_iconst (v := (-1)) hx hb dX11_beside_89 (by decide) ?_
            rw [← hQ]
            exact o_ri cx rx hw dX11_beside_90 ⟨rfl, (iv_w (⟨by decide, by decide⟩ : Iv (-1) (-1) (-1)) (by decide)), (by have hx9 : bs_x a1 a2 = v103 := (by rw [bs_x, if_pos c2, e103, e1]); have hy9 : bs_y a1 a2 = v107 := (by rw [bs_y, if_neg c105, if_neg c106, e107, e104]); rw [bs_F, hx9, hy9, ← e108, ← e109, ← p111_5, if_neg c112, ← e118, ← e119, ← p121_5, if_pos c122])⟩
          · --
            have i124 : Iv v121 1 1 := iv_ne1 c122 p121_1 (⟨by decide, by decide⟩ : Iv 0 0 0) (by decide)
            have l125 : v107.toInt ≤ v119.toInt + 0 := le_of (p121_2 c122).2
            have i126 : Iv v107 0 7 := (fun h => iv_rel (p121_2 h) (⟨by decide, by decide⟩ : Iv 0 0 0) i119) c122
            refine lv_bipush (v := 8) hx hb dX11_beside_79 (by decide) ?_
            refine lv_iload hx hb dX11_beside_81 (lv_at hl 0 rfl) ?_
            refine lv_imul hx hb dX11_beside_83 ?_
            refine lv_topi (fun v127 e127 => ?_)
            have i127 : Iv v127 0 56 := iv_mul e127 (⟨by decide, by decide⟩ : Iv 8 8 8) i126 (by decide)
            refine lv_iload_n hx hb dX11_beside_84 rfl (lv_at hl 1 rfl) ?_
            refine lv_iadd hx hb dX11_beside_85 ?_
            refine lv_topi (fun v128 e128 => ?_)
            have i128 : Iv v128 1 63 := iv_add e128 i127 i117 (by decide)
            have x128 : v128.toInt = v127.toInt + v103.toInt := ex_add e128 i127 i117 (by decide)
            refine lv_goto (tgt := 90) hx hb dX11_beside_86 (by decide) ?_
            rw [← hQ]
            exact o_ri cx rx hw dX11_beside_90 ⟨rfl, (iv_w i128 (by decide)), (by have hx9 : bs_x a1 a2 = v103 := (by rw [bs_x, if_pos c2, e103, e1]); have hy9 : bs_y a1 a2 = v107 := (by rw [bs_y, if_neg c105, if_neg c106, e107, e104]); rw [bs_F, hx9, hy9, ← e108, ← e109, ← p111_5, if_neg c112, ← e118, ← e119, ← p121_5, if_neg c122, e128, e127])⟩
      · --
        exact iv_no (iv_eq1 (lo := 2) (hi := 1) c106 i102 (⟨by decide, by decide⟩ : Iv 2 2 2) (by decide)) (by decide)
    · --
      exact iv_no (iv_eq1 (lo := 1) (hi := 0) c105 i102 (⟨by decide, by decide⟩ : Iv 0 0 0) (by decide)) (by decide)
abbrev fs_X11_goesTo : List Nat := [659, 660, 661, 662, 663, 669]
abbrev ts_X11_goesTo : List Nat := [55]
set_option maxHeartbeats 4000000 in
set_option maxRecDepth 100000 in
theorem c_X11_goesTo (a0 : Nat) (ha0 : oA L τ a0 10) (a1 : Nat) (ha1 : oA L τ a1 48) (a2 : Int32) (ia2 : Iv a2 0 5) : oMet l A L τ cy D K yX11_goesTo cX11_goesTo 9 (some .int) 339 8520 [.ref a0, .ref a1, .int a2] σ (va_Qi (fun r σ1 => oFr τ fs_X11_goesTo ts_X11_goesTo σ σ1 ∧ Iv r 0 63) (oPo A L τ cy D) A) := by
  refine oMk (by decide) (Nat.le_of_ble_eq_true rfl) rfl ?_
  intro p e s m args below meth c ls cx rx hA hw hl
  generalize hQ : MQ below _ args s 0 0 A = Q
  have hx := cx.1.1
  have hb := cx.1.2.1
  have hml := cx.1.2.2.1
  have hown := cx.1.2.2.2.1
  have hts := cx.1.2.2.2.2
  have hl : lv_has ls 9 [(0, .ref a0), (1, .ref a1), (2, .int a2)] := hl
  have fr : oFr τ fs_X11_goesTo ts_X11_goesTo σ σ := oFr_rf
  refine lv_aload_n hx hb dX11_goesTo_0 rfl (lv_at hl 1 rfl) ?_
  refine lv_sipush (v := 320) hx hb dX11_goesTo_1 (by decide) ?_
  refine lv_iload_n hx hb dX11_goesTo_4 rfl (lv_at hl 2 rfl) ?_
  refine lv_iadd hx hb dX11_goesTo_5 ?_
  refine lv_topi (fun v1 e1 => ?_)
  have i1 : Iv v1 320 325 := iv_add e1 (⟨by decide, by decide⟩ : Iv 320 320 320) ia2 (by decide)
  have x1 : v1.toInt = a2.toInt + 320 := (ex_add e1 (⟨by decide, by decide⟩ : Iv 320 320 320) ia2 (by decide)).trans (Int.add_comm _ _)
  refine o_iald cx hw ha1 (by decide) rfl (iv_in i1 (by decide)) dX11_goesTo_6 (fun v2 e2 b2 => ?_)
  have i2 : Iv v2 0 63 := rb_now b2 i1 (by decide)
  refine lv_istore_n (lv' := [(3, .int v2), (0, .ref a0), (1, .ref a1), (2, .int a2)]) hx hb dX11_goesTo_7 rfl hl (by decide) rfl (fun ls hl => ?_)
  refine lv_aload_n hx hb dX11_goesTo_8 rfl (lv_at hl 1 rfl) ?_
  refine g_649 cx hw ha0 k_f_X11_161 dX11_goesTo_9 (fun v3 e3 => ?_)
  refine lv_i2l hx hb dX11_goesTo_12 rfl ?_
  refine lv_topl (fun v4 e4 => ?_)
  refine lv_iload_n hx hb dX11_goesTo_13 rfl (lv_at hl 3 rfl) ?_
  refine o_ci hw (oRunS cx hA hw q_X11_has k_m_X11_215 (As := [.long v4, .int a2]) (c_X11_has v4 a2) (by decide) rfl hl.1 rfl (Nat.le_of_ble_eq_true rfl) dX11_goesTo_14 (by decide)) (fun v6 σ5 H locs hp hw => ?_)
  obtain ⟨p6_0, p6_1, p6_2⟩ := hp
  rw [p6_0] at hw
  have J_33 : ∀ (H : Heap) (locs : List Loc), oI A L τ cy D s.heap σ H locs → ∀ (ls : Array Slot), lv_has ls 9 [(0, .ref a0), (1, .ref a1), (2, .int a2), (3, .int v2)] → W p l e ({ frames := 339, cells := 0, slots := 0, locals := 8520 } : Room) s m args below meth c H locs 0 0 Q (F0 m 33 ls []) := by
    intro  H locs hw     ls hl
    refine lv_iload_n hx hb dX11_goesTo_33 rfl (lv_at hl 3 rfl) ?_
    refine lv_istore (lv' := [(4, .int v2), (0, .ref a0), (1, .ref a1), (2, .int a2), (3, .int v2)]) hx hb dX11_goesTo_34 hl (by decide) rfl (fun ls hl => ?_)
    refine lv_aload_n hx hb dX11_goesTo_36 rfl (lv_at hl 1 rfl) ?_
    refine lv_aload_n hx hb dX11_goesTo_37 rfl (lv_at hl 2 rfl) ?_
    refine lv_iload_n hx hb dX11_goesTo_38 rfl (lv_at hl 3 rfl) ?_
    refine lv_iload_n hx hb dX11_goesTo_39 rfl (lv_at hl 4 rfl) ?_
    refine o_ci hw (oRunV cx hA hw q_X11_pleases k_m_X11_219 rfl ha0 (by decide) (As := [.ref a1, .int a2, .int v2]) (c_X11_pleases a0 ha0 a1 ha1 a2 (iv_w ia2 (by decide)) v2 (iv_w i2 (by decide))) (by decide) rfl hl.1 rfl (Nat.le_of_ble_eq_true rfl) dX11_goesTo_40 (by decide)) (fun v8 σ7 H locs hp hw => ?_)
    have p8_0 := hp
    have fr := oFr_tr fr p8_0 (by decide)
    refine lv_istore (lv' := [(5, .int v8), (4, .int v2), (0, .ref a0), (1, .ref a1), (2, .int a2), (3, .int v2)]) hx hb dX11_goesTo_43 hl (by decide) rfl (fun ls hl => ?_)
    refine lv_iconst (v := 0) hx hb dX11_goesTo_45 (by decide) ?_
    refine lv_istore (lv' := [(6, .int 0), (5, .int v8), (4, .int v2), (0, .ref a0), (1, .ref a1), (2, .int a2), (3, .int v2)]) hx hb dX11_goesTo_46 hl (by decide) rfl (fun ls hl => ?_)
    have frE_48 := fr
    have J_48 : ∀ n48 : Nat, ∀ (j48_4 : Int32) (ij48_4 : Iv j48_4 0 63) (j48_5 : Int32) (j48_6 : Int32) (ij48_6 : Iv j48_6 0 4), ∀ (σ_48 : oSt) (H : Heap) (locs : List Loc), oI A L τ cy D s.heap σ_48 H locs → oFr τ fs_X11_goesTo ts_X11_goesTo σ σ_48 → (4 - j48_6.toInt).toNat < n48 → ∀ (ls : Array Slot), lv_has ls 9 [(0, .ref a0), (1, .ref a1), (2, .int a2), (3, .int v2), (4, .int j48_4), (5, .int j48_5), (6, .int j48_6)] → W p l e ({ frames := 339, cells := 0, slots := 0, locals := 8520 } : Room) s m args below meth c H locs 0 0 Q (F0 m 48 ls []) := by
      intro n48
      induction n48 with
      | zero => intro j48_4 ij48_4 j48_5 j48_6 ij48_6 σ_48 H locs hw fr   hn_48   ls hl; exact absurd hn_48 (Nat.not_lt_zero _)
      | succ n48 ih_48 =>
        intro j48_4 ij48_4 j48_5 j48_6 ij48_6 σ_48 H locs hw fr   hn_48   ls hl
        have fr_48 := fr
        refine lv_iload hx hb dX11_goesTo_48 (lv_at hl 6 rfl) ?_
        refine lv_iconst (v := 4) hx hb dX11_goesTo_50 (by decide) ?_
        refine lv_icmp_ge (tgt := 116) hx hb dX11_goesTo_51 (by decide) (fun c9 => ?_) (fun c9 => ?_)
        · --
          have i10 : Iv j48_6 4 4 := iv_le2 c9 (⟨by decide, by decide⟩ : Iv 4 4 4) ij48_6 (by decide)
          refine lv_iload hx hb dX11_goesTo_116 (lv_at hl 4 rfl) ?_
          rw [← hQ]
          exact o_ri cx rx hw dX11_goesTo_118 ⟨fr, (iv_w ij48_4 (by decide))⟩
        · --
          have i11 : Iv j48_6 0 3 := iv_lt1 (iv_nle c9) ij48_6 (⟨by decide, by decide⟩ : Iv 4 4 4) (by decide)
          refine lv_aload_n hx hb dX11_goesTo_54 rfl (lv_at hl 0 rfl) ?_
          refine lv_iload_n hx hb dX11_goesTo_55 rfl (lv_at hl 3 rfl) ?_
          refine lv_iload hx hb dX11_goesTo_56 (lv_at hl 6 rfl) ?_
          refine o_ci hw (oRunV cx hA hw q_X11_beside k_m_X11_223 rfl ha0 (by decide) (As := [.int v2, .int j48_6]) (c_X11_beside a0 ha0 v2 (iv_w i2 (by decide)) j48_6) (by decide) rfl hl.1 rfl (Nat.le_of_ble_eq_true rfl) dX11_goesTo_58 (by decide)) (fun v13 σ12 H locs hp hw => ?_)
          obtain ⟨p13_0, p13_1, p13_2⟩ := hp
          rw [p13_0] at hw
          refine lv_istore (lv' := [(7, .int v13), (0, .ref a0), (1, .ref a1), (2, .int a2), (3, .int v2), (4, .int j48_4), (5, .int j48_5), (6, .int j48_6)]) hx hb dX11_goesTo_61 hl (by decide) rfl (fun ls hl => ?_)
          refine lv_iload hx hb dX11_goesTo_63 (lv_at hl 0 rfl) ?_
          refine lv_iconst (v := (-1)) hx hb dX11_goesTo_65 (by decide) ?_
          have frE_110 := fr
          have J_110 : ∀ (j110_4 : Int32) (ij110_4 : Iv j110_4 0 63) (j110_5 : Int32), ∀ (σ_110 : oSt) (H : Heap) (locs : List Loc), oI A L τ cy D s.heap σ_110 H locs → oFr τ fs_X11_goesTo ts_X11_goesTo σ σ_110 → ∀ (ls : Array Slot), lv_has ls 9 [(0, .ref a0), (1, .ref a1), (2, .int a2), (3, .int v2), (4, .int j110_4), (5, .int j110_5), (6, .int j48_6), (7, .int v13)] → W p l e ({ frames := 339, cells := 0, slots := 0, locals := 8520 } : Room) s m args below meth c H locs 0 0 Q (F0 m 110 ls []) := by
            intro j110_4 ij110_4 j110_5 σ_110 H locs hw fr      ls hl
            have fr_110 := fr
            obtain ⟨v14, e14⟩ : ∃ y : Int32, y = j48_6 + 1 := ⟨_, rfl⟩
            have i14 : Iv v14 1 4 := iv_add e14 i11 (⟨by decide, by decide⟩ : Iv 1 1 1) (by decide)
            have x14 : v14.toInt = j48_6.toInt + 1 := ex_add e14 i11 (⟨by decide, by decide⟩ : Iv 1 1 1) (by decide)
            refine lv_iinc (v := v14) (lv' := [(6, .int v14), (0, .ref a0), (1, .ref a1), (2, .int a2), (3, .int v2), (4, .int j110_4), (5, .int j110_5), (7, .int v13)]) hx hb dX11_goesTo_110 hl (k := 6) rfl (by rw [e14]; rfl) (by decide) rfl (fun ls hl => ?_)
            refine lv_goto (tgt := 48) hx hb dX11_goesTo_113 (by decide) ?_
            exact ih_48 j110_4 ij110_4 j110_5 v14 (iv_w i14 (by decide)) σ_110 _ _ hw fr (ms_up x14 (by decide) (iv_w (a' := 0) (b' := 4) i14 (by decide)).2 hn_48) _ (lv_sub hl [1, 2, 3, 4, 5, 6, 0] rfl)
          refine lv_icmp_eq (tgt := 110) hx hb dX11_goesTo_66 (by decide) (fun c15 => ?_) (fun c15 => ?_)
          · --
            have i16 : Iv v13 (-1) (-1) := iv_eq1 c15 p13_1 (⟨by decide, by decide⟩ : Iv (-1) (-1) (-1)) (by decide)
            exact J_110 j48_4 ij48_4 j48_5 σ_48 _ _ hw fr _ (lv_sub hl [1, 2, 3, 4, 5, 6, 7, 0] rfl)
          · --
            have i17 : Iv v13 0 63 := iv_ne1 c15 p13_1 (⟨by decide, by decide⟩ : Iv (-1) (-1) (-1)) (by decide)
            refine lv_aload_n hx hb dX11_goesTo_69 rfl (lv_at hl 1 rfl) ?_
            refine lv_aload_n hx hb dX11_goesTo_70 rfl (lv_at hl 2 rfl) ?_
            refine lv_iload hx hb dX11_goesTo_71 (lv_at hl 0 rfl) ?_
            refine o_ci hw (oRunV cx hA hw q_X11_canBe k_m_X11_227 rfl ha0 (by decide) (As := [.ref a1, .int v13]) (c_X11_canBe a0 ha0 a1 ha1 v13 (iv_w i17 (by decide))) (by decide) rfl hl.1 rfl (Nat.le_of_ble_eq_true rfl) dX11_goesTo_73 (by decide)) (fun v19 σ18 H locs hp hw => ?_)
            obtain ⟨p19_0, p19_1⟩ := hp
            rw [p19_0] at hw
            refine lv_if_ne (tgt := 82) hx hb dX11_goesTo_76 (by decide) (fun c20 => ?_) (fun c20 => ?_)
            · --
              have i21 : Iv v19 1 1 := iv_ne1 c20 p19_1 (⟨by decide, by decide⟩ : Iv 0 0 0) (by decide)
              refine lv_aload_n hx hb dX11_goesTo_82 rfl (lv_at hl 1 rfl) ?_
              refine lv_aload_n hx hb dX11_goesTo_83 rfl (lv_at hl 2 rfl) ?_
              refine lv_iload_n hx hb dX11_goesTo_84 rfl (lv_at hl 3 rfl) ?_
              refine lv_iload hx hb dX11_goesTo_85 (lv_at hl 0 rfl) ?_
              refine o_ci hw (oRunV cx hA hw q_X11_pleases k_m_X11_219 rfl ha0 (by decide) (As := [.ref a1, .int a2, .int v13]) (c_X11_pleases a0 ha0 a1 ha1 a2 (iv_w ia2 (by decide)) v13 (iv_w i17 (by decide))) (by decide) rfl hl.1 rfl (Nat.le_of_ble_eq_true rfl) dX11_goesTo_87 (by decide)) (fun v23 σ22 H locs hp hw => ?_)
              have p23_0 := hp
              have fr := oFr_tr fr p23_0 (by decide)
              refine lv_istore (lv' := [(8, .int v23), (7, .int v13), (0, .ref a0), (1, .ref a1), (2, .int a2), (3, .int v2), (4, .int j48_4), (5, .int j48_5), (6, .int j48_6)]) hx hb dX11_goesTo_90 hl (by decide) rfl (fun ls hl => ?_)
              refine lv_iload hx hb dX11_goesTo_92 (lv_at hl 0 rfl) ?_
              refine lv_iload hx hb dX11_goesTo_94 (lv_at hl 7 rfl) ?_
              refine lv_icmp_gt (tgt := 102) hx hb dX11_goesTo_96 (by decide) (fun c24 => ?_) (fun c24 => ?_)
              · --
                have i25 : Iv j48_5 (-2147483648) 2147483646 := iv_lt1 c24 (iv_top j48_5) (iv_top v23) (by decide)
                have i26 : Iv v23 (-2147483647) 2147483647 := iv_lt2 c24 (iv_top j48_5) (iv_top v23) (by decide)
                refine lv_iload hx hb dX11_goesTo_102 (lv_at hl 1 rfl) ?_
                refine lv_istore (lv' := [(4, .int v13), (8, .int v23), (7, .int v13), (0, .ref a0), (1, .ref a1), (2, .int a2), (3, .int v2), (5, .int j48_5), (6, .int j48_6)]) hx hb dX11_goesTo_104 hl (by decide) rfl (fun ls hl => ?_)
                refine lv_iload hx hb dX11_goesTo_106 (lv_at hl 1 rfl) ?_
                refine lv_istore (lv' := [(5, .int v23), (4, .int v13), (8, .int v23), (7, .int v13), (0, .ref a0), (1, .ref a1), (2, .int a2), (3, .int v2), (6, .int j48_6)]) hx hb dX11_goesTo_108 hl (by decide) rfl (fun ls hl => ?_)
                exact J_110 v13 i17 v23 σ22 _ _ hw fr _ (lv_sub hl [4, 5, 6, 7, 1, 0, 8, 3] rfl)
              · --
                refine lv_goto (tgt := 110) hx hb dX11_goesTo_99 (by decide) ?_
                exact J_110 j48_4 ij48_4 j48_5 σ22 _ _ hw fr _ (lv_sub hl [2, 3, 4, 5, 6, 7, 8, 1] rfl)
            · --
              have i27 : Iv v19 0 0 := iv_eq1 c20 p19_1 (⟨by decide, by decide⟩ : Iv 0 0 0) (by decide)
              refine lv_goto (tgt := 110) hx hb dX11_goesTo_79 (by decide) ?_
              exact J_110 j48_4 ij48_4 j48_5 σ_48 _ _ hw fr _ (lv_sub hl [1, 2, 3, 4, 5, 6, 7, 0] rfl)
    exact J_48 _ v2 i2 v8 0 (iv_w (⟨by decide, by decide⟩ : Iv 0 0 0) (by decide)) σ7 _ _ hw fr (Nat.lt_succ_self _) _ (lv_sub hl [3, 4, 5, 6, 2, 1, 0] rfl)
  refine lv_if_eq (tgt := 33) hx hb dX11_goesTo_17 (by decide) (fun c28 => ?_) (fun c28 => ?_)
  · --
    have i29 : Iv v6 0 0 := iv_eq1 c28 p6_1 (⟨by decide, by decide⟩ : Iv 0 0 0) (by decide)
    exact J_33 _ _ hw _ (lv_sub hl [1, 2, 3, 0] rfl)
  · --
    have i30 : Iv v6 1 1 := iv_ne1 c28 p6_1 (⟨by decide, by decide⟩ : Iv 0 0 0) (by decide)
    refine lv_aload_n hx hb dX11_goesTo_20 rfl (lv_at hl 2 rfl) ?_
    refine lv_sipush (v := 333) hx hb dX11_goesTo_21 (by decide) ?_
    refine o_iald cx hw ha1 (by decide) rfl (iv_in (⟨by decide, by decide⟩ : Iv 333 333 333) (by decide)) dX11_goesTo_24 (fun v31 e31 b31 => ?_)
    refine lv_iconst (v := 2) hx hb dX11_goesTo_25 (by decide) ?_
    refine lv_irem hx hb dX11_goesTo_26 (iv_nz (⟨by decide, by decide⟩ : Iv 2 2 2) (by decide)) ?_
    refine lv_topi (fun v32 e32 => ?_)
    have i32 : Iv v32 (-1) 1 := iv_remA e32 (⟨by decide, by decide⟩ : Iv 2 2 2) (by decide)
    refine lv_iconst (v := 1) hx hb dX11_goesTo_27 (by decide) ?_
    refine lv_icmp_ne (tgt := 33) hx hb dX11_goesTo_28 (by decide) (fun c33 => ?_) (fun c33 => ?_)
    · --
      have i34 : Iv v32 (-1) 0 := iv_ne2 c33 i32 (⟨by decide, by decide⟩ : Iv 1 1 1) (by decide)
      exact J_33 _ _ hw _ (lv_sub hl [1, 2, 3, 0] rfl)
    · --
      have i35 : Iv v32 1 1 := iv_eq1 c33 i32 (⟨by decide, by decide⟩ : Iv 1 1 1) (by decide)
      refine lv_iload_n hx hb dX11_goesTo_31 rfl (lv_at hl 0 rfl) ?_
      rw [← hQ]
      exact o_ri cx rx hw dX11_goesTo_32 ⟨fr, (iv_w i2 (by decide))⟩
set_option maxHeartbeats 4000000 in
set_option maxRecDepth 100000 in
theorem c_X11_herdsAt (a0 : Nat) (ha0 : oA L τ a0 10) (a1 : Nat) (ha1 : oA L τ a1 48) (a2 : Int32) : oMet l A L τ cy D K yX11_herdsAt cX11_herdsAt 5 (some .int) 0 0 [.ref a0, .ref a1, .int a2] σ (va_Qi (fun r σ1 => σ1 = σ ∧ Iv r 0 63 ∧ (r = ha_F (σ.2.2.1 a1) a2 (σ.1 647 a0).toNatClampNeg)) (oPo A L τ cy D) A) := by
  refine oMk (by decide) (Nat.le_of_ble_eq_true rfl) rfl ?_
  intro p e s m args below meth c ls cx rx hA hw hl
  generalize hQ : MQ below _ args s 0 0 A = Q
  have hx := cx.1.1
  have hb := cx.1.2.1
  have hml := cx.1.2.2.1
  have hown := cx.1.2.2.2.1
  have hts := cx.1.2.2.2.2
  have hl : lv_has ls 5 [(0, .ref a0), (1, .ref a1), (2, .int a2)] := hl
  refine lv_iconst (v := 0) hx hb dX11_herdsAt_0 (by decide) ?_
  refine lv_istore_n (lv' := [(3, .int 0), (0, .ref a0), (1, .ref a1), (2, .int a2)]) hx hb dX11_herdsAt_1 rfl hl (by decide) rfl (fun ls hl => ?_)
  refine lv_iconst (v := 0) hx hb dX11_herdsAt_2 (by decide) ?_
  refine lv_istore (lv' := [(4, .int 0), (3, .int 0), (0, .ref a0), (1, .ref a1), (2, .int a2)]) hx hb dX11_herdsAt_3 hl (by decide) rfl (fun ls hl => ?_)
  have J_5 : ∀ n5 : Nat, ∀ (j5_3 : Int32) (ij5_3 : Iv j5_3 0 63) (j5_4 : Int32) (ij5_4 : Iv j5_4 0 6), ∀ (H : Heap) (locs : List Loc), oI A L τ cy D s.heap σ H locs → (6 - j5_4.toInt).toNat < n5 → (j5_3 = ha_F (σ.2.2.1 a1) a2 (j5_4 : Int32).toNatClampNeg) → ((j5_4 : Int32).toInt ≤ (σ.1 647 a0).toInt) → ∀ (ls : Array Slot), lv_has ls 5 [(0, .ref a0), (1, .ref a1), (2, .int a2), (3, .int j5_3), (4, .int j5_4)] → W p l e ({ frames := 0, cells := 0, slots := 0, locals := 0 } : Room) s m args below meth c H locs 0 0 Q (F0 m 5 ls []) := by
    intro n5
    induction n5 with
    | zero => intro j5_3 ij5_3 j5_4 ij5_4 H locs hw  hn_5 hbt hh  ls hl; exact absurd hn_5 (Nat.not_lt_zero _)
    | succ n5 ih_5 =>
      intro j5_3 ij5_3 j5_4 ij5_4 H locs hw  hn_5 hbt hh  ls hl
      refine lv_iload hx hb dX11_herdsAt_5 (lv_at hl 4 rfl) ?_
      refine lv_aload_n hx hb dX11_herdsAt_7 rfl (lv_at hl 0 rfl) ?_
      refine g_647 cx hw ha0 k_f_X11_105 dX11_herdsAt_8 (fun v1 e1 i1 => ?_)
      have z1 : v1.toInt = (σ.1 647 a0).toInt := congrArg Int32.toInt e1
      refine lv_icmp_ge (tgt := 43) hx hb dX11_herdsAt_11 (by decide) (fun c2 => ?_) (fun c2 => ?_)
      · --
        refine lv_iload_n hx hb dX11_herdsAt_43 rfl (lv_at hl 3 rfl) ?_
        rw [← hQ]
        exact o_ri cx rx hw dX11_herdsAt_44 ⟨rfl, (iv_w ij5_3 (by decide)), (by rw [← show j5_4 = σ.1 647 a0 from i32_eq (by have := (ij5_3).1; have := (ij5_3).2; have := (ij5_4).1; have := (ij5_4).2; have := (i1).1; have := (i1).2; have : (σ.1 647 a0).toInt = (v1 : Int32).toInt := congrArg Int32.toInt (show σ.1 647 a0 = v1 from e1.symm); have : (v1 : Int32).toInt ≤ (j5_4 : Int32).toInt := iv_le.mp c2; omega)]; exact hbt)⟩
      · --
        have i3 : Iv j5_4 0 5 := iv_lt1 (iv_nle c2) ij5_4 i1 (by decide)
        have i4 : Iv v1 1 6 := iv_lt2 (iv_nle c2) ij5_4 i1 (by decide)
        refine lv_iload_n hx hb dX11_herdsAt_14 rfl (lv_at hl 3 rfl) ?_
        refine lv_aload_n hx hb dX11_herdsAt_15 rfl (lv_at hl 1 rfl) ?_
        refine lv_sipush (v := 320) hx hb dX11_herdsAt_16 (by decide) ?_
        refine lv_iload hx hb dX11_herdsAt_19 (lv_at hl 4 rfl) ?_
        refine lv_iadd hx hb dX11_herdsAt_21 ?_
        refine lv_topi (fun v5 e5 => ?_)
        have i5 : Iv v5 320 325 := iv_add e5 (⟨by decide, by decide⟩ : Iv 320 320 320) i3 (by decide)
        have x5 : v5.toInt = j5_4.toInt + 320 := (ex_add e5 (⟨by decide, by decide⟩ : Iv 320 320 320) i3 (by decide)).trans (Int.add_comm _ _)
        refine o_iald cx hw ha1 (by decide) rfl (iv_in i5 (by decide)) dX11_herdsAt_22 (fun v6 e6 b6 => ?_)
        have i6 : Iv v6 0 63 := rb_now b6 i5 (by decide)
        have i6 : Iv v6 0 63 := rb_now b6 i5 (by decide)
        refine lv_iload_n hx hb dX11_herdsAt_23 rfl (lv_at hl 2 rfl) ?_
        refine lv_icmp_ne (tgt := 34) hx hb dX11_herdsAt_24 (by decide) (fun c7 => ?_) (fun c7 => ?_)
        · --
          refine lv_iconst (v := 0) hx hb dX11_herdsAt_34 (by decide) ?_
          refine lv_ior hx hb dX11_herdsAt_35 ?_
          refine lv_topi (fun v8 e8 => ?_)
          have i8 : Iv v8 0 63 := iv_or e8 ij5_3 (⟨by decide, by decide⟩ : Iv 0 0 0) 6 (by decide)
          refine lv_istore_n (lv' := [(3, .int v8), (0, .ref a0), (1, .ref a1), (2, .int a2), (4, .int j5_4)]) hx hb dX11_herdsAt_36 rfl hl (by decide) rfl (fun ls hl => ?_)
          obtain ⟨v9, e9⟩ : ∃ y : Int32, y = j5_4 + 1 := ⟨_, rfl⟩
          have i9 : Iv v9 1 6 := iv_add e9 i3 (⟨by decide, by decide⟩ : Iv 1 1 1) (by decide)
          have x9 : v9.toInt = j5_4.toInt + 1 := ex_add e9 i3 (⟨by decide, by decide⟩ : Iv 1 1 1) (by decide)
          refine lv_iinc (v := v9) (lv' := [(4, .int v9), (3, .int v8), (0, .ref a0), (1, .ref a1), (2, .int a2)]) hx hb dX11_herdsAt_37 hl (k := 4) rfl (by rw [e9]; rfl) (by decide) rfl (fun ls hl => ?_)
          refine lv_goto (tgt := 5) hx hb dX11_herdsAt_40 (by decide) ?_
          exact ih_5 v8 i8 v9 (iv_w i9 (by decide)) _ _ hw (ms_up x9 (by decide) (iv_w (a' := 0) (b' := 6) i9 (by decide)).2 hn_5) (ha_step hbt i3 x9 x5 e6 (by rw [if_neg c7]) e8) (by have q9 : Iv (σ.1 647 a0) 0 6 := o_fb (j := 647) hw ha0 rfl; have := q9.1; have := q9.2; have := (i8).1; have := (i8).2; have := (i9).1; have := (i9).2; have := (i4).1; have := (i4).2; have := (i3).1; have := (i3).2; have := (i5).1; have := (i5).2; have := (i6).1; have := (i6).2; have : (σ.1 647 a0).toInt = (v1 : Int32).toInt := congrArg Int32.toInt (show σ.1 647 a0 = v1 from e1.symm); have : (j5_4 : Int32).toInt < (v1 : Int32).toInt := iv_lt.mp (iv_nle c2); have : (v6 : Int32).toInt ≠ (a2 : Int32).toInt := fun q => c7 (Int32.toInt_inj.mp q); omega) _ (lv_sub hl [2, 3, 4, 1, 0] rfl)
        · --
          have i10 : Iv a2 0 63 := iv_eq1 (Eq.symm c7) (iv_top a2) i6 (by decide)
          refine lv_iconst (v := 1) hx hb dX11_herdsAt_27 (by decide) ?_
          refine lv_iload hx hb dX11_herdsAt_28 (lv_at hl 4 rfl) ?_
          refine lv_ishl hx hb dX11_herdsAt_30 ?_
          refine lv_topi (fun v11 e11 => ?_)
          have i11 : Iv v11 1 32 := iv_shl1 e11 i3 (by decide)
          refine lv_goto (tgt := 35) hx hb dX11_herdsAt_31 (by decide) ?_
          refine lv_ior hx hb dX11_herdsAt_35 ?_
          refine lv_topi (fun v12 e12 => ?_)
          have i12 : Iv v12 0 63 := iv_or e12 ij5_3 i11 6 (by decide)
          refine lv_istore_n (lv' := [(3, .int v12), (0, .ref a0), (1, .ref a1), (2, .int a2), (4, .int j5_4)]) hx hb dX11_herdsAt_36 rfl hl (by decide) rfl (fun ls hl => ?_)
          obtain ⟨v13, e13⟩ : ∃ y : Int32, y = j5_4 + 1 := ⟨_, rfl⟩
          have i13 : Iv v13 1 6 := iv_add e13 i3 (⟨by decide, by decide⟩ : Iv 1 1 1) (by decide)
          have x13 : v13.toInt = j5_4.toInt + 1 := ex_add e13 i3 (⟨by decide, by decide⟩ : Iv 1 1 1) (by decide)
          refine lv_iinc (v := v13) (lv' := [(4, .int v13), (3, .int v12), (0, .ref a0), (1, .ref a1), (2, .int a2)]) hx hb dX11_herdsAt_37 hl (k := 4) rfl (by rw [e13]; rfl) (by decide) rfl (fun ls hl => ?_)
          refine lv_goto (tgt := 5) hx hb dX11_herdsAt_40 (by decide) ?_
          exact ih_5 v12 i12 v13 (iv_w i13 (by decide)) _ _ hw (ms_up x13 (by decide) (iv_w (a' := 0) (b' := 6) i13 (by decide)).2 hn_5) (ha_step hbt i3 x13 x5 e6 (by rw [if_pos c7]; exact e11) e12) (by have q9 : Iv (σ.1 647 a0) 0 6 := o_fb (j := 647) hw ha0 rfl; have := q9.1; have := q9.2; have := (i10).1; have := (i10).2; have := (i12).1; have := (i12).2; have := (i13).1; have := (i13).2; have := (i4).1; have := (i4).2; have := (i3).1; have := (i3).2; have := (i5).1; have := (i5).2; have := (i6).1; have := (i6).2; have := (i11).1; have := (i11).2; have : (σ.1 647 a0).toInt = (v1 : Int32).toInt := congrArg Int32.toInt (show σ.1 647 a0 = v1 from e1.symm); have : (j5_4 : Int32).toInt < (v1 : Int32).toInt := iv_lt.mp (iv_nle c2); have : (v6 : Int32).toInt = (a2 : Int32).toInt := congrArg Int32.toInt c7; omega) _ (lv_sub hl [2, 3, 4, 1, 0] rfl)
  exact J_5 _ 0 (iv_w (⟨by decide, by decide⟩ : Iv 0 0 0) (by decide)) 0 (iv_w (⟨by decide, by decide⟩ : Iv 0 0 0) (by decide)) _ _ hw (Nat.lt_succ_self _) rfl (by have q9 : Iv (σ.1 647 a0) 0 6 := o_fb (j := 647) hw ha0 rfl; have := q9.1; have := q9.2; have : (0 : Int32).toInt = 0 := (by decide); omega) _ (lv_sub hl [2, 3, 4, 1, 0] rfl)
abbrev fs_X11_layN : List Nat := []
abbrev ts_X11_layN : List Nat := [48]
set_option maxHeartbeats 4000000 in
set_option maxRecDepth 100000 in
theorem c_X11_layN (a0 : Nat) (ha0 : oA L τ a0 48) (a1 : Nat) (ha1 : oA L τ a1 48) (a2 : Int32) (ia2 : Iv a2 0 0) : oMet l A L τ cy D K yX11_lay cX11_lay 4 none 0 0 [.ref a0, .ref a1, .int a2] σ (va_Qv (fun σ1 => oFr τ fs_X11_layN ts_X11_layN σ σ1) (oPo A L τ cy D) A) := by
  refine oMk (by decide) (Nat.le_of_ble_eq_true rfl) rfl ?_
  intro p e s m args below meth c ls cx rx hA hw hl
  generalize hQ : MQ below _ args s 0 0 A = Q
  have hx := cx.1.1
  have hb := cx.1.2.1
  have hml := cx.1.2.2.1
  have hown := cx.1.2.2.2.1
  have hts := cx.1.2.2.2.2
  have hl : lv_has ls 4 [(0, .ref a0), (1, .ref a1), (2, .int a2)] := hl
  have fr : oFr τ fs_X11_layN ts_X11_layN σ σ := oFr_rf
  refine lv_iconst (v := 0) hx hb dX11_lay_0 (by decide) ?_
  refine lv_istore_n (lv' := [(3, .int 0), (0, .ref a0), (1, .ref a1), (2, .int a2)]) hx hb dX11_lay_1 rfl hl (by decide) rfl (fun ls hl => ?_)
  have frE_2 := fr
  have J_2 : ∀ n2 : Nat, ∀ (j2_3 : Int32) (ij2_3 : Iv j2_3 0 334), ∀ (σ_2 : oSt) (H : Heap) (locs : List Loc), oI A L τ cy D s.heap σ_2 H locs → oFr τ fs_X11_layN ts_X11_layN σ σ_2 → (334 - j2_3.toInt).toNat < n2 → ∀ (ls : Array Slot), lv_has ls 4 [(0, .ref a0), (1, .ref a1), (2, .int a2), (3, .int j2_3)] → W p l e ({ frames := 0, cells := 0, slots := 0, locals := 0 } : Room) s m args below meth c H locs 0 0 Q (F0 m 2 ls []) := by
    intro n2
    induction n2 with
    | zero => intro j2_3 ij2_3 σ_2 H locs hw fr   hn_2   ls hl; exact absurd hn_2 (Nat.not_lt_zero _)
    | succ n2 ih_2 =>
      intro j2_3 ij2_3 σ_2 H locs hw fr   hn_2   ls hl
      have fr_2 := fr
      refine lv_iload_n hx hb dX11_lay_2 rfl (lv_at hl 3 rfl) ?_
      refine lv_sipush (v := 334) hx hb dX11_lay_3 (by decide) ?_
      refine lv_icmp_ge (tgt := 23) hx hb dX11_lay_6 (by decide) (fun c1 => ?_) (fun c1 => ?_)
      · --
        have i2 : Iv j2_3 334 334 := iv_le2 c1 (⟨by decide, by decide⟩ : Iv 334 334 334) ij2_3 (by decide)
        rw [← hQ]
        exact o_rv cx rx hw dX11_lay_23 fr
      · --
        have i3 : Iv j2_3 0 333 := iv_lt1 (iv_nle c1) ij2_3 (⟨by decide, by decide⟩ : Iv 334 334 334) (by decide)
        refine lv_aload_n hx hb dX11_lay_9 rfl (lv_at hl 1 rfl) ?_
        refine lv_iload_n hx hb dX11_lay_10 rfl (lv_at hl 2 rfl) ?_
        refine lv_iload_n hx hb dX11_lay_11 rfl (lv_at hl 3 rfl) ?_
        refine lv_iadd hx hb dX11_lay_12 ?_
        refine lv_topi (fun v4 e4 => ?_)
        have i4 : Iv v4 0 333 := iv_add e4 ia2 i3 (by decide)
        have x4 : v4.toInt = a2.toInt + j2_3.toInt := ex_add e4 ia2 i3 (by decide)
        refine lv_aload_n hx hb dX11_lay_13 rfl (lv_at hl 0 rfl) ?_
        refine lv_iload_n hx hb dX11_lay_14 rfl (lv_at hl 3 rfl) ?_
        refine o_iald cx hw ha0 (by decide) rfl (iv_in i3 (by decide)) dX11_lay_15 (fun v5 e5 b5 => ?_)
        refine o_iast cx hw ha1 (by decide) rfl (iv_in i4 (by decide)) (rb_nn i4 i3 (by decide) b5 (by have q := ex_add e4 ia2 i3 (by decide); have q2 := ia2.1; have q3 := ia2.2; omega)) dX11_lay_16 (fun σ6 H locs eσ6 hw => ?_)
        have fr := oFr_p fr eσ6 ha1 (by decide)
        obtain ⟨v7, e7⟩ : ∃ y : Int32, y = j2_3 + 1 := ⟨_, rfl⟩
        have i7 : Iv v7 1 334 := iv_add e7 i3 (⟨by decide, by decide⟩ : Iv 1 1 1) (by decide)
        have x7 : v7.toInt = j2_3.toInt + 1 := ex_add e7 i3 (⟨by decide, by decide⟩ : Iv 1 1 1) (by decide)
        refine lv_iinc (v := v7) (lv' := [(3, .int v7), (0, .ref a0), (1, .ref a1), (2, .int a2)]) hx hb dX11_lay_17 hl (k := 3) rfl (by rw [e7]; rfl) (by decide) rfl (fun ls hl => ?_)
        refine lv_goto (tgt := 2) hx hb dX11_lay_20 (by decide) ?_
        exact ih_2 v7 (iv_w i7 (by decide)) σ6 _ _ hw fr (ms_up x7 (by decide) (iv_w (a' := 0) (b' := 334) i7 (by decide)).2 hn_2) _ (lv_sub hl [1, 2, 3, 0] rfl)
  exact J_2 _ 0 (iv_w (⟨by decide, by decide⟩ : Iv 0 0 0) (by decide)) σ _ _ hw fr (Nat.lt_succ_self _) _ (lv_sub hl [1, 2, 3, 0] rfl)
abbrev fs_X11_layU : List Nat := []
abbrev ts_X11_layU : List Nat := [56]
set_option maxHeartbeats 4000000 in
set_option maxRecDepth 100000 in
theorem c_X11_layU (a0 : Nat) (ha0 : oA L τ a0 48) (a1 : Nat) (ha1 : oA L τ a1 56) (a2 : Int32) (ia2 : Iv a2 0 3006) (hk : a2.toInt % 334 = 0) : oMet l A L τ cy D K yX11_lay cX11_lay 4 none 0 0 [.ref a0, .ref a1, .int a2] σ (va_Qv (fun σ1 => oFr τ fs_X11_layU ts_X11_layU σ σ1) (oPo A L τ cy D) A) := by
  refine oMk (by decide) (Nat.le_of_ble_eq_true rfl) rfl ?_
  intro p e s m args below meth c ls cx rx hA hw hl
  generalize hQ : MQ below _ args s 0 0 A = Q
  have hx := cx.1.1
  have hb := cx.1.2.1
  have hml := cx.1.2.2.1
  have hown := cx.1.2.2.2.1
  have hts := cx.1.2.2.2.2
  have hl : lv_has ls 4 [(0, .ref a0), (1, .ref a1), (2, .int a2)] := hl
  have fr : oFr τ fs_X11_layU ts_X11_layU σ σ := oFr_rf
  refine lv_iconst (v := 0) hx hb dX11_lay_0 (by decide) ?_
  refine lv_istore_n (lv' := [(3, .int 0), (0, .ref a0), (1, .ref a1), (2, .int a2)]) hx hb dX11_lay_1 rfl hl (by decide) rfl (fun ls hl => ?_)
  have frE_2 := fr
  have J_2 : ∀ n2 : Nat, ∀ (j2_3 : Int32) (ij2_3 : Iv j2_3 0 334), ∀ (σ_2 : oSt) (H : Heap) (locs : List Loc), oI A L τ cy D s.heap σ_2 H locs → oFr τ fs_X11_layU ts_X11_layU σ σ_2 → (334 - j2_3.toInt).toNat < n2 → ∀ (ls : Array Slot), lv_has ls 4 [(0, .ref a0), (1, .ref a1), (2, .int a2), (3, .int j2_3)] → W p l e ({ frames := 0, cells := 0, slots := 0, locals := 0 } : Room) s m args below meth c H locs 0 0 Q (F0 m 2 ls []) := by
    intro n2
    induction n2 with
    | zero => intro j2_3 ij2_3 σ_2 H locs hw fr   hn_2   ls hl; exact absurd hn_2 (Nat.not_lt_zero _)
    | succ n2 ih_2 =>
      intro j2_3 ij2_3 σ_2 H locs hw fr   hn_2   ls hl
      have fr_2 := fr
      refine lv_iload_n hx hb dX11_lay_2 rfl (lv_at hl 3 rfl) ?_
      refine lv_sipush (v := 334) hx hb dX11_lay_3 (by decide) ?_
      refine lv_icmp_ge (tgt := 23) hx hb dX11_lay_6 (by decide) (fun c1 => ?_) (fun c1 => ?_)
      · --
        have i2 : Iv j2_3 334 334 := iv_le2 c1 (⟨by decide, by decide⟩ : Iv 334 334 334) ij2_3 (by decide)
        rw [← hQ]
        exact o_rv cx rx hw dX11_lay_23 fr
      · --
        have i3 : Iv j2_3 0 333 := iv_lt1 (iv_nle c1) ij2_3 (⟨by decide, by decide⟩ : Iv 334 334 334) (by decide)
        refine lv_aload_n hx hb dX11_lay_9 rfl (lv_at hl 1 rfl) ?_
        refine lv_iload_n hx hb dX11_lay_10 rfl (lv_at hl 2 rfl) ?_
        refine lv_iload_n hx hb dX11_lay_11 rfl (lv_at hl 3 rfl) ?_
        refine lv_iadd hx hb dX11_lay_12 ?_
        refine lv_topi (fun v4 e4 => ?_)
        have i4 : Iv v4 0 3339 := iv_add e4 ia2 i3 (by decide)
        have x4 : v4.toInt = a2.toInt + j2_3.toInt := ex_add e4 ia2 i3 (by decide)
        refine lv_aload_n hx hb dX11_lay_13 rfl (lv_at hl 0 rfl) ?_
        refine lv_iload_n hx hb dX11_lay_14 rfl (lv_at hl 3 rfl) ?_
        refine o_iald cx hw ha0 (by decide) rfl (iv_in i3 (by decide)) dX11_lay_15 (fun v5 e5 b5 => ?_)
        refine o_iast cx hw ha1 (by decide) rfl (iv_in i4 (by decide)) (rb_pc i4 i3 (by decide) b5 (by have q := ex_add e4 ia2 i3 (by decide); have q2 := (i3).1; have q3 := (i3).2; omega)) dX11_lay_16 (fun σ6 H locs eσ6 hw => ?_)
        have fr := oFr_p fr eσ6 ha1 (by decide)
        obtain ⟨v7, e7⟩ : ∃ y : Int32, y = j2_3 + 1 := ⟨_, rfl⟩
        have i7 : Iv v7 1 334 := iv_add e7 i3 (⟨by decide, by decide⟩ : Iv 1 1 1) (by decide)
        have x7 : v7.toInt = j2_3.toInt + 1 := ex_add e7 i3 (⟨by decide, by decide⟩ : Iv 1 1 1) (by decide)
        refine lv_iinc (v := v7) (lv' := [(3, .int v7), (0, .ref a0), (1, .ref a1), (2, .int a2)]) hx hb dX11_lay_17 hl (k := 3) rfl (by rw [e7]; rfl) (by decide) rfl (fun ls hl => ?_)
        refine lv_goto (tgt := 2) hx hb dX11_lay_20 (by decide) ?_
        exact ih_2 v7 (iv_w i7 (by decide)) σ6 _ _ hw fr (ms_up x7 (by decide) (iv_w (a' := 0) (b' := 334) i7 (by decide)).2 hn_2) _ (lv_sub hl [1, 2, 3, 0] rfl)
  exact J_2 _ 0 (iv_w (⟨by decide, by decide⟩ : Iv 0 0 0) (by decide)) σ _ _ hw fr (Nat.lt_succ_self _) _ (lv_sub hl [1, 2, 3, 0] rfl)
abbrev fs_X11_layK : List Nat := []
abbrev ts_X11_layK : List Nat := [59]
set_option maxHeartbeats 4000000 in
set_option maxRecDepth 100000 in
theorem c_X11_layK (a0 : Nat) (ha0 : oA L τ a0 48) (a1 : Nat) (ha1 : oA L τ a1 59) (a2 : Int32) (ia2 : Iv a2 0 334) (hk : a2.toInt % 334 = 0) : oMet l A L τ cy D K yX11_lay cX11_lay 4 none 0 0 [.ref a0, .ref a1, .int a2] σ (va_Qv (fun σ1 => oFr τ fs_X11_layK ts_X11_layK σ σ1) (oPo A L τ cy D) A) := by
  refine oMk (by decide) (Nat.le_of_ble_eq_true rfl) rfl ?_
  intro p e s m args below meth c ls cx rx hA hw hl
  generalize hQ : MQ below _ args s 0 0 A = Q
  have hx := cx.1.1
  have hb := cx.1.2.1
  have hml := cx.1.2.2.1
  have hown := cx.1.2.2.2.1
  have hts := cx.1.2.2.2.2
  have hl : lv_has ls 4 [(0, .ref a0), (1, .ref a1), (2, .int a2)] := hl
  have fr : oFr τ fs_X11_layK ts_X11_layK σ σ := oFr_rf
  refine lv_iconst (v := 0) hx hb dX11_lay_0 (by decide) ?_
  refine lv_istore_n (lv' := [(3, .int 0), (0, .ref a0), (1, .ref a1), (2, .int a2)]) hx hb dX11_lay_1 rfl hl (by decide) rfl (fun ls hl => ?_)
  have frE_2 := fr
  have J_2 : ∀ n2 : Nat, ∀ (j2_3 : Int32) (ij2_3 : Iv j2_3 0 334), ∀ (σ_2 : oSt) (H : Heap) (locs : List Loc), oI A L τ cy D s.heap σ_2 H locs → oFr τ fs_X11_layK ts_X11_layK σ σ_2 → (334 - j2_3.toInt).toNat < n2 → ∀ (ls : Array Slot), lv_has ls 4 [(0, .ref a0), (1, .ref a1), (2, .int a2), (3, .int j2_3)] → W p l e ({ frames := 0, cells := 0, slots := 0, locals := 0 } : Room) s m args below meth c H locs 0 0 Q (F0 m 2 ls []) := by
    intro n2
    induction n2 with
    | zero => intro j2_3 ij2_3 σ_2 H locs hw fr   hn_2   ls hl; exact absurd hn_2 (Nat.not_lt_zero _)
    | succ n2 ih_2 =>
      intro j2_3 ij2_3 σ_2 H locs hw fr   hn_2   ls hl
      have fr_2 := fr
      refine lv_iload_n hx hb dX11_lay_2 rfl (lv_at hl 3 rfl) ?_
      refine lv_sipush (v := 334) hx hb dX11_lay_3 (by decide) ?_
      refine lv_icmp_ge (tgt := 23) hx hb dX11_lay_6 (by decide) (fun c1 => ?_) (fun c1 => ?_)
      · --
        have i2 : Iv j2_3 334 334 := iv_le2 c1 (⟨by decide, by decide⟩ : Iv 334 334 334) ij2_3 (by decide)
        rw [← hQ]
        exact o_rv cx rx hw dX11_lay_23 fr
      · --
        have i3 : Iv j2_3 0 333 := iv_lt1 (iv_nle c1) ij2_3 (⟨by decide, by decide⟩ : Iv 334 334 334) (by decide)
        refine lv_aload_n hx hb dX11_lay_9 rfl (lv_at hl 1 rfl) ?_
        refine lv_iload_n hx hb dX11_lay_10 rfl (lv_at hl 2 rfl) ?_
        refine lv_iload_n hx hb dX11_lay_11 rfl (lv_at hl 3 rfl) ?_
        refine lv_iadd hx hb dX11_lay_12 ?_
        refine lv_topi (fun v4 e4 => ?_)
        have i4 : Iv v4 0 667 := iv_add e4 ia2 i3 (by decide)
        have x4 : v4.toInt = a2.toInt + j2_3.toInt := ex_add e4 ia2 i3 (by decide)
        refine lv_aload_n hx hb dX11_lay_13 rfl (lv_at hl 0 rfl) ?_
        refine lv_iload_n hx hb dX11_lay_14 rfl (lv_at hl 3 rfl) ?_
        refine o_iald cx hw ha0 (by decide) rfl (iv_in i3 (by decide)) dX11_lay_15 (fun v5 e5 b5 => ?_)
        refine o_iast cx hw ha1 (by decide) rfl (iv_in i4 (by decide)) (rb_pc i4 i3 (by decide) b5 (by have q := ex_add e4 ia2 i3 (by decide); have q2 := (i3).1; have q3 := (i3).2; omega)) dX11_lay_16 (fun σ6 H locs eσ6 hw => ?_)
        have fr := oFr_p fr eσ6 ha1 (by decide)
        obtain ⟨v7, e7⟩ : ∃ y : Int32, y = j2_3 + 1 := ⟨_, rfl⟩
        have i7 : Iv v7 1 334 := iv_add e7 i3 (⟨by decide, by decide⟩ : Iv 1 1 1) (by decide)
        have x7 : v7.toInt = j2_3.toInt + 1 := ex_add e7 i3 (⟨by decide, by decide⟩ : Iv 1 1 1) (by decide)
        refine lv_iinc (v := v7) (lv' := [(3, .int v7), (0, .ref a0), (1, .ref a1), (2, .int a2)]) hx hb dX11_lay_17 hl (k := 3) rfl (by rw [e7]; rfl) (by decide) rfl (fun ls hl => ?_)
        refine lv_goto (tgt := 2) hx hb dX11_lay_20 (by decide) ?_
        exact ih_2 v7 (iv_w i7 (by decide)) σ6 _ _ hw fr (ms_up x7 (by decide) (iv_w (a' := 0) (b' := 334) i7 (by decide)).2 hn_2) _ (lv_sub hl [1, 2, 3, 0] rfl)
  exact J_2 _ 0 (iv_w (⟨by decide, by decide⟩ : Iv 0 0 0) (by decide)) σ _ _ hw fr (Nat.lt_succ_self _) _ (lv_sub hl [1, 2, 3, 0] rfl)
abbrev fs_X11_remember : List Nat := [672]
abbrev ts_X11_remember : List Nat := [56]
set_option maxHeartbeats 4000000 in
set_option maxRecDepth 100000 in
theorem c_X11_remember (a0 : Nat) (ha0 : oA L τ a0 10) (a1 : Nat) (ha1 : oA L τ a1 48) : oMet l A L τ cy D K yX11_remember cX11_remember 3 none 1 23 [.ref a0, .ref a1] σ (va_Qv (fun σ1 => oFr τ fs_X11_remember ts_X11_remember σ σ1) (oPo A L τ cy D) A) := by
  refine oMk (by decide) (Nat.le_of_ble_eq_true rfl) rfl ?_
  intro p e s m args below meth c ls cx rx hA hw hl
  generalize hQ : MQ below _ args s 0 0 A = Q
  have hx := cx.1.1
  have hb := cx.1.2.1
  have hml := cx.1.2.2.1
  have hown := cx.1.2.2.2.1
  have hts := cx.1.2.2.2.2
  have hl : lv_has ls 3 [(0, .ref a0), (1, .ref a1)] := hl
  have fr : oFr τ fs_X11_remember ts_X11_remember σ σ := oFr_rf
  refine lv_aload_n hx hb dX11_remember_0 rfl (lv_at hl 0 rfl) ?_
  refine g_672 cx hw ha0 k_f_X11_168 dX11_remember_1 (fun v1 e1 i1 => ?_)
  refine lv_bipush (v := 10) hx hb dX11_remember_4 (by decide) ?_
  have frE_50 := fr
  have J_50 : ∀ (σ_50 : oSt) (H : Heap) (locs : List Loc), oI A L τ cy D s.heap σ_50 H locs → oFr τ fs_X11_remember ts_X11_remember σ σ_50 → Iv (σ_50.1 672 a0) 0 9 → ∀ (ls : Array Slot), lv_has ls 3 [(0, .ref a0), (1, .ref a1)] → W p l e ({ frames := 1, cells := 0, slots := 0, locals := 23 } : Room) s m args below meth c H locs 0 0 Q (F0 m 50 ls []) := by
    intro  σ_50 H locs hw fr f50_672_a0     ls hl
    have fr_50 := fr
    refine lv_aload_n hx hb dX11_remember_50 rfl (lv_at hl 1 rfl) ?_
    refine lv_aload_n hx hb dX11_remember_51 rfl (lv_at hl 0 rfl) ?_
    refine g_671 cx hw ha0 k_f_X11_55 dX11_remember_52 (fun v2 e2 h2 => ?_)
    refine lv_sipush (v := 334) hx hb dX11_remember_55 (by decide) ?_
    refine lv_aload_n hx hb dX11_remember_58 rfl (lv_at hl 0 rfl) ?_
    refine g_672 cx hw ha0 k_f_X11_168 dX11_remember_59 (fun v3 e3 i3 => ?_)
    rw [show v3 = (σ_50.1 672 a0) from e3.trans rfl]
    refine lv_imul hx hb dX11_remember_62 ?_
    refine lv_topi (fun v4 e4 => ?_)
    have i4 : Iv v4 0 3006 := iv_mul e4 (⟨by decide, by decide⟩ : Iv 334 334 334) f50_672_a0 (by decide)
    refine o_cv hw (oRunS cx hA hw q_X11_lay k_m_X11_251 (As := [.ref a1, .ref v2, .int v4]) (c_X11_layU a1 ha1 v2 h2 v4 (iv_w i4 (by decide)) (by have q2 := ex_mul e4 (⟨by decide, by decide⟩ : Iv 334 334 334) f50_672_a0 (by decide); have q3 : (334 : Int32).toInt = 334 := (by decide); rw [q3] at q2; omega)) (by decide) rfl hl.1 rfl (Nat.le_of_ble_eq_true rfl) dX11_remember_63 (by decide)) (fun σ5 H locs hp hw => ?_)
    have p6_0 := hp
    have fr := oFr_tr fr p6_0 (by decide)
    refine lv_aload_n hx hb dX11_remember_66 rfl (lv_at hl 0 rfl) ?_
    refine lv_dup hx hb dX11_remember_67 rfl ?_
    refine g_672 cx hw ha0 k_f_X11_168 dX11_remember_68 (fun v7 e7 i7 => ?_)
    rw [show v7 = (σ_50.1 672 a0) from e7.trans ((kp_c p6_0 (by decide)).trans rfl)]
    refine lv_iconst (v := 1) hx hb dX11_remember_71 (by decide) ?_
    refine lv_iadd hx hb dX11_remember_72 ?_
    refine lv_topi (fun v8 e8 => ?_)
    have i8 : Iv v8 1 10 := iv_add e8 f50_672_a0 (⟨by decide, by decide⟩ : Iv 1 1 1) (by decide)
    have x8 : v8.toInt = (σ_50.1 672 a0).toInt + 1 := ex_add e8 f50_672_a0 (⟨by decide, by decide⟩ : Iv 1 1 1) (by decide)
    refine p_672 cx hw ha0 (iv_w i8 (by decide)) k_f_X11_168 dX11_remember_73 (fun σ9 H locs eσ9 hw => ?_)
    have fr := oFr_i fr eσ9 (by decide)
    rw [← hQ]
    exact o_rv cx rx hw dX11_remember_76 fr
  refine lv_icmp_ne (tgt := 50) hx hb dX11_remember_6 (by decide) (fun c10 => ?_) (fun c10 => ?_)
  · --
    have i11 : Iv v1 0 9 := iv_ne2 c10 i1 (⟨by decide, by decide⟩ : Iv 10 10 10) (by decide)
    exact J_50 σ _ _ hw fr (kn_iv (e1.symm) (iv_w i11 (by decide))) _ (lv_sub hl [0, 1] rfl)
  · --
    have i12 : Iv v1 10 10 := iv_eq1 c10 i1 (⟨by decide, by decide⟩ : Iv 10 10 10) (by decide)
    refine lv_iconst (v := 0) hx hb dX11_remember_9 (by decide) ?_
    refine lv_istore_n (lv' := [(2, .int 0), (0, .ref a0), (1, .ref a1)]) hx hb dX11_remember_10 rfl hl (by decide) rfl (fun ls hl => ?_)
    have frE_11 := fr
    have J_11 : ∀ n11 : Nat, ∀ (j11_2 : Int32) (ij11_2 : Iv j11_2 0 3006), ∀ (σ_11 : oSt) (H : Heap) (locs : List Loc), oI A L τ cy D s.heap σ_11 H locs → oFr τ fs_X11_remember ts_X11_remember σ σ_11 → Iv (σ_11.1 672 a0) 10 10 → (3006 - j11_2.toInt).toNat < n11 → ∀ (ls : Array Slot), lv_has ls 3 [(0, .ref a0), (1, .ref a1), (2, .int j11_2)] → W p l e ({ frames := 1, cells := 0, slots := 0, locals := 23 } : Room) s m args below meth c H locs 0 0 Q (F0 m 11 ls []) := by
      intro n11
      induction n11 with
      | zero => intro j11_2 ij11_2 σ_11 H locs hw fr f11_672_a0  hn_11   ls hl; exact absurd hn_11 (Nat.not_lt_zero _)
      | succ n11 ih_11 =>
        intro j11_2 ij11_2 σ_11 H locs hw fr f11_672_a0  hn_11   ls hl
        have fr_11 := fr
        refine lv_iload_n hx hb dX11_remember_11 rfl (lv_at hl 2 rfl) ?_
        refine lv_sipush (v := 3006) hx hb dX11_remember_12 (by decide) ?_
        refine lv_icmp_ge (tgt := 40) hx hb dX11_remember_15 (by decide) (fun c13 => ?_) (fun c13 => ?_)
        · --
          have i14 : Iv j11_2 3006 3006 := iv_le2 c13 (⟨by decide, by decide⟩ : Iv 3006 3006 3006) ij11_2 (by decide)
          refine lv_aload_n hx hb dX11_remember_40 rfl (lv_at hl 0 rfl) ?_
          refine lv_dup hx hb dX11_remember_41 rfl ?_
          refine g_672 cx hw ha0 k_f_X11_168 dX11_remember_42 (fun v15 e15 i15 => ?_)
          rw [show v15 = (σ_11.1 672 a0) from e15.trans rfl]
          refine lv_iconst (v := 1) hx hb dX11_remember_45 (by decide) ?_
          refine lv_isub hx hb dX11_remember_46 ?_
          refine lv_topi (fun v16 e16 => ?_)
          have i16 : Iv v16 9 9 := iv_sub e16 f11_672_a0 (⟨by decide, by decide⟩ : Iv 1 1 1) (by decide)
          have x16 : v16.toInt = (σ_11.1 672 a0).toInt + (-1) := ex_sub e16 f11_672_a0 (⟨by decide, by decide⟩ : Iv 1 1 1) (by decide)
          refine p_672 cx hw ha0 (iv_w i16 (by decide)) k_f_X11_168 dX11_remember_47 (fun σ17 H locs eσ17 hw => ?_)
          have fr := oFr_i fr eσ17 (by decide)
          exact J_50 σ17 _ _ hw fr (kn_iv ((kp_s eσ17)) (iv_w i16 (by decide))) _ (lv_sub hl [0, 1] rfl)
        · --
          have i18 : Iv j11_2 0 3005 := iv_lt1 (iv_nle c13) ij11_2 (⟨by decide, by decide⟩ : Iv 3006 3006 3006) (by decide)
          refine lv_aload_n hx hb dX11_remember_18 rfl (lv_at hl 0 rfl) ?_
          refine g_671 cx hw ha0 k_f_X11_55 dX11_remember_19 (fun v19 e19 h19 => ?_)
          refine lv_iload_n hx hb dX11_remember_22 rfl (lv_at hl 2 rfl) ?_
          refine lv_aload_n hx hb dX11_remember_23 rfl (lv_at hl 0 rfl) ?_
          refine g_671 cx hw ha0 k_f_X11_55 dX11_remember_24 (fun v20 e20 h20 => ?_)
          rw [show v20 = v19 from Option.some.inj (e20.symm.trans (e19))]
          refine lv_iload_n hx hb dX11_remember_27 rfl (lv_at hl 2 rfl) ?_
          refine lv_sipush (v := 334) hx hb dX11_remember_28 (by decide) ?_
          refine lv_iadd hx hb dX11_remember_31 ?_
          refine lv_topi (fun v21 e21 => ?_)
          have i21 : Iv v21 334 3339 := iv_add e21 i18 (⟨by decide, by decide⟩ : Iv 334 334 334) (by decide)
          have x21 : v21.toInt = j11_2.toInt + 334 := ex_add e21 i18 (⟨by decide, by decide⟩ : Iv 334 334 334) (by decide)
          refine o_iald cx hw h19 (by decide) rfl (iv_in i21 (by decide)) dX11_remember_32 (fun v22 e22 b22 => ?_)
          refine o_iast cx hw h19 (by decide) rfl (iv_in i18 (by decide)) (rb_pp i18 i21 (by decide) b22 (by rw [x21]; omega)) dX11_remember_33 (fun σ23 H locs eσ23 hw => ?_)
          have fr := oFr_p fr eσ23 h19 (by decide)
          obtain ⟨v24, e24⟩ : ∃ y : Int32, y = j11_2 + 1 := ⟨_, rfl⟩
          have i24 : Iv v24 1 3006 := iv_add e24 i18 (⟨by decide, by decide⟩ : Iv 1 1 1) (by decide)
          have x24 : v24.toInt = j11_2.toInt + 1 := ex_add e24 i18 (⟨by decide, by decide⟩ : Iv 1 1 1) (by decide)
          refine lv_iinc (v := v24) (lv' := [(2, .int v24), (0, .ref a0), (1, .ref a1)]) hx hb dX11_remember_34 hl (k := 2) rfl (by rw [e24]; rfl) (by decide) rfl (fun ls hl => ?_)
          refine lv_goto (tgt := 11) hx hb dX11_remember_37 (by decide) ?_
          exact ih_11 v24 (iv_w i24 (by decide)) σ23 _ _ hw fr (kn_iv (((kp_p eσ23).trans rfl)) (iv_w f11_672_a0 (by decide))) (ms_up x24 (by decide) (iv_w (a' := 0) (b' := 3006) i24 (by decide)).2 hn_11) _ (lv_sub hl [1, 2, 0] rfl)
    exact J_11 _ 0 (iv_w (⟨by decide, by decide⟩ : Iv 0 0 0) (by decide)) σ _ _ hw fr (kn_iv (e1.symm) (iv_w i12 (by decide))) (Nat.lt_succ_self _) _ (lv_sub hl [1, 2, 0] rfl)
set_option maxHeartbeats 4000000 in
set_option maxRecDepth 100000 in
theorem c_X11_refusesLay (a0 : Nat) (ha0 : oA L τ a0 10) (a1 : Int32) (a2 : Int32) : oMet l A L τ cy D K yX11_refusesLay cX11_refusesLay 3 (some .int) 2 43 [.ref a0, .int a1, .int a2] σ (va_Qi (fun r σ1 => σ1 = σ ∧ Iv r (-2) 0 ∧ (0 ≤ r → Iv a1 0 63)) (oPo A L τ cy D) A) := by
  refine oMk (by decide) (Nat.le_of_ble_eq_true rfl) rfl ?_
  intro p e s m args below meth c ls cx rx hA hw hl
  generalize hQ : MQ below _ args s 0 0 A = Q
  have hx := cx.1.1
  have hb := cx.1.2.1
  have hml := cx.1.2.2.1
  have hown := cx.1.2.2.2.1
  have hts := cx.1.2.2.2.2
  have hl : lv_has ls 3 [(0, .ref a0), (1, .int a1), (2, .int a2)] := hl
  refine lv_aload_n hx hb dX11_refusesLay_0 rfl (lv_at hl 0 rfl) ?_
  refine lv_iload_n hx hb dX11_refusesLay_1 rfl (lv_at hl 1 rfl) ?_
  have i1 : Iv (σ.1 641 a0) 0 8 := o_fb (j := 641) hw ha0 rfl
  have i2 : Iv (σ.1 642 a0) 0 8 := o_fb (j := 642) hw ha0 rfl
  refine o_ci hw (oRunV cx hA hw q_X11_isCell k_m_X11_157 rfl ha0 (by decide) (As := [.int a1]) (c_X11_isCell a0 ha0 a1) (by decide) rfl hl.1 rfl (Nat.le_of_ble_eq_true rfl) dX11_refusesLay_2 (by decide)) (fun v4 σ3 H locs hp hw => ?_)
  obtain ⟨p4_0, p4_1, p4_2, p4_3⟩ := hp
  rw [p4_0] at hw
  refine lv_if_eq (tgt := 18) hx hb dX11_refusesLay_5 (by decide) (fun c5 => ?_) (fun c5 => ?_)
  · --
    have i6 : Iv v4 0 0 := iv_eq1 c5 p4_1 (⟨by decide, by decide⟩ : Iv 0 0 0) (by decide)
    refine lv_iconst (v := (-1)) hx hb dX11_refusesLay_18 (by decide) ?_
    rw [← hQ]
    exact o_ri cx rx hw dX11_refusesLay_19 ⟨rfl, (iv_w (⟨by decide, by decide⟩ : Iv (-1) (-1) (-1)) (by decide)), (fun h => iv_no (iv_le1 (b' := -1) h (⟨by decide, by decide⟩ : Iv 0 0 0) (⟨by decide, by decide⟩ : Iv (-1) (-1) (-1)) (by decide)) (by decide))⟩
  · --
    have i7 : Iv v4 1 1 := iv_ne1 c5 p4_1 (⟨by decide, by decide⟩ : Iv 0 0 0) (by decide)
    have i8 : Iv a1 0 63 := p4_2 c5
    refine lv_iload_n hx hb dX11_refusesLay_8 rfl (lv_at hl 2 rfl) ?_
    refine lv_iconst (v := 0) hx hb dX11_refusesLay_9 (by decide) ?_
    refine lv_bipush (v := 9) hx hb dX11_refusesLay_10 (by decide) ?_
    refine o_ci hw (oRunS cx hA hw q_X11_in k_m_X11_95 (As := [.int a2, .int 0, .int 9]) (c_X11_in a2 0 9) (by decide) rfl hl.1 rfl (Nat.le_of_ble_eq_true rfl) dX11_refusesLay_12 (by decide)) (fun v10 σ9 H locs hp hw => ?_)
    obtain ⟨p10_0, p10_1, p10_2, p10_3, p10_4, p10_5⟩ := hp
    rw [p10_0] at hw
    refine lv_if_ne (tgt := 20) hx hb dX11_refusesLay_15 (by decide) (fun c11 => ?_) (fun c11 => ?_)
    · --
      have i12 : Iv v10 1 1 := iv_ne1 c11 p10_1 (⟨by decide, by decide⟩ : Iv 0 0 0) (by decide)
      have i13 : Iv a2 0 9 := (fun h => iv_rel (p10_2 h) (⟨by decide, by decide⟩ : Iv 0 0 0) (⟨by decide, by decide⟩ : Iv 9 9 9)) c11
      refine lv_aload_n hx hb dX11_refusesLay_20 rfl (lv_at hl 0 rfl) ?_
      refine g_643 cx hw ha0 k_f_X11_13 dX11_refusesLay_21 (fun v14 e14 h14 => ?_)
      refine lv_iload_n hx hb dX11_refusesLay_24 rfl (lv_at hl 1 rfl) ?_
      refine o_iald cx hw h14 (by decide) rfl (iv_in i8 (by decide)) dX11_refusesLay_25 (fun v15 e15 b15 => ?_)
      refine lv_if_ne (tgt := 33) hx hb dX11_refusesLay_26 (by decide) (fun c16 => ?_) (fun c16 => ?_)
      · --
        refine lv_bipush (v := (-2)) hx hb dX11_refusesLay_33 (by decide) ?_
        rw [← hQ]
        exact o_ri cx rx hw dX11_refusesLay_35 ⟨rfl, (iv_w (⟨by decide, by decide⟩ : Iv (-2) (-2) (-2)) (by decide)), (fun h => iv_no (iv_le1 (b' := -1) h (⟨by decide, by decide⟩ : Iv 0 0 0) (⟨by decide, by decide⟩ : Iv (-2) (-2) (-2)) (by decide)) (by decide))⟩
      · --
        have i17 : Iv v15 0 0 := iv_eq1 c16 (iv_top v15) (⟨by decide, by decide⟩ : Iv 0 0 0) (by decide)
        refine lv_iconst (v := 0) hx hb dX11_refusesLay_29 (by decide) ?_
        refine lv_goto (tgt := 35) hx hb dX11_refusesLay_30 (by decide) ?_
        rw [← hQ]
        exact o_ri cx rx hw dX11_refusesLay_35 ⟨rfl, (iv_w (⟨by decide, by decide⟩ : Iv 0 0 0) (by decide)), (fun _ => iv_w i8 (by decide))⟩
    · --
      have i18 : Iv v10 0 0 := iv_eq1 c11 p10_1 (⟨by decide, by decide⟩ : Iv 0 0 0) (by decide)
      refine lv_iconst (v := (-1)) hx hb dX11_refusesLay_18 (by decide) ?_
      rw [← hQ]
      exact o_ri cx rx hw dX11_refusesLay_19 ⟨rfl, (iv_w (⟨by decide, by decide⟩ : Iv (-1) (-1) (-1)) (by decide)), (fun h => iv_no (iv_le1 (b' := -1) h (⟨by decide, by decide⟩ : Iv 0 0 0) (⟨by decide, by decide⟩ : Iv (-1) (-1) (-1)) (by decide)) (by decide))⟩
abbrev fs_X11_layOn : List Nat := [672]
abbrev ts_X11_layOn : List Nat := [48, 56]
set_option maxHeartbeats 4000000 in
set_option maxRecDepth 100000 in
theorem c_X11_layOn (a0 : Nat) (ha0 : oA L τ a0 10) (a1 : Int32) (ia1 : Iv a1 64 128) (a2 : Int32) (a3 : Int32) : oMet l A L τ cy D K yX11_layOn cX11_layOn 6 (some .int) 3 65 [.ref a0, .int a1, .int a2, .int a3] σ (va_Qi (fun r σ1 => oFr τ fs_X11_layOn ts_X11_layOn σ σ1) (oPo A L τ cy D) A) := by
  refine oMk (by decide) (Nat.le_of_ble_eq_true rfl) rfl ?_
  intro p e s m args below meth c ls cx rx hA hw hl
  generalize hQ : MQ below _ args s 0 0 A = Q
  have hx := cx.1.1
  have hb := cx.1.2.1
  have hml := cx.1.2.2.1
  have hown := cx.1.2.2.2.1
  have hts := cx.1.2.2.2.2
  have hl : lv_has ls 6 [(0, .ref a0), (1, .int a1), (2, .int a2), (3, .int a3)] := hl
  have fr : oFr τ fs_X11_layOn ts_X11_layOn σ σ := oFr_rf
  refine lv_aload_n hx hb dX11_layOn_0 rfl (lv_at hl 0 rfl) ?_
  refine lv_iload_n hx hb dX11_layOn_1 rfl (lv_at hl 2 rfl) ?_
  refine lv_iload_n hx hb dX11_layOn_2 rfl (lv_at hl 3 rfl) ?_
  refine o_ci hw (oRunV cx hA hw q_X11_refusesLay k_m_X11_255 rfl ha0 (by decide) (As := [.int a2, .int a3]) (c_X11_refusesLay a0 ha0 a2 a3) (by decide) rfl hl.1 rfl (Nat.le_of_ble_eq_true rfl) dX11_layOn_3 (by decide)) (fun v2 σ1 H locs hp hw => ?_)
  obtain ⟨p2_0, p2_1, p2_2⟩ := hp
  rw [p2_0] at hw
  refine lv_istore (lv' := [(4, .int v2), (0, .ref a0), (1, .int a1), (2, .int a2), (3, .int a3)]) hx hb dX11_layOn_6 hl (by decide) rfl (fun ls hl => ?_)
  refine lv_iload hx hb dX11_layOn_8 (lv_at hl 0 rfl) ?_
  refine lv_if_ge (tgt := 16) hx hb dX11_layOn_10 (by decide) (fun c3 => ?_) (fun c3 => ?_)
  · --
    have i4 : Iv a2 0 63 := p2_2 c3
    have i5 : Iv v2 0 0 := iv_le2 c3 (⟨by decide, by decide⟩ : Iv 0 0 0) p2_1 (by decide)
    refine lv_aload_n hx hb dX11_layOn_16 rfl (lv_at hl 1 rfl) ?_
    refine lv_aload_n hx hb dX11_layOn_17 rfl (lv_at hl 1 rfl) ?_
    refine g_640 cx hw ha0 k_f_X11_9 dX11_layOn_18 (fun v6 e6 h6 => ?_)
    refine o_cv hw (oRunV cx hA hw q_X11_remember k_m_X11_258 rfl ha0 (by decide) (As := [.ref v6]) (c_X11_remember a0 ha0 v6 h6) (by decide) rfl hl.1 rfl (Nat.le_of_ble_eq_true rfl) dX11_layOn_21 (by decide)) (fun σ7 H locs hp hw => ?_)
    have p8_0 := hp
    have fr := oFr_tr fr p8_0 (by decide)
    refine lv_aload_n hx hb dX11_layOn_24 rfl (lv_at hl 1 rfl) ?_
    refine g_640 cx hw ha0 k_f_X11_9 dX11_layOn_25 (fun v9 e9 h9 => ?_)
    rw [show v9 = v6 from Option.some.inj (e9.symm.trans (((kr_c p8_0 (by decide)).trans e6)))]
    refine lv_iload_n hx hb dX11_layOn_28 rfl (lv_at hl 2 rfl) ?_
    refine lv_iload_n hx hb dX11_layOn_29 rfl (lv_at hl 3 rfl) ?_
    refine lv_iadd hx hb dX11_layOn_30 ?_
    refine lv_topi (fun v10 e10 => ?_)
    have i10 : Iv v10 64 191 := iv_add e10 ia1 i4 (by decide)
    have x10 : v10.toInt = a1.toInt + a2.toInt := ex_add e10 ia1 i4 (by decide)
    refine o_iald cx hw h6 (by decide) rfl (iv_in i10 (by decide)) dX11_layOn_31 (fun v11 e11 b11 => ?_)
    refine lv_istore (lv' := [(5, .int v11), (4, .int v2), (0, .ref a0), (1, .int a1), (2, .int a2), (3, .int a3)]) hx hb dX11_layOn_32 hl (by decide) rfl (fun ls hl => ?_)
    refine lv_aload_n hx hb dX11_layOn_34 rfl (lv_at hl 2 rfl) ?_
    refine g_640 cx hw ha0 k_f_X11_9 dX11_layOn_35 (fun v12 e12 h12 => ?_)
    rw [show v12 = v6 from Option.some.inj (e12.symm.trans (((kr_c p8_0 (by decide)).trans e6)))]
    refine lv_iload_n hx hb dX11_layOn_38 rfl (lv_at hl 3 rfl) ?_
    refine lv_iload_n hx hb dX11_layOn_39 rfl (lv_at hl 4 rfl) ?_
    refine lv_iadd hx hb dX11_layOn_40 ?_
    refine lv_topi (fun v13 e13 => ?_)
    have i13 : Iv v13 64 191 := iv_add e13 ia1 i4 (by decide)
    have x13 : v13.toInt = a1.toInt + a2.toInt := ex_add e13 ia1 i4 (by decide)
    refine lv_iload_n hx hb dX11_layOn_41 rfl (lv_at hl 5 rfl) ?_
    refine o_iast cx hw h6 (by decide) rfl (iv_in i13 (by decide)) (rb_lo i13 (by decide)) dX11_layOn_42 (fun σ14 H locs eσ14 hw => ?_)
    have fr := oFr_p fr eσ14 h6 (by decide)
    refine lv_iload hx hb dX11_layOn_43 (lv_at hl 0 rfl) ?_
    rw [← hQ]
    exact o_ri cx rx hw dX11_layOn_45 fr
  · --
    have i15 : Iv v2 (-2) (-1) := iv_lt1 (iv_nle c3) p2_1 (⟨by decide, by decide⟩ : Iv 0 0 0) (by decide)
    refine lv_iload hx hb dX11_layOn_13 (lv_at hl 0 rfl) ?_
    rw [← hQ]
    exact o_ri cx rx hw dX11_layOn_15 fr
end OM
