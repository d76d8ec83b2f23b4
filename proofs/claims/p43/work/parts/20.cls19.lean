section OM
variable {l : Launch} {A : Nat → Prop} {L : List Nat} {τ : Nat → Nat} {cy : Nat → ClassId} {D : va_G} {K : (Nat → Nat) × (Nat → Nat)} {σ : oSt}
abbrev fs_X11_gates : List Nat := [657, 658, 659, 660, 661, 662, 663, 669]
abbrev ts_X11_gates : List Nat := [48, 52, 55]
set_option maxHeartbeats 4000000 in
set_option maxRecDepth 100000 in
theorem c_X11_gates (a0 : Nat) (ha0 : oA L τ a0 10) (a1 : Int32) (a2 : Int32) (a3 : Int32) : oMet l A L τ cy D K yX11_gates cX11_gates 10 (some .int) 341 8573 [.ref a0, .int a1, .int a2, .int a3] σ (va_Qi (fun r σ1 => oFr τ fs_X11_gates ts_X11_gates σ σ1) (oPo A L τ cy D) A) := by
  refine oMk (by decide) (Nat.le_of_ble_eq_true rfl) rfl ?_
  intro p e s m args below meth c ls cx rx hA hw hl
  generalize hQ : MQ below _ args s 0 0 A = Q
  have hx := cx.1.1
  have hb := cx.1.2.1
  have hml := cx.1.2.2.1
  have hown := cx.1.2.2.2.1
  have hts := cx.1.2.2.2.2
  have hl : lv_has ls 10 [(0, .ref a0), (1, .int a1), (2, .int a2), (3, .int a3)] := hl
  have fr : oFr τ fs_X11_gates ts_X11_gates σ σ := oFr_rf
  refine lv_aload_n hx hb dX11_gates_0 rfl (lv_at hl 0 rfl) ?_
  refine lv_iconst (v := 0) hx hb dX11_gates_1 (by decide) ?_
  refine p_658 cx hw ha0 k_f_X11_89 dX11_gates_2 (fun σ1 H locs eσ1 hw => ?_)
  have fr := oFr_i fr eσ1 (by decide)
  refine lv_aload_n hx hb dX11_gates_5 rfl (lv_at hl 0 rfl) ?_
  refine lv_iload_n hx hb dX11_gates_6 rfl (lv_at hl 1 rfl) ?_
  refine o_ci hw (oRunV cx hA hw q_X11_isHerd k_m_X11_237 rfl ha0 (by decide) (As := [.int a1]) (c_X11_isHerd a0 ha0 a1) (by decide) rfl hl.1 rfl (Nat.le_of_ble_eq_true rfl) dX11_gates_7 (by decide)) (fun v3 σ2 H locs hp hw => ?_)
  obtain ⟨p3_0, p3_1, p3_2⟩ := hp
  rw [p3_0] at hw
  refine lv_if_eq (tgt := 31) hx hb dX11_gates_10 (by decide) (fun c4 => ?_) (fun c4 => ?_)
  · --
    have i5 : Iv v3 0 0 := iv_eq1 c4 p3_1 (⟨by decide, by decide⟩ : Iv 0 0 0) (by decide)
    refine lv_iconst (v := (-1)) hx hb dX11_gates_31 (by decide) ?_
    rw [← hQ]
    exact o_ri cx rx hw dX11_gates_32 fr
  · --
    have i6 : Iv v3 1 1 := iv_ne1 c4 p3_1 (⟨by decide, by decide⟩ : Iv 0 0 0) (by decide)
    have i7 : Iv a1 0 5 := p3_2 c4
    refine lv_aload_n hx hb dX11_gates_13 rfl (lv_at hl 0 rfl) ?_
    refine lv_iload_n hx hb dX11_gates_14 rfl (lv_at hl 2 rfl) ?_
    have i8 : Iv (σ1.1 641 a0) 0 8 := o_fb (j := 641) hw ha0 rfl
    have i9 : Iv (σ1.1 642 a0) 0 8 := o_fb (j := 642) hw ha0 rfl
    refine o_ci hw (oRunV cx hA hw q_X11_isCell k_m_X11_157 rfl ha0 (by decide) (As := [.int a2]) (c_X11_isCell a0 ha0 a2) (by decide) rfl hl.1 rfl (Nat.le_of_ble_eq_true rfl) dX11_gates_15 (by decide)) (fun v11 σ10 H locs hp hw => ?_)
    obtain ⟨p11_0, p11_1, p11_2, p11_3⟩ := hp
    rw [p11_0] at hw
    refine lv_if_eq (tgt := 31) hx hb dX11_gates_18 (by decide) (fun c12 => ?_) (fun c12 => ?_)
    · --
      have i13 : Iv v11 0 0 := iv_eq1 c12 p11_1 (⟨by decide, by decide⟩ : Iv 0 0 0) (by decide)
      refine lv_iconst (v := (-1)) hx hb dX11_gates_31 (by decide) ?_
      rw [← hQ]
      exact o_ri cx rx hw dX11_gates_32 fr
    · --
      have i14 : Iv v11 1 1 := iv_ne1 c12 p11_1 (⟨by decide, by decide⟩ : Iv 0 0 0) (by decide)
      have i15 : Iv a2 0 63 := p11_2 c12
      refine lv_iload_n hx hb dX11_gates_21 rfl (lv_at hl 3 rfl) ?_
      refine lv_iconst (v := 1) hx hb dX11_gates_22 (by decide) ?_
      refine lv_bipush (v := 100) hx hb dX11_gates_23 (by decide) ?_
      refine o_ci hw (oRunS cx hA hw q_X11_in k_m_X11_95 (As := [.int a3, .int 1, .int 100]) (c_X11_in a3 1 100) (by decide) rfl hl.1 rfl (Nat.le_of_ble_eq_true rfl) dX11_gates_25 (by decide)) (fun v17 σ16 H locs hp hw => ?_)
      obtain ⟨p17_0, p17_1, p17_2, p17_3, p17_4, p17_5⟩ := hp
      rw [p17_0] at hw
      refine lv_if_ne (tgt := 33) hx hb dX11_gates_28 (by decide) (fun c18 => ?_) (fun c18 => ?_)
      · --
        have i19 : Iv v17 1 1 := iv_ne1 c18 p17_1 (⟨by decide, by decide⟩ : Iv 0 0 0) (by decide)
        have i20 : Iv a3 1 100 := (fun h => iv_rel (p17_2 h) (⟨by decide, by decide⟩ : Iv 1 1 1) (⟨by decide, by decide⟩ : Iv 100 100 100)) c18
        refine lv_iconst (v := 0) hx hb dX11_gates_33 (by decide) ?_
        refine lv_istore (lv' := [(4, .int 0), (0, .ref a0), (1, .int a1), (2, .int a2), (3, .int a3)]) hx hb dX11_gates_34 hl (by decide) rfl (fun ls hl => ?_)
        refine lv_iconst (v := 0) hx hb dX11_gates_36 (by decide) ?_
        refine lv_istore (lv' := [(5, .int 0), (4, .int 0), (0, .ref a0), (1, .int a1), (2, .int a2), (3, .int a3)]) hx hb dX11_gates_37 hl (by decide) rfl (fun ls hl => ?_)
        have J_39 : ∀ n39 : Nat, ∀ (j39_4 : Int32) (ij39_4 : Iv j39_4 0 63) (j39_5 : Int32) (ij39_5 : Iv j39_5 0 6), ∀ (H : Heap) (locs : List Loc), oI A L τ cy D s.heap σ1 H locs → (6 - j39_5.toInt).toNat < n39 → ∀ (ls : Array Slot), lv_has ls 10 [(0, .ref a0), (1, .int a1), (2, .int a2), (3, .int a3), (4, .int j39_4), (5, .int j39_5)] → W p l e ({ frames := 341, cells := 0, slots := 0, locals := 8573 } : Room) s m args below meth c H locs 0 0 Q (F0 m 39 ls []) := by
          intro n39
          induction n39 with
          | zero => intro j39_4 ij39_4 j39_5 ij39_5 H locs hw  hn_39   ls hl; exact absurd hn_39 (Nat.not_lt_zero _)
          | succ n39 ih_39 =>
            intro j39_4 ij39_4 j39_5 ij39_5 H locs hw  hn_39   ls hl
            refine lv_iload hx hb dX11_gates_39 (lv_at hl 5 rfl) ?_
            refine lv_aload_n hx hb dX11_gates_41 rfl (lv_at hl 0 rfl) ?_
            refine g_645 cx hw ha0 k_f_X11_154 dX11_gates_42 (fun v21 e21 i21 => ?_)
            refine lv_icmp_ge (tgt := 85) hx hb dX11_gates_45 (by decide) (fun c22 => ?_) (fun c22 => ?_)
            · --
              refine lv_iconst (v := 0) hx hb dX11_gates_85 (by decide) ?_
              refine lv_istore (lv' := [(5, .int 0), (0, .ref a0), (1, .int a1), (2, .int a2), (3, .int a3), (4, .int j39_4)]) hx hb dX11_gates_86 hl (by decide) rfl (fun ls hl => ?_)
              refine lv_iconst (v := (-1)) hx hb dX11_gates_88 (by decide) ?_
              refine lv_istore (lv' := [(6, .int (-1)), (5, .int 0), (0, .ref a0), (1, .int a1), (2, .int a2), (3, .int a3), (4, .int j39_4)]) hx hb dX11_gates_89 hl (by decide) rfl (fun ls hl => ?_)
              refine lv_iconst (v := 1) hx hb dX11_gates_91 (by decide) ?_
              refine lv_aload_n hx hb dX11_gates_92 rfl (lv_at hl 2 rfl) ?_
              refine g_645 cx hw ha0 k_f_X11_154 dX11_gates_93 (fun v23 e23 i23 => ?_)
              rw [show v23 = v21 from e23.trans e21.symm]
              refine lv_ishl hx hb dX11_gates_96 ?_
              refine lv_topi (fun v24 e24 => ?_)
              refine lv_iconst (v := 1) hx hb dX11_gates_97 (by decide) ?_
              refine lv_isub hx hb dX11_gates_98 ?_
              refine lv_topi (fun v25 e25 => ?_)
              refine lv_istore (lv' := [(7, .int v25), (6, .int (-1)), (5, .int 0), (0, .ref a0), (1, .int a1), (2, .int a2), (3, .int a3), (4, .int j39_4)]) hx hb dX11_gates_99 hl (by decide) rfl (fun ls hl => ?_)
              refine lv_iconst (v := 0) hx hb dX11_gates_101 (by decide) ?_
              refine lv_istore (lv' := [(8, .int 0), (7, .int v25), (6, .int (-1)), (5, .int 0), (0, .ref a0), (1, .int a1), (2, .int a2), (3, .int a3), (4, .int j39_4)]) hx hb dX11_gates_102 hl (by decide) rfl (fun ls hl => ?_)
              have frE_104 := fr
              have J_104 : ∀ n104 : Nat, ∀ (j104_5 : Int32) (j104_6 : Int32) (ij104_6 : Iv j104_6 (-1) 2147483647) (j104_7 : Int32) (j104_8 : Int32) (ij104_8 : Iv j104_8 0 2147483647), ∀ (σ_104 : oSt) (H : Heap) (locs : List Loc), oI A L τ cy D s.heap σ_104 H locs → oFr τ fs_X11_gates ts_X11_gates σ σ_104 → (2147483647 - j104_8.toInt).toNat < n104 → ∀ (ls : Array Slot), lv_has ls 10 [(0, .ref a0), (1, .int a1), (2, .int a2), (3, .int a3), (4, .int j39_4), (5, .int j104_5), (6, .int j104_6), (7, .int j104_7), (8, .int j104_8)] → W p l e ({ frames := 341, cells := 0, slots := 0, locals := 8573 } : Room) s m args below meth c H locs 0 0 Q (F0 m 104 ls []) := by
                intro n104
                induction n104 with
                | zero => intro j104_5 j104_6 ij104_6 j104_7 j104_8 ij104_8 σ_104 H locs hw fr   hn_104   ls hl; exact absurd hn_104 (Nat.not_lt_zero _)
                | succ n104 ih_104 =>
                  intro j104_5 j104_6 ij104_6 j104_7 j104_8 ij104_8 σ_104 H locs hw fr   hn_104   ls hl
                  have fr_104 := fr
                  refine lv_iload hx hb dX11_gates_104 (lv_at hl 8 rfl) ?_
                  refine lv_iconst (v := 1) hx hb dX11_gates_106 (by decide) ?_
                  refine lv_aload_n hx hb dX11_gates_107 rfl (lv_at hl 0 rfl) ?_
                  refine g_645 cx hw ha0 k_f_X11_154 dX11_gates_108 (fun v26 e26 i26 => ?_)
                  rw [show v26 = v21 from e26.trans ((kp_c fr_104 (by decide)).trans ((kp_c frE_104 (by decide)).symm.trans (e21.symm)))]
                  refine lv_ishl hx hb dX11_gates_111 ?_
                  refine lv_topi (fun v27 e27 => ?_)
                  refine lv_icmp_ge (tgt := 230) hx hb dX11_gates_112 (by decide) (fun c28 => ?_) (fun c28 => ?_)
                  · --
                    refine lv_aload_n hx hb dX11_gates_230 rfl (lv_at hl 0 rfl) ?_
                    refine lv_iconst (v := 0) hx hb dX11_gates_231 (by decide) ?_
                    refine p_657 cx hw ha0 (iv_w (⟨by decide, by decide⟩ : Iv 0 0 0) (by decide)) k_f_X11_92 dX11_gates_232 (fun σ29 H locs eσ29 hw => ?_)
                    have fr := oFr_i fr eσ29 (by decide)
                    refine lv_aload_n hx hb dX11_gates_235 rfl (lv_at hl 0 rfl) ?_
                    refine lv_iload hx hb dX11_gates_236 (lv_at hl 6 rfl) ?_
                    refine lv_i2l hx hb dX11_gates_238 rfl ?_
                    refine lv_topl (fun v30 e30 => ?_)
                    refine o_cv hw (oRunV cx hA hw q_X11_tell k_m_X11_278 rfl ha0 (by decide) (As := [.long v30]) (c_X11_tell a0 ha0 v30 (kn_iv ((kp_s eσ29)) (iv_w (⟨by decide, by decide⟩ : Iv 0 0 0) (by decide)))) (by decide) rfl hl.1 rfl (Nat.le_of_ble_eq_true rfl) dX11_gates_239 (by decide)) (fun σ31 H locs hp hw => ?_)
                    obtain ⟨p32_0, p32_1⟩ := hp
                    have fr := oFr_tr fr p32_0 (by decide)
                    have x34 : (σ31.1 657 a0).toInt = (0 : Int32).toInt + 1 := fin_tr p32_1 ((kp_s eσ29))
                    have i33 : Iv (σ31.1 657 a0) 1 1 := iv_fin x34 (⟨by decide, by decide⟩ : Iv 0 0 0) (by decide)
                    refine lv_aload_n hx hb dX11_gates_242 rfl (lv_at hl 0 rfl) ?_
                    refine lv_iload hx hb dX11_gates_243 (lv_at hl 5 rfl) ?_
                    have J_255 : ∀ (k255_1 : Int64), ∀ (H : Heap) (locs : List Loc), oI A L τ cy D s.heap σ31 H locs → ∀ (ls : Array Slot), lv_has ls 10 [(0, .ref a0), (1, .int a1), (2, .int a2), (3, .int a3), (4, .int j39_4), (5, .int j104_5), (6, .int j104_6), (7, .int j104_7), (8, .int j104_8)] → W p l e ({ frames := 341, cells := 0, slots := 0, locals := 8573 } : Room) s m args below meth c H locs 0 0 Q (F0 m 255 ls [.long k255_1, .ref a0]) := by
                      intro k255_1 H locs hw     ls hl
                      refine o_cv hw (oRunV cx hA hw q_X11_tell k_m_X11_278 rfl ha0 (by decide) (As := [.long k255_1]) (c_X11_tell a0 ha0 k255_1 (kn_iv (rfl) (iv_w i33 (by decide)))) (by decide) rfl hl.1 rfl (Nat.le_of_ble_eq_true rfl) dX11_gates_255 (by decide)) (fun σ35 H locs hp hw => ?_)
                      obtain ⟨p36_0, p36_1⟩ := hp
                      have fr := oFr_tr fr p36_0 (by decide)
                      have x38 : (σ35.1 657 a0).toInt = (σ31.1 657 a0).toInt + 1 := fin_tr p36_1 (rfl)
                      have i37 : Iv (σ35.1 657 a0) 2 2 := iv_fin x38 i33 (by decide)
                      refine lv_iload hx hb dX11_gates_258 (lv_at hl 5 rfl) ?_
                      rw [← hQ]
                      exact o_ri cx rx hw dX11_gates_260 fr
                    refine lv_if_ne (tgt := 252) hx hb dX11_gates_245 (by decide) (fun c39 => ?_) (fun c39 => ?_)
                    · --
                      refine lv_iload hx hb dX11_gates_252 (lv_at hl 7 rfl) ?_
                      refine lv_i2l hx hb dX11_gates_254 rfl ?_
                      refine lv_topl (fun v40 e40 => ?_)
                      exact J_255 v40 _ _ hw _ (lv_sub hl [0, 1, 2, 3, 4, 5, 6, 7, 8] rfl)
                    · --
                      have i41 : Iv j104_5 0 0 := iv_eq1 c39 (iv_top j104_5) (⟨by decide, by decide⟩ : Iv 0 0 0) (by decide)
                      refine lv_lconst (v := 0) hx hb dX11_gates_248 (by decide) ?_
                      refine lv_goto (tgt := 255) hx hb dX11_gates_249 (by decide) ?_
                      exact J_255 0 _ _ hw _ (lv_sub hl [0, 1, 2, 3, 4, 5, 6, 7, 8] rfl)
                  · --
                    have i42 : Iv j104_8 0 2147483646 := iv_lt1 (iv_nle c28) ij104_8 (iv_top v27) (by decide)
                    have i43 : Iv v27 1 2147483647 := iv_lt2 (iv_nle c28) ij104_8 (iv_top v27) (by decide)
                    refine lv_iload hx hb dX11_gates_115 (lv_at hl 4 rfl) ?_
                    refine lv_iload hx hb dX11_gates_117 (lv_at hl 8 rfl) ?_
                    refine lv_iconst (v := (-1)) hx hb dX11_gates_119 (by decide) ?_
                    refine lv_ixor hx hb dX11_gates_120 ?_
                    refine lv_topi (fun v44 e44 => ?_)
                    refine lv_iand hx hb dX11_gates_121 ?_
                    refine lv_topi (fun v45 e45 => ?_)
                    have frE_224 := fr
                    have J_224 : ∀ (j224_5 : Int32) (j224_6 : Int32) (ij224_6 : Iv j224_6 (-1) 2147483647) (j224_7 : Int32), ∀ (σ_224 : oSt) (H : Heap) (locs : List Loc), oI A L τ cy D s.heap σ_224 H locs → oFr τ fs_X11_gates ts_X11_gates σ σ_224 → ∀ (ls : Array Slot), lv_has ls 10 [(0, .ref a0), (1, .int a1), (2, .int a2), (3, .int a3), (4, .int j39_4), (5, .int j224_5), (6, .int j224_6), (7, .int j224_7), (8, .int j104_8)] → W p l e ({ frames := 341, cells := 0, slots := 0, locals := 8573 } : Room) s m args below meth c H locs 0 0 Q (F0 m 224 ls []) := by
                      intro j224_5 j224_6 ij224_6 j224_7 σ_224 H locs hw fr      ls hl
                      have fr_224 := fr
                      obtain ⟨v46, e46⟩ : ∃ y : Int32, y = j104_8 + 1 := ⟨_, rfl⟩
                      have i46 : Iv v46 1 2147483647 := iv_add e46 i42 (⟨by decide, by decide⟩ : Iv 1 1 1) (by decide)
                      have x46 : v46.toInt = j104_8.toInt + 1 := ex_add e46 i42 (⟨by decide, by decide⟩ : Iv 1 1 1) (by decide)
                      refine lv_iinc (v := v46) (lv' := [(8, .int v46), (0, .ref a0), (1, .int a1), (2, .int a2), (3, .int a3), (4, .int j39_4), (5, .int j224_5), (6, .int j224_6), (7, .int j224_7)]) hx hb dX11_gates_224 hl (k := 8) rfl (by rw [e46]; rfl) (by decide) rfl (fun ls hl => ?_)
                      refine lv_goto (tgt := 104) hx hb dX11_gates_227 (by decide) ?_
                      exact ih_104 j224_5 j224_6 ij224_6 j224_7 v46 (iv_w i46 (by decide)) σ_224 _ _ hw fr (ms_up x46 (by decide) (iv_w (a' := 0) (b' := 2147483647) i46 (by decide)).2 hn_104) _ (lv_sub hl [1, 2, 3, 4, 5, 6, 7, 8, 0] rfl)
                    refine lv_if_eq (tgt := 128) hx hb dX11_gates_122 (by decide) (fun c47 => ?_) (fun c47 => ?_)
                    · --
                      have i48 : Iv v45 0 0 := iv_eq1 c47 (iv_top v45) (⟨by decide, by decide⟩ : Iv 0 0 0) (by decide)
                      refine lv_aload_n hx hb dX11_gates_128 rfl (lv_at hl 0 rfl) ?_
                      refine g_640 cx hw ha0 k_f_X11_9 dX11_gates_129 (fun v49 e49 h49 => ?_)
                      refine lv_aload_n hx hb dX11_gates_132 rfl (lv_at hl 0 rfl) ?_
                      refine g_677 cx hw ha0 k_f_X11_67 dX11_gates_133 (fun v50 e50 h50 => ?_)
                      refine lv_iconst (v := 0) hx hb dX11_gates_136 (by decide) ?_
                      refine o_cv hw (oRunS cx hA hw q_X11_lay k_m_X11_251 (As := [.ref v49, .ref v50, .int 0]) (c_X11_layN v49 h49 v50 h50 0 (iv_w (⟨by decide, by decide⟩ : Iv 0 0 0) (by decide))) (by decide) rfl hl.1 rfl (Nat.le_of_ble_eq_true rfl) dX11_gates_137 (by decide)) (fun σ51 H locs hp hw => ?_)
                      have p52_0 := hp
                      have fr := oFr_tr fr p52_0 (by decide)
                      refine lv_aload_n hx hb dX11_gates_140 rfl (lv_at hl 0 rfl) ?_
                      refine g_677 cx hw ha0 k_f_X11_67 dX11_gates_141 (fun v53 e53 h53 => ?_)
                      rw [show v53 = v50 from Option.some.inj (e53.symm.trans (((kr_c p52_0 (by decide)).trans e50)))]
                      refine lv_sipush (v := 332) hx hb dX11_gates_144 (by decide) ?_
                      refine lv_iload hx hb dX11_gates_147 (lv_at hl 8 rfl) ?_
                      refine o_iast cx hw h50 (by decide) rfl (iv_in (⟨by decide, by decide⟩ : Iv 332 332 332) (by decide)) (rb_hi (⟨by decide, by decide⟩ : Iv 332 332 332) (by decide)) dX11_gates_149 (fun σ54 H locs eσ54 hw => ?_)
                      have fr := oFr_p fr eσ54 h50 (by decide)
                      refine lv_iconst (v := 0) hx hb dX11_gates_150 (by decide) ?_
                      refine lv_istore (lv' := [(9, .int 0), (0, .ref a0), (1, .int a1), (2, .int a2), (3, .int a3), (4, .int j39_4), (5, .int j104_5), (6, .int j104_6), (7, .int j104_7), (8, .int j104_8)]) hx hb dX11_gates_151 hl (by decide) rfl (fun ls hl => ?_)
                      have frE_153 := fr
                      have J_153 : ∀ n153 : Nat, ∀ (j153_9 : Int32) (ij153_9 : Iv j153_9 0 100), ∀ (σ_153 : oSt) (H : Heap) (locs : List Loc), oI A L τ cy D s.heap σ_153 H locs → oFr τ fs_X11_gates ts_X11_gates σ σ_153 → (100 - j153_9.toInt).toNat < n153 → ∀ (ls : Array Slot), lv_has ls 10 [(0, .ref a0), (1, .int a1), (2, .int a2), (3, .int a3), (4, .int j39_4), (5, .int j104_5), (6, .int j104_6), (7, .int j104_7), (8, .int j104_8), (9, .int j153_9)] → W p l e ({ frames := 341, cells := 0, slots := 0, locals := 8573 } : Room) s m args below meth c H locs 0 0 Q (F0 m 153 ls []) := by
                        intro n153
                        induction n153 with
                        | zero => intro j153_9 ij153_9 σ_153 H locs hw fr   hn_153   ls hl; exact absurd hn_153 (Nat.not_lt_zero _)
                        | succ n153 ih_153 =>
                          intro j153_9 ij153_9 σ_153 H locs hw fr   hn_153   ls hl
                          have fr_153 := fr
                          refine lv_iload hx hb dX11_gates_153 (lv_at hl 9 rfl) ?_
                          refine lv_iload_n hx hb dX11_gates_155 rfl (lv_at hl 3 rfl) ?_
                          refine lv_icmp_ge (tgt := 174) hx hb dX11_gates_156 (by decide) (fun c55 => ?_) (fun c55 => ?_)
                          · --
                            have i56 : Iv j153_9 1 100 := iv_le2 c55 i20 ij153_9 (by decide)
                            refine lv_aload_n hx hb dX11_gates_174 rfl (lv_at hl 0 rfl) ?_
                            refine g_677 cx hw ha0 k_f_X11_67 dX11_gates_175 (fun v57 e57 h57 => ?_)
                            rw [show v57 = v50 from Option.some.inj (e57.symm.trans (((kr_c fr_153 (by decide)).trans ((kr_c frE_153 (by decide)).symm.trans (((kr_p eσ54).trans ((kr_c p52_0 (by decide)).trans e50)))))))]
                            refine lv_sipush (v := 320) hx hb dX11_gates_178 (by decide) ?_
                            refine lv_iload_n hx hb dX11_gates_181 rfl (lv_at hl 1 rfl) ?_
                            refine lv_iadd hx hb dX11_gates_182 ?_
                            refine lv_topi (fun v58 e58 => ?_)
                            have i58 : Iv v58 320 325 := iv_add e58 (⟨by decide, by decide⟩ : Iv 320 320 320) i7 (by decide)
                            have x58 : v58.toInt = a1.toInt + 320 := (ex_add e58 (⟨by decide, by decide⟩ : Iv 320 320 320) i7 (by decide)).trans (Int.add_comm _ _)
                            refine o_iald cx hw h50 (by decide) rfl (iv_in i58 (by decide)) dX11_gates_183 (fun v59 e59 b59 => ?_)
                            have i59 : Iv v59 0 63 := rb_now b59 i58 (by decide)
                            refine lv_iload_n hx hb dX11_gates_184 rfl (lv_at hl 2 rfl) ?_
                            refine lv_icmp_eq (tgt := 191) hx hb dX11_gates_185 (by decide) (fun c60 => ?_) (fun c60 => ?_)
                            · --
                              obtain ⟨v61, e61⟩ : ∃ y : Int32, y = j104_5 + 1 := ⟨_, rfl⟩
                              refine lv_iinc (v := v61) (lv' := [(5, .int v61), (0, .ref a0), (1, .int a1), (2, .int a2), (3, .int a3), (4, .int j39_4), (6, .int j104_6), (7, .int j104_7), (8, .int j104_8), (9, .int j153_9)]) hx hb dX11_gates_191 hl (k := 5) rfl (by rw [e61]; rfl) (by decide) rfl (fun ls hl => ?_)
                              refine lv_iload hx hb dX11_gates_194 (lv_at hl 7 rfl) ?_
                              refine lv_iload hx hb dX11_gates_196 (lv_at hl 8 rfl) ?_
                              refine lv_iand hx hb dX11_gates_198 ?_
                              refine lv_topi (fun v62 e62 => ?_)
                              have i62 : Iv v62 0 2147483646 := iv_and e62 i42 (by decide)
                              refine lv_istore (lv' := [(7, .int v62), (5, .int v61), (0, .ref a0), (1, .int a1), (2, .int a2), (3, .int a3), (4, .int j39_4), (6, .int j104_6), (8, .int j104_8), (9, .int j153_9)]) hx hb dX11_gates_199 hl (by decide) rfl (fun ls hl => ?_)
                              refine lv_iload hx hb dX11_gates_201 (lv_at hl 7 rfl) ?_
                              refine lv_iconst (v := (-1)) hx hb dX11_gates_203 (by decide) ?_
                              have J_220 : ∀ (H : Heap) (locs : List Loc), oI A L τ cy D s.heap σ_153 H locs → ∀ (ls : Array Slot), lv_has ls 10 [(0, .ref a0), (1, .int a1), (2, .int a2), (3, .int a3), (4, .int j39_4), (5, .int v61), (6, .int j104_6), (7, .int v62), (8, .int j104_8), (9, .int j153_9)] → W p l e ({ frames := 341, cells := 0, slots := 0, locals := 8573 } : Room) s m args below meth c H locs 0 0 Q (F0 m 220 ls []) := by
                                intro  H locs hw     ls hl
                                refine lv_iload hx hb dX11_gates_220 (lv_at hl 8 rfl) ?_
                                refine lv_istore (lv' := [(6, .int j104_8), (0, .ref a0), (1, .int a1), (2, .int a2), (3, .int a3), (4, .int j39_4), (5, .int v61), (7, .int v62), (8, .int j104_8), (9, .int j153_9)]) hx hb dX11_gates_222 hl (by decide) rfl (fun ls hl => ?_)
                                exact J_224 v61 j104_8 (iv_w i42 (by decide)) v62 σ_153 _ _ hw fr _ (lv_sub hl [1, 2, 3, 4, 5, 6, 0, 7, 8] rfl)
                              refine lv_icmp_eq (tgt := 220) hx hb dX11_gates_204 (by decide) (fun c63 => ?_) (fun c63 => ?_)
                              · --
                                have i64 : Iv j104_6 (-1) (-1) := iv_eq1 c63 ij104_6 (⟨by decide, by decide⟩ : Iv (-1) (-1) (-1)) (by decide)
                                exact J_220 _ _ hw _ (lv_sub hl [2, 3, 4, 5, 6, 1, 7, 0, 8, 9] rfl)
                              · --
                                have i65 : Iv j104_6 0 2147483647 := iv_ne1 c63 ij104_6 (⟨by decide, by decide⟩ : Iv (-1) (-1) (-1)) (by decide)
                                refine lv_iload hx hb dX11_gates_207 (lv_at hl 8 rfl) ?_
                                refine o_ci hw (oRunS cx hA hw q_J6_bitCount_0f7a4 k_m_X11_357 (As := [.int j104_8]) (c_J6_bitCount_0f7a4 j104_8) (by decide) rfl hl.1 rfl (Nat.le_of_ble_eq_true rfl) dX11_gates_209 (by decide)) (fun v67 σ66 H locs hp hw => ?_)
                                obtain ⟨p67_0, p67_1⟩ := hp
                                rw [p67_0] at hw
                                refine lv_iload hx hb dX11_gates_212 (lv_at hl 7 rfl) ?_
                                refine o_ci hw (oRunS cx hA hw q_J6_bitCount_0f7a4 k_m_X11_357 (As := [.int j104_6]) (c_J6_bitCount_0f7a4 j104_6) (by decide) rfl hl.1 rfl (Nat.le_of_ble_eq_true rfl) dX11_gates_214 (by decide)) (fun v69 σ68 H locs hp hw => ?_)
                                obtain ⟨p69_0, p69_1⟩ := hp
                                rw [p69_0] at hw
                                refine lv_icmp_ge (tgt := 224) hx hb dX11_gates_217 (by decide) (fun c70 => ?_) (fun c70 => ?_)
                                · --
                                  exact J_224 v61 j104_6 (iv_w i65 (by decide)) v62 σ_153 _ _ hw fr _ (lv_sub hl [2, 3, 4, 5, 6, 1, 7, 0, 8] rfl)
                                · --
                                  have i71 : Iv v67 0 62 := iv_lt1 (iv_nle c70) p67_1 p69_1 (by decide)
                                  have i72 : Iv v69 1 63 := iv_lt2 (iv_nle c70) p67_1 p69_1 (by decide)
                                  exact J_220 _ _ hw _ (lv_sub hl [2, 3, 4, 5, 6, 1, 7, 0, 8, 9] rfl)
                            · --
                              refine lv_goto (tgt := 224) hx hb dX11_gates_188 (by decide) ?_
                              exact J_224 j104_5 j104_6 ij104_6 j104_7 σ_153 _ _ hw fr _ (lv_sub hl [0, 1, 2, 3, 4, 5, 6, 7, 8] rfl)
                          · --
                            have i73 : Iv j153_9 0 99 := iv_lt1 (iv_nle c55) ij153_9 i20 (by decide)
                            refine lv_aload_n hx hb dX11_gates_159 rfl (lv_at hl 0 rfl) ?_
                            refine lv_aload_n hx hb dX11_gates_160 rfl (lv_at hl 0 rfl) ?_
                            refine g_677 cx hw ha0 k_f_X11_67 dX11_gates_161 (fun v74 e74 h74 => ?_)
                            rw [show v74 = v50 from Option.some.inj (e74.symm.trans (((kr_c fr_153 (by decide)).trans ((kr_c frE_153 (by decide)).symm.trans (((kr_p eσ54).trans ((kr_c p52_0 (by decide)).trans e50)))))))]
                            refine o_ci hw (oRunV cx hA hw q_X11_goHour k_m_X11_285 rfl ha0 (by decide) (As := [.ref v50]) (c_X11_goHour a0 ha0 v50 h50) (by decide) rfl hl.1 rfl (Nat.le_of_ble_eq_true rfl) dX11_gates_164 (by decide)) (fun v76 σ75 H locs hp hw => ?_)
                            have p76_0 := hp
                            have fr := oFr_tr fr p76_0 (by decide)
                            refine lv_pop hx hb dX11_gates_167 rfl ?_
                            obtain ⟨v77, e77⟩ : ∃ y : Int32, y = j153_9 + 1 := ⟨_, rfl⟩
                            have i77 : Iv v77 1 100 := iv_add e77 i73 (⟨by decide, by decide⟩ : Iv 1 1 1) (by decide)
                            have x77 : v77.toInt = j153_9.toInt + 1 := ex_add e77 i73 (⟨by decide, by decide⟩ : Iv 1 1 1) (by decide)
                            refine lv_iinc (v := v77) (lv' := [(9, .int v77), (0, .ref a0), (1, .int a1), (2, .int a2), (3, .int a3), (4, .int j39_4), (5, .int j104_5), (6, .int j104_6), (7, .int j104_7), (8, .int j104_8)]) hx hb dX11_gates_168 hl (k := 9) rfl (by rw [e77]; rfl) (by decide) rfl (fun ls hl => ?_)
                            refine lv_goto (tgt := 153) hx hb dX11_gates_171 (by decide) ?_
                            exact ih_153 v77 (iv_w i77 (by decide)) σ75 _ _ hw fr (ms_up x77 (by decide) (iv_w (a' := 0) (b' := 100) i77 (by decide)).2 hn_153) _ (lv_sub hl [1, 2, 3, 4, 5, 6, 7, 8, 9, 0] rfl)
                      exact J_153 _ 0 (iv_w (⟨by decide, by decide⟩ : Iv 0 0 0) (by decide)) σ54 _ _ hw fr (Nat.lt_succ_self _) _ (lv_sub hl [1, 2, 3, 4, 5, 6, 7, 8, 9, 0] rfl)
                    · --
                      refine lv_goto (tgt := 224) hx hb dX11_gates_125 (by decide) ?_
                      exact J_224 j104_5 j104_6 ij104_6 j104_7 σ_104 _ _ hw fr _ (lv_sub hl [0, 1, 2, 3, 4, 5, 6, 7, 8] rfl)
              exact J_104 _ 0 (-1) (iv_w (⟨by decide, by decide⟩ : Iv (-1) (-1) (-1)) (by decide)) v25 0 (iv_w (⟨by decide, by decide⟩ : Iv 0 0 0) (by decide)) σ1 _ _ hw fr (Nat.lt_succ_self _) _ (lv_sub hl [4, 5, 6, 7, 8, 3, 2, 1, 0] rfl)
            · --
              have i78 : Iv j39_5 0 5 := iv_lt1 (iv_nle c22) ij39_5 i21 (by decide)
              have i79 : Iv v21 1 6 := iv_lt2 (iv_nle c22) ij39_5 i21 (by decide)
              refine lv_iload hx hb dX11_gates_48 (lv_at hl 4 rfl) ?_
              refine lv_aload_n hx hb dX11_gates_50 rfl (lv_at hl 0 rfl) ?_
              refine lv_aload_n hx hb dX11_gates_51 rfl (lv_at hl 0 rfl) ?_
              refine g_640 cx hw ha0 k_f_X11_9 dX11_gates_52 (fun v80 e80 h80 => ?_)
              refine lv_aload_n hx hb dX11_gates_55 rfl (lv_at hl 0 rfl) ?_
              refine g_646 cx hw ha0 k_f_X11_19 dX11_gates_56 (fun v81 e81 h81 => ?_)
              refine lv_iload hx hb dX11_gates_59 (lv_at hl 5 rfl) ?_
              refine o_iald cx hw h81 (by decide) rfl (iv_in i78 (by decide)) dX11_gates_61 (fun v82 e82 b82 => ?_)
              have i83 : Iv (σ1.1 647 a0) 0 6 := o_fb (j := 647) hw ha0 rfl
              refine o_ci hw (oRunV cx hA hw q_X11_herdsAt k_m_X11_233 rfl ha0 (by decide) (As := [.ref v80, .int v82]) (c_X11_herdsAt a0 ha0 v80 h80 v82) (by decide) rfl hl.1 rfl (Nat.le_of_ble_eq_true rfl) dX11_gates_62 (by decide)) (fun v85 σ84 H locs hp hw => ?_)
              obtain ⟨p85_0, p85_1, p85_2⟩ := hp
              rw [p85_0] at hw
              have J_76 : ∀ (k76_1 : Int32) (ik76_1 : Iv k76_1 0 32), ∀ (H : Heap) (locs : List Loc), oI A L τ cy D s.heap σ1 H locs → ∀ (ls : Array Slot), lv_has ls 10 [(0, .ref a0), (1, .int a1), (2, .int a2), (3, .int a3), (4, .int j39_4), (5, .int j39_5)] → W p l e ({ frames := 341, cells := 0, slots := 0, locals := 8573 } : Room) s m args below meth c H locs 0 0 Q (F0 m 76 ls [.int k76_1, .int j39_4]) := by
                intro k76_1 ik76_1 H locs hw     ls hl
                refine lv_ior hx hb dX11_gates_76 ?_
                refine lv_topi (fun v86 e86 => ?_)
                have i86 : Iv v86 0 63 := iv_or e86 ij39_4 ik76_1 6 (by decide)
                refine lv_istore (lv' := [(4, .int v86), (0, .ref a0), (1, .int a1), (2, .int a2), (3, .int a3), (5, .int j39_5)]) hx hb dX11_gates_77 hl (by decide) rfl (fun ls hl => ?_)
                obtain ⟨v87, e87⟩ : ∃ y : Int32, y = j39_5 + 1 := ⟨_, rfl⟩
                have i87 : Iv v87 1 6 := iv_add e87 i78 (⟨by decide, by decide⟩ : Iv 1 1 1) (by decide)
                have x87 : v87.toInt = j39_5.toInt + 1 := ex_add e87 i78 (⟨by decide, by decide⟩ : Iv 1 1 1) (by decide)
                refine lv_iinc (v := v87) (lv' := [(5, .int v87), (4, .int v86), (0, .ref a0), (1, .int a1), (2, .int a2), (3, .int a3)]) hx hb dX11_gates_79 hl (k := 5) rfl (by rw [e87]; rfl) (by decide) rfl (fun ls hl => ?_)
                refine lv_goto (tgt := 39) hx hb dX11_gates_82 (by decide) ?_
                exact ih_39 v86 i86 v87 (iv_w i87 (by decide)) _ _ hw (ms_up x87 (by decide) (iv_w (a' := 0) (b' := 6) i87 (by decide)).2 hn_39) _ (lv_sub hl [2, 3, 4, 5, 1, 0] rfl)
              refine lv_if_ne (tgt := 72) hx hb dX11_gates_65 (by decide) (fun c88 => ?_) (fun c88 => ?_)
              · --
                have i89 : Iv v85 1 63 := iv_ne1 c88 p85_1 (⟨by decide, by decide⟩ : Iv 0 0 0) (by decide)
                refine lv_iconst (v := 1) hx hb dX11_gates_72 (by decide) ?_
                refine lv_iload hx hb dX11_gates_73 (lv_at hl 5 rfl) ?_
                refine lv_ishl hx hb dX11_gates_75 ?_
                refine lv_topi (fun v90 e90 => ?_)
                have i90 : Iv v90 1 32 := iv_shl1 e90 i78 (by decide)
                exact J_76 v90 (iv_w i90 (by decide)) _ _ hw _ (lv_sub hl [0, 1, 2, 3, 4, 5] rfl)
              · --
                have i91 : Iv v85 0 0 := iv_eq1 c88 p85_1 (⟨by decide, by decide⟩ : Iv 0 0 0) (by decide)
                refine lv_iconst (v := 0) hx hb dX11_gates_68 (by decide) ?_
                refine lv_goto (tgt := 76) hx hb dX11_gates_69 (by decide) ?_
                exact J_76 0 (iv_w (⟨by decide, by decide⟩ : Iv 0 0 0) (by decide)) _ _ hw _ (lv_sub hl [0, 1, 2, 3, 4, 5] rfl)
        exact J_39 _ 0 (iv_w (⟨by decide, by decide⟩ : Iv 0 0 0) (by decide)) 0 (iv_w (⟨by decide, by decide⟩ : Iv 0 0 0) (by decide)) _ _ hw (Nat.lt_succ_self _) _ (lv_sub hl [2, 3, 4, 5, 1, 0] rfl)
      · --
        have i92 : Iv v17 0 0 := iv_eq1 c18 p17_1 (⟨by decide, by decide⟩ : Iv 0 0 0) (by decide)
        refine lv_iconst (v := (-1)) hx hb dX11_gates_31 (by decide) ?_
        rw [← hQ]
        exact o_ri cx rx hw dX11_gates_32 fr
abbrev fs_X11_ways : List Nat := [657, 658]
abbrev ts_X11_ways : List Nat := [52, 67, 68]
set_option maxHeartbeats 4000000 in
set_option maxRecDepth 100000 in
theorem c_X11_ways (a0 : Nat) (ha0 : oA L τ a0 10) (a1 : Int32) (a2 : Int32) (a3 : Int32) : oMet l A L τ cy D K yX11_ways cX11_ways 9 (some .int) 4 97 [.ref a0, .int a1, .int a2, .int a3] σ (va_Qi (fun r σ1 => oFr τ fs_X11_ways ts_X11_ways σ σ1) (oPo A L τ cy D) A) := by
  refine oMk (by decide) (Nat.le_of_ble_eq_true rfl) rfl ?_
  intro p e s m args below meth c ls cx rx hA hw hl
  generalize hQ : MQ below _ args s 0 0 A = Q
  have hx := cx.1.1
  have hb := cx.1.2.1
  have hml := cx.1.2.2.1
  have hown := cx.1.2.2.2.1
  have hts := cx.1.2.2.2.2
  have hl : lv_has ls 9 [(0, .ref a0), (1, .int a1), (2, .int a2), (3, .int a3)] := hl
  have fr : oFr τ fs_X11_ways ts_X11_ways σ σ := oFr_rf
  refine lv_aload_n hx hb dX11_ways_0 rfl (lv_at hl 0 rfl) ?_
  refine lv_iconst (v := 0) hx hb dX11_ways_1 (by decide) ?_
  refine p_658 cx hw ha0 k_f_X11_89 dX11_ways_2 (fun σ1 H locs eσ1 hw => ?_)
  have fr := oFr_i fr eσ1 (by decide)
  refine lv_aload_n hx hb dX11_ways_5 rfl (lv_at hl 0 rfl) ?_
  refine lv_iload_n hx hb dX11_ways_6 rfl (lv_at hl 1 rfl) ?_
  have i2 : Iv (σ1.1 641 a0) 0 8 := o_fb (j := 641) hw ha0 rfl
  have i3 : Iv (σ1.1 642 a0) 0 8 := o_fb (j := 642) hw ha0 rfl
  refine o_ci hw (oRunV cx hA hw q_X11_isCell k_m_X11_157 rfl ha0 (by decide) (As := [.int a1]) (c_X11_isCell a0 ha0 a1) (by decide) rfl hl.1 rfl (Nat.le_of_ble_eq_true rfl) dX11_ways_7 (by decide)) (fun v5 σ4 H locs hp hw => ?_)
  obtain ⟨p5_0, p5_1, p5_2, p5_3⟩ := hp
  rw [p5_0] at hw
  refine lv_if_eq (tgt := 31) hx hb dX11_ways_10 (by decide) (fun c6 => ?_) (fun c6 => ?_)
  · --
    have i7 : Iv v5 0 0 := iv_eq1 c6 p5_1 (⟨by decide, by decide⟩ : Iv 0 0 0) (by decide)
    refine lv_iconst (v := (-1)) hx hb dX11_ways_31 (by decide) ?_
    rw [← hQ]
    exact o_ri cx rx hw dX11_ways_32 fr
  · --
    have i8 : Iv v5 1 1 := iv_ne1 c6 p5_1 (⟨by decide, by decide⟩ : Iv 0 0 0) (by decide)
    have i9 : Iv a1 0 63 := p5_2 c6
    refine lv_aload_n hx hb dX11_ways_13 rfl (lv_at hl 0 rfl) ?_
    refine lv_iload_n hx hb dX11_ways_14 rfl (lv_at hl 2 rfl) ?_
    refine o_ci hw (oRunV cx hA hw q_X11_isCell k_m_X11_157 rfl ha0 (by decide) (As := [.int a2]) (c_X11_isCell a0 ha0 a2) (by decide) rfl hl.1 rfl (Nat.le_of_ble_eq_true rfl) dX11_ways_15 (by decide)) (fun v11 σ10 H locs hp hw => ?_)
    obtain ⟨p11_0, p11_1, p11_2, p11_3⟩ := hp
    rw [p11_0] at hw
    refine lv_if_eq (tgt := 31) hx hb dX11_ways_18 (by decide) (fun c12 => ?_) (fun c12 => ?_)
    · --
      have i13 : Iv v11 0 0 := iv_eq1 c12 p11_1 (⟨by decide, by decide⟩ : Iv 0 0 0) (by decide)
      refine lv_iconst (v := (-1)) hx hb dX11_ways_31 (by decide) ?_
      rw [← hQ]
      exact o_ri cx rx hw dX11_ways_32 fr
    · --
      have i14 : Iv v11 1 1 := iv_ne1 c12 p11_1 (⟨by decide, by decide⟩ : Iv 0 0 0) (by decide)
      have i15 : Iv a2 0 63 := p11_2 c12
      refine lv_iload_n hx hb dX11_ways_21 rfl (lv_at hl 3 rfl) ?_
      refine lv_iconst (v := 0) hx hb dX11_ways_22 (by decide) ?_
      refine lv_bipush (v := 20) hx hb dX11_ways_23 (by decide) ?_
      refine o_ci hw (oRunS cx hA hw q_X11_in k_m_X11_95 (As := [.int a3, .int 0, .int 20]) (c_X11_in a3 0 20) (by decide) rfl hl.1 rfl (Nat.le_of_ble_eq_true rfl) dX11_ways_25 (by decide)) (fun v17 σ16 H locs hp hw => ?_)
      obtain ⟨p17_0, p17_1, p17_2, p17_3, p17_4, p17_5⟩ := hp
      rw [p17_0] at hw
      refine lv_if_ne (tgt := 33) hx hb dX11_ways_28 (by decide) (fun c18 => ?_) (fun c18 => ?_)
      · --
        have i19 : Iv v17 1 1 := iv_ne1 c18 p17_1 (⟨by decide, by decide⟩ : Iv 0 0 0) (by decide)
        have i20 : Iv a3 0 20 := (fun h => iv_rel (p17_2 h) (⟨by decide, by decide⟩ : Iv 0 0 0) (⟨by decide, by decide⟩ : Iv 20 20 20)) c18
        refine lv_aload_n hx hb dX11_ways_33 rfl (lv_at hl 0 rfl) ?_
        refine lv_aload_n hx hb dX11_ways_34 rfl (lv_at hl 0 rfl) ?_
        refine g_640 cx hw ha0 k_f_X11_9 dX11_ways_35 (fun v21 e21 h21 => ?_)
        refine o_cl hw (oRunV cx hA hw q_X11_roadOf k_m_X11_313 rfl ha0 (by decide) (As := [.ref v21]) (c_X11_roadOf a0 ha0 v21 h21) (by decide) rfl hl.1 rfl (Nat.le_of_ble_eq_true rfl) dX11_ways_38 (by decide)) (fun v23 σ22 H locs hp hw => ?_)
        have p23_0 := hp
        rw [p23_0] at hw
        refine lv_lstore (lv' := [(4, .long v23), (0, .ref a0), (1, .int a1), (2, .int a2), (3, .int a3)]) hx hb dX11_ways_41 hl (by decide) rfl (fun ls hl => ?_)
        refine lv_aload_n hx hb dX11_ways_43 rfl (lv_at hl 1 rfl) ?_
        refine lv_iload_n hx hb dX11_ways_44 rfl (lv_at hl 3 rfl) ?_
        refine lv_iload_n hx hb dX11_ways_45 rfl (lv_at hl 4 rfl) ?_
        refine lv_lload hx hb dX11_ways_46 (lv_at hl 0 rfl) ?_
        refine o_cv hw (oRunV cx hA hw q_X11_findWalks k_m_X11_363 rfl ha0 (by decide) (As := [.int a2, .int a3, .long v23]) (c_X11_findWalks a0 ha0 a2 a3 v23) (by decide) rfl hl.1 rfl (Nat.le_of_ble_eq_true rfl) dX11_ways_48 (by decide)) (fun σ24 H locs hp hw => ?_)
        have p25_0 := hp
        have fr := oFr_tr fr p25_0 (by decide)
        refine lv_aload_n hx hb dX11_ways_51 rfl (lv_at hl 1 rfl) ?_
        refine g_678 cx hw ha0 k_f_X11_70 dX11_ways_52 (fun v26 e26 h26 => ?_)
        refine lv_iload_n hx hb dX11_ways_55 rfl (lv_at hl 2 rfl) ?_
        refine o_iald cx hw h26 (by decide) rfl (iv_in i9 (by decide)) dX11_ways_56 (fun v27 e27 b27 => ?_)
        refine lv_istore (lv' := [(6, .int v27), (4, .long v23), (0, .ref a0), (1, .int a1), (2, .int a2), (3, .int a3)]) hx hb dX11_ways_57 hl (by decide) rfl (fun ls hl => ?_)
        refine lv_iconst (v := (-1)) hx hb dX11_ways_59 (by decide) ?_
        refine lv_istore (lv' := [(7, .int (-1)), (6, .int v27), (4, .long v23), (0, .ref a0), (1, .int a1), (2, .int a2), (3, .int a3)]) hx hb dX11_ways_60 hl (by decide) rfl (fun ls hl => ?_)
        refine lv_iload_n hx hb dX11_ways_62 rfl (lv_at hl 6 rfl) ?_
        have frE_124 := fr
        have J_124 : ∀ (j124_7 : Int32) (ij124_7 : Iv j124_7 (-1) 63), ∀ (σ_124 : oSt) (H : Heap) (locs : List Loc), oI A L τ cy D s.heap σ_124 H locs → oFr τ fs_X11_ways ts_X11_ways σ σ_124 → ∀ (ls : Array Slot), lv_has ls 9 [(0, .ref a0), (1, .int a1), (2, .int a2), (3, .int a3), (4, .long v23), (6, .int v27), (7, .int j124_7)] → W p l e ({ frames := 4, cells := 0, slots := 0, locals := 97 } : Room) s m args below meth c H locs 0 0 Q (F0 m 124 ls []) := by
          intro j124_7 ij124_7 σ_124 H locs hw fr      ls hl
          have fr_124 := fr
          refine lv_aload_n hx hb dX11_ways_124 rfl (lv_at hl 0 rfl) ?_
          refine lv_iconst (v := 0) hx hb dX11_ways_125 (by decide) ?_
          refine p_657 cx hw ha0 (iv_w (⟨by decide, by decide⟩ : Iv 0 0 0) (by decide)) k_f_X11_92 dX11_ways_126 (fun σ28 H locs eσ28 hw => ?_)
          have fr := oFr_i fr eσ28 (by decide)
          refine lv_aload_n hx hb dX11_ways_129 rfl (lv_at hl 0 rfl) ?_
          refine lv_iload hx hb dX11_ways_130 (lv_at hl 6 rfl) ?_
          refine lv_i2l hx hb dX11_ways_132 rfl ?_
          refine lv_topl (fun v29 e29 => ?_)
          refine o_cv hw (oRunV cx hA hw q_X11_tell k_m_X11_278 rfl ha0 (by decide) (As := [.long v29]) (c_X11_tell a0 ha0 v29 (kn_iv ((kp_s eσ28)) (iv_w (⟨by decide, by decide⟩ : Iv 0 0 0) (by decide)))) (by decide) rfl hl.1 rfl (Nat.le_of_ble_eq_true rfl) dX11_ways_133 (by decide)) (fun σ30 H locs hp hw => ?_)
          obtain ⟨p31_0, p31_1⟩ := hp
          have fr := oFr_tr fr p31_0 (by decide)
          have x33 : (σ30.1 657 a0).toInt = (0 : Int32).toInt + 1 := fin_tr p31_1 ((kp_s eσ28))
          have i32 : Iv (σ30.1 657 a0) 1 1 := iv_fin x33 (⟨by decide, by decide⟩ : Iv 0 0 0) (by decide)
          refine lv_iload hx hb dX11_ways_136 (lv_at hl 5 rfl) ?_
          rw [← hQ]
          exact o_ri cx rx hw dX11_ways_138 fr
        refine lv_if_le (tgt := 124) hx hb dX11_ways_63 (by decide) (fun c34 => ?_) (fun c34 => ?_)
        · --
          have i35 : Iv a3 0 0 := iv_le1 c34 i20 (⟨by decide, by decide⟩ : Iv 0 0 0) (by decide)
          exact J_124 (-1) (iv_w (⟨by decide, by decide⟩ : Iv (-1) (-1) (-1)) (by decide)) σ24 _ _ hw fr _ (lv_sub hl [3, 4, 5, 6, 2, 1, 0] rfl)
        · --
          have i36 : Iv a3 1 20 := iv_lt2 (iv_nle c34) (⟨by decide, by decide⟩ : Iv 0 0 0) i20 (by decide)
          refine lv_iload hx hb dX11_ways_66 (lv_at hl 1 rfl) ?_
          refine lv_if_le (tgt := 124) hx hb dX11_ways_68 (by decide) (fun c37 => ?_) (fun c37 => ?_)
          · --
            have i38 : Iv v27 (-2147483648) 0 := iv_le1 c37 (iv_top v27) (⟨by decide, by decide⟩ : Iv 0 0 0) (by decide)
            exact J_124 (-1) (iv_w (⟨by decide, by decide⟩ : Iv (-1) (-1) (-1)) (by decide)) σ24 _ _ hw fr _ (lv_sub hl [3, 4, 5, 6, 2, 1, 0] rfl)
          · --
            have i39 : Iv v27 1 2147483647 := iv_lt2 (iv_nle c37) (⟨by decide, by decide⟩ : Iv 0 0 0) (iv_top v27) (by decide)
            refine lv_aload_n hx hb dX11_ways_71 rfl (lv_at hl 3 rfl) ?_
            refine lv_iload_n hx hb dX11_ways_72 rfl (lv_at hl 5 rfl) ?_
            refine lv_iload_n hx hb dX11_ways_73 rfl (lv_at hl 6 rfl) ?_
            refine lv_iconst (v := 1) hx hb dX11_ways_74 (by decide) ?_
            refine lv_isub hx hb dX11_ways_75 ?_
            refine lv_topi (fun v40 e40 => ?_)
            have i40 : Iv v40 0 19 := iv_sub e40 i36 (⟨by decide, by decide⟩ : Iv 1 1 1) (by decide)
            have x40 : v40.toInt = a3.toInt + (-1) := ex_sub e40 i36 (⟨by decide, by decide⟩ : Iv 1 1 1) (by decide)
            refine lv_lload hx hb dX11_ways_76 (lv_at hl 2 rfl) ?_
            refine o_cv hw (oRunV cx hA hw q_X11_findWalks k_m_X11_363 rfl ha0 (by decide) (As := [.int a2, .int v40, .long v23]) (c_X11_findWalks a0 ha0 a2 v40 v23) (by decide) rfl hl.1 rfl (Nat.le_of_ble_eq_true rfl) dX11_ways_78 (by decide)) (fun σ41 H locs hp hw => ?_)
            have p42_0 := hp
            have fr := oFr_tr fr p42_0 (by decide)
            refine lv_bipush (v := 63) hx hb dX11_ways_81 (by decide) ?_
            refine lv_istore (lv' := [(8, .int 63), (7, .int (-1)), (6, .int v27), (4, .long v23), (0, .ref a0), (1, .int a1), (2, .int a2), (3, .int a3)]) hx hb dX11_ways_83 hl (by decide) rfl (fun ls hl => ?_)
            have J_85 : ∀ n85 : Nat, ∀ (j85_7 : Int32) (ij85_7 : Iv j85_7 (-1) 63) (j85_8 : Int32) (ij85_8 : Iv j85_8 (-1) 63), ∀ (H : Heap) (locs : List Loc), oI A L τ cy D s.heap σ41 H locs → (j85_8.toInt - (-1)).toNat < n85 → ∀ (ls : Array Slot), lv_has ls 9 [(0, .ref a0), (1, .int a1), (2, .int a2), (3, .int a3), (4, .long v23), (6, .int v27), (7, .int j85_7), (8, .int j85_8)] → W p l e ({ frames := 4, cells := 0, slots := 0, locals := 97 } : Room) s m args below meth c H locs 0 0 Q (F0 m 85 ls []) := by
              intro n85
              induction n85 with
              | zero => intro j85_7 ij85_7 j85_8 ij85_8 H locs hw  hn_85   ls hl; exact absurd hn_85 (Nat.not_lt_zero _)
              | succ n85 ih_85 =>
                intro j85_7 ij85_7 j85_8 ij85_8 H locs hw  hn_85   ls hl
                refine lv_iload hx hb dX11_ways_85 (lv_at hl 7 rfl) ?_
                refine lv_if_lt (tgt := 124) hx hb dX11_ways_87 (by decide) (fun c43 => ?_) (fun c43 => ?_)
                · --
                  have i44 : Iv j85_8 (-1) (-1) := iv_lt1 c43 ij85_8 (⟨by decide, by decide⟩ : Iv 0 0 0) (by decide)
                  exact J_124 j85_7 ij85_7 σ41 _ _ hw fr _ (lv_sub hl [0, 1, 2, 3, 4, 5, 6] rfl)
                · --
                  have i45 : Iv j85_8 0 63 := iv_le2 (iv_nlt c43) (⟨by decide, by decide⟩ : Iv 0 0 0) ij85_8 (by decide)
                  refine lv_lconst (v := 1) hx hb dX11_ways_90 (by decide) ?_
                  refine lv_iload_n hx hb dX11_ways_91 rfl (lv_at hl 1 rfl) ?_
                  refine lv_lshl hx hb dX11_ways_92 rfl ?_
                  refine lv_topl (fun v46 e46 => ?_)
                  refine o_cl hw (oRunS cx hA hw q_X11_besides k_m_X11_309 (As := [.long v46]) (c_X11_besides v46) (by decide) rfl hl.1 rfl (Nat.le_of_ble_eq_true rfl) dX11_ways_93 (by decide)) (fun v48 σ47 H locs hp hw => ?_)
                  obtain ⟨p48_0, p48_1⟩ := hp
                  rw [p48_0] at hw
                  refine lv_iload hx hb dX11_ways_96 (lv_at hl 7 rfl) ?_
                  refine o_ci hw (oRunS cx hA hw q_X11_has k_m_X11_215 (As := [.long v48, .int j85_8]) (c_X11_has v48 j85_8) (by decide) rfl hl.1 rfl (Nat.le_of_ble_eq_true rfl) dX11_ways_98 (by decide)) (fun v50 σ49 H locs hp hw => ?_)
                  obtain ⟨p50_0, p50_1, p50_2⟩ := hp
                  rw [p50_0] at hw
                  have J_118 : ∀ (j118_7 : Int32) (ij118_7 : Iv j118_7 (-1) 63), ∀ (H : Heap) (locs : List Loc), oI A L τ cy D s.heap σ41 H locs → ∀ (ls : Array Slot), lv_has ls 9 [(0, .ref a0), (1, .int a1), (2, .int a2), (3, .int a3), (4, .long v23), (6, .int v27), (7, .int j118_7), (8, .int j85_8)] → W p l e ({ frames := 4, cells := 0, slots := 0, locals := 97 } : Room) s m args below meth c H locs 0 0 Q (F0 m 118 ls []) := by
                    intro j118_7 ij118_7 H locs hw     ls hl
                    obtain ⟨v51, e51⟩ : ∃ y : Int32, y = j85_8 + (-1) := ⟨_, rfl⟩
                    have i51 : Iv v51 (-1) 62 := iv_add e51 i45 (⟨by decide, by decide⟩ : Iv (-1) (-1) (-1)) (by decide)
                    have x51 : v51.toInt = j85_8.toInt + (-1) := ex_add e51 i45 (⟨by decide, by decide⟩ : Iv (-1) (-1) (-1)) (by decide)
                    refine lv_iinc (v := v51) (lv' := [(8, .int v51), (0, .ref a0), (1, .int a1), (2, .int a2), (3, .int a3), (4, .long v23), (6, .int v27), (7, .int j118_7)]) hx hb dX11_ways_118 hl (k := 7) rfl (by rw [e51]; rfl) (by decide) rfl (fun ls hl => ?_)
                    refine lv_goto (tgt := 85) hx hb dX11_ways_121 (by decide) ?_
                    exact ih_85 j118_7 ij118_7 v51 (iv_w i51 (by decide)) _ _ hw (ms_dn x51 (by decide) (iv_w (a' := (-1)) (b' := 63) i51 (by decide)).1 hn_85) _ (lv_sub hl [1, 2, 3, 4, 5, 6, 7, 0] rfl)
                  refine lv_if_eq (tgt := 118) hx hb dX11_ways_101 (by decide) (fun c52 => ?_) (fun c52 => ?_)
                  · --
                    have i53 : Iv v50 0 0 := iv_eq1 c52 p50_1 (⟨by decide, by decide⟩ : Iv 0 0 0) (by decide)
                    exact J_118 j85_7 ij85_7 _ _ hw _ (lv_sub hl [0, 1, 2, 3, 4, 5, 6, 7] rfl)
                  · --
                    have i54 : Iv v50 1 1 := iv_ne1 c52 p50_1 (⟨by decide, by decide⟩ : Iv 0 0 0) (by decide)
                    refine lv_aload_n hx hb dX11_ways_104 rfl (lv_at hl 0 rfl) ?_
                    refine g_678 cx hw ha0 k_f_X11_70 dX11_ways_105 (fun v55 e55 h55 => ?_)
                    rw [show v55 = v26 from Option.some.inj (e55.symm.trans (((kr_c p42_0 (by decide)).trans e26)))]
                    refine lv_iload hx hb dX11_ways_108 (lv_at hl 7 rfl) ?_
                    refine o_iald cx hw h26 (by decide) rfl (iv_in i45 (by decide)) dX11_ways_110 (fun v56 e56 b56 => ?_)
                    refine lv_if_le (tgt := 118) hx hb dX11_ways_111 (by decide) (fun c57 => ?_) (fun c57 => ?_)
                    · --
                      have i58 : Iv v56 (-2147483648) 0 := iv_le1 c57 (iv_top v56) (⟨by decide, by decide⟩ : Iv 0 0 0) (by decide)
                      exact J_118 j85_7 ij85_7 _ _ hw _ (lv_sub hl [0, 1, 2, 3, 4, 5, 6, 7] rfl)
                    · --
                      have i59 : Iv v56 1 2147483647 := iv_lt2 (iv_nle c57) (⟨by decide, by decide⟩ : Iv 0 0 0) (iv_top v56) (by decide)
                      refine lv_iload hx hb dX11_ways_114 (lv_at hl 7 rfl) ?_
                      refine lv_istore (lv' := [(7, .int j85_8), (0, .ref a0), (1, .int a1), (2, .int a2), (3, .int a3), (4, .long v23), (6, .int v27), (8, .int j85_8)]) hx hb dX11_ways_116 hl (by decide) rfl (fun ls hl => ?_)
                      exact J_118 j85_8 (iv_w i45 (by decide)) _ _ hw _ (lv_sub hl [1, 2, 3, 4, 5, 6, 0, 7] rfl)
            exact J_85 _ (-1) (iv_w (⟨by decide, by decide⟩ : Iv (-1) (-1) (-1)) (by decide)) 63 (iv_w (⟨by decide, by decide⟩ : Iv 63 63 63) (by decide)) _ _ hw (Nat.lt_succ_self _) _ (lv_sub hl [4, 5, 6, 7, 3, 2, 1, 0] rfl)
      · --
        have i60 : Iv v17 0 0 := iv_eq1 c18 p17_1 (⟨by decide, by decide⟩ : Iv 0 0 0) (by decide)
        refine lv_iconst (v := (-1)) hx hb dX11_ways_31 (by decide) ?_
        rw [← hQ]
        exact o_ri cx rx hw dX11_ways_32 fr
abbrev fs_X11_bride : List Nat := [655, 657, 658, 659, 660, 661, 662, 663]
abbrev ts_X11_bride : List Nat := [52, 58, 66, 67, 68]
set_option maxHeartbeats 4000000 in
set_option maxRecDepth 100000 in
theorem c_X11_bride (a0 : Nat) (ha0 : oA L τ a0 10) : oMet l A L τ cy D K yX11_bride cX11_bride 9 (some .int) 4 97 [.ref a0] σ (va_Qi (fun r σ1 => oFr τ fs_X11_bride ts_X11_bride σ σ1 ∧ Iv (σ1.1 655 a0) 0 0) (oPo A L τ cy D) A) := by
  refine oMk (by decide) (Nat.le_of_ble_eq_true rfl) rfl ?_
  intro p e s m args below meth c ls cx rx hA hw hl
  generalize hQ : MQ below _ args s 0 0 A = Q
  have hx := cx.1.1
  have hb := cx.1.2.1
  have hml := cx.1.2.2.1
  have hown := cx.1.2.2.2.1
  have hts := cx.1.2.2.2.2
  have hl : lv_has ls 9 [(0, .ref a0)] := hl
  have fr : oFr τ fs_X11_bride ts_X11_bride σ σ := oFr_rf
  refine lv_aload_n hx hb dX11_bride_0 rfl (lv_at hl 0 rfl) ?_
  refine lv_iconst (v := 0) hx hb dX11_bride_1 (by decide) ?_
  refine p_658 cx hw ha0 k_f_X11_89 dX11_bride_2 (fun σ1 H locs eσ1 hw => ?_)
  have fr := oFr_i fr eσ1 (by decide)
  refine lv_aload_n hx hb dX11_bride_5 rfl (lv_at hl 0 rfl) ?_
  refine lv_aload_n hx hb dX11_bride_6 rfl (lv_at hl 0 rfl) ?_
  refine g_654 cx hw ha0 k_f_X11_32 dX11_bride_7 (fun v2 e2 h2 => ?_)
  refine lv_aload_n hx hb dX11_bride_10 rfl (lv_at hl 0 rfl) ?_
  refine g_655 cx hw ha0 k_f_X11_108 dX11_bride_11 (fun v3 e3 i3 => ?_)
  refine lv_bipush (v := 80) hx hb dX11_bride_14 (by decide) ?_
  have i4 : Iv (σ1.1 660 a0) 0 80 := o_fb (j := 660) hw ha0 rfl
  have i5 : Iv (σ1.1 661 a0) 0 80 := o_fb (j := 661) hw ha0 rfl
  refine o_cv hw (oRunV cx hA hw q_X11_begin k_m_X11_142 rfl ha0 (by decide) (As := [.ref v2, .int v3, .int 80]) (c_X11_beginT a0 ha0 v2 h2 v3 (iv_w i3 (by decide)) 80 (iv_w (⟨by decide, by decide⟩ : Iv 80 80 80) (by decide))) (by decide) rfl hl.1 rfl (Nat.le_of_ble_eq_true rfl) dX11_bride_16 (by decide)) (fun σ6 H locs hp hw => ?_)
  obtain ⟨p7_0, p7_1, p7_2, p7_3, p7_4, p7_5, p7_6⟩ := hp
  have fr := oFr_tr fr p7_0 (by decide)
  refine lv_aload_n hx hb dX11_bride_19 rfl (lv_at hl 0 rfl) ?_
  refine lv_iconst (v := 0) hx hb dX11_bride_20 (by decide) ?_
  refine p_655 cx hw ha0 (iv_w (⟨by decide, by decide⟩ : Iv 0 0 0) (by decide)) k_f_X11_108 dX11_bride_21 (fun σ8 H locs eσ8 hw => ?_)
  have fr := oFr_i fr eσ8 (by decide)
  refine lv_iconst (v := 0) hx hb dX11_bride_24 (by decide) ?_
  refine lv_istore_n (lv' := [(1, .int 0), (0, .ref a0)]) hx hb dX11_bride_25 rfl hl (by decide) rfl (fun ls hl => ?_)
  refine lv_aload_n hx hb dX11_bride_26 rfl (lv_at hl 1 rfl) ?_
  have z9 : (σ8.1 663 a0).toInt = ((σ6.1 663 a0) : Int32).toInt := congrArg Int32.toInt (show σ8.1 663 a0 = (σ6.1 663 a0) from ((kp_i eσ8 (by decide)).trans rfl))
  refine o_ci hw (oRunV cx hA hw q_X11_fine k_m_X11_126 rfl ha0 (by decide) (As := []) (c_X11_fine a0 ha0) (by decide) rfl hl.1 rfl (Nat.le_of_ble_eq_true rfl) dX11_bride_27 (by decide)) (fun v11 σ10 H locs hp hw => ?_)
  obtain ⟨p11_0, p11_1, p11_2⟩ := hp
  rw [p11_0] at hw
  have i12 : Iv v11 1 1 := (by have := (p11_1).1; have := (p11_1).2; have := (p7_2).1; have := (p7_2).2; have := (p7_3).1; have := (p7_3).2; have := (p7_4).1; have := (p7_4).2; have := (p7_5).1; have := (p7_5).2; have := (i4).1; have := (i4).2; have := (i5).1; have := (i5).2; have : (σ8.1 658 a0).toInt = (0 : Int32).toInt := congrArg Int32.toInt (show σ8.1 658 a0 = 0 from ((kp_i eσ8 (by decide)).trans ((kp_c p7_0 (by decide)).trans (kp_s eσ1)))); have : (σ8.1 660 a0).toInt = ((σ6.1 660 a0) : Int32).toInt := congrArg Int32.toInt (show σ8.1 660 a0 = (σ6.1 660 a0) from ((kp_i eσ8 (by decide)).trans rfl)); have : (σ8.1 661 a0).toInt = ((σ6.1 661 a0) : Int32).toInt := congrArg Int32.toInt (show σ8.1 661 a0 = (σ6.1 661 a0) from ((kp_i eσ8 (by decide)).trans rfl)); have : (σ8.1 662 a0).toInt = ((σ6.1 662 a0) : Int32).toInt := congrArg Int32.toInt (show σ8.1 662 a0 = (σ6.1 662 a0) from ((kp_i eσ8 (by decide)).trans rfl)); have : (σ8.1 663 a0).toInt = ((σ6.1 663 a0) : Int32).toInt := congrArg Int32.toInt (show σ8.1 663 a0 = (σ6.1 663 a0) from ((kp_i eσ8 (by decide)).trans rfl)); have : (σ8.1 655 a0).toInt = (0 : Int32).toInt := congrArg Int32.toInt (show σ8.1 655 a0 = 0 from (kp_s eσ8)); have : (0 : Int32).toInt = 0 := (by decide); have : (80 : Int32).toInt = 80 := (by decide); exact ⟨by omega, by omega⟩)
  have frE_103 := fr
  have J_103 : ∀ (j103_1 : Int32) (ij103_1 : Iv j103_1 1 12), ∀ (σ_103 : oSt) (H : Heap) (locs : List Loc), oI A L τ cy D s.heap σ_103 H locs → oFr τ fs_X11_bride ts_X11_bride σ σ_103 → Iv (σ_103.1 655 a0) 0 0 → Iv (σ_103.1 660 a0) 0 80 → Iv (σ_103.1 661 a0) 0 80 → Iv (σ_103.1 662 a0) 0 200 → Iv (σ_103.1 663 a0) (-1) 200 → σ_103.2.2.2.2 659 a0 = some v2 → ∀ (ls : Array Slot), lv_has ls 9 [(0, .ref a0), (1, .int j103_1)] → W p l e ({ frames := 4, cells := 0, slots := 0, locals := 97 } : Room) s m args below meth c H locs 0 0 Q (F0 m 103 ls []) := by
    intro j103_1 ij103_1 σ_103 H locs hw fr f103_655_a0 f103_660_a0 f103_661_a0 f103_662_a0 f103_663_a0 r103_659     ls hl
    have fr_103 := fr
    refine lv_aload_n hx hb dX11_bride_103 rfl (lv_at hl 0 rfl) ?_
    refine o_ci hw (oRunV cx hA hw q_X11_fine k_m_X11_126 rfl ha0 (by decide) (As := []) (c_X11_fine a0 ha0) (by decide) rfl hl.1 rfl (Nat.le_of_ble_eq_true rfl) dX11_bride_104 (by decide)) (fun v14 σ13 H locs hp hw => ?_)
    obtain ⟨p14_0, p14_1, p14_2⟩ := hp
    rw [p14_0] at hw
    refine lv_if_ne (tgt := 117) hx hb dX11_bride_107 (by decide) (fun c15 => ?_) (fun c15 => ?_)
    · --
      have i16 : Iv v14 1 1 := iv_ne1 c15 p14_1 (⟨by decide, by decide⟩ : Iv 0 0 0) (by decide)
      have i17 : Iv (σ_103.1 663 a0) (-1) (-1) := (fun h => (by have := nz_ti h; have := (ij103_1).1; have := (ij103_1).2; have := (p14_1).1; have := (p14_1).2; have := (f103_660_a0).1; have := (f103_660_a0).2; have := (f103_661_a0).1; have := (f103_661_a0).2; have := (f103_662_a0).1; have := (f103_662_a0).2; have := (f103_655_a0).1; have := (f103_655_a0).2; have := (f103_663_a0).1; have := (f103_663_a0).2; have := (i4).1; have := (i4).2; have := (i5).1; have := (i5).2; have := (p7_2).1; have := (p7_2).2; have := (p7_3).1; have := (p7_3).2; have := (p7_4).1; have := (p7_4).2; have := (p7_5).1; have := (p7_5).2; have := (i12).1; have := (i12).2; have : (80 : Int32).toInt = 80 := (by decide); exact ⟨by omega, by omega⟩)) c15
      refine lv_aload_n hx hb dX11_bride_117 rfl (lv_at hl 0 rfl) ?_
      refine lv_aload_n hx hb dX11_bride_118 rfl (lv_at hl 0 rfl) ?_
      refine g_640 cx hw ha0 k_f_X11_9 dX11_bride_119 (fun v18 e18 h18 => ?_)
      refine o_cl hw (oRunV cx hA hw q_X11_roadOf k_m_X11_313 rfl ha0 (by decide) (As := [.ref v18]) (c_X11_roadOf a0 ha0 v18 h18) (by decide) rfl hl.1 rfl (Nat.le_of_ble_eq_true rfl) dX11_bride_122 (by decide)) (fun v20 σ19 H locs hp hw => ?_)
      have p20_0 := hp
      rw [p20_0] at hw
      refine lv_lstore_n (lv' := [(2, .long v20), (0, .ref a0), (1, .int j103_1)]) hx hb dX11_bride_125 rfl hl (by decide) rfl (fun ls hl => ?_)
      refine lv_lload_n hx hb dX11_bride_126 rfl (lv_at hl 0 rfl) ?_
      refine lv_aload_n hx hb dX11_bride_127 rfl (lv_at hl 1 rfl) ?_
      refine g_680 cx hw ha0 k_f_X11_76 dX11_bride_128 (fun v21 e21 h21 => ?_)
      refine lv_iconst (v := 0) hx hb dX11_bride_131 (by decide) ?_
      refine o_iald cx hw h21 (by decide) rfl (iv_in (⟨by decide, by decide⟩ : Iv 0 0 0) (by decide)) dX11_bride_132 (fun v22 e22 b22 => ?_)
      have i22 : Iv v22 0 63 := b22
      refine o_ci hw (oRunS cx hA hw q_X11_has k_m_X11_215 (As := [.long v20, .int v22]) (c_X11_has v20 v22) (by decide) rfl hl.1 rfl (Nat.le_of_ble_eq_true rfl) dX11_bride_133 (by decide)) (fun v24 σ23 H locs hp hw => ?_)
      obtain ⟨p24_0, p24_1, p24_2⟩ := hp
      rw [p24_0] at hw
      refine lv_if_ne (tgt := 142) hx hb dX11_bride_136 (by decide) (fun c25 => ?_) (fun c25 => ?_)
      · --
        have i26 : Iv v24 1 1 := iv_ne1 c25 p24_1 (⟨by decide, by decide⟩ : Iv 0 0 0) (by decide)
        refine lv_iconst (v := 0) hx hb dX11_bride_142 (by decide) ?_
        refine lv_istore (lv' := [(4, .int 0), (2, .long v20), (0, .ref a0), (1, .int j103_1)]) hx hb dX11_bride_143 hl (by decide) rfl (fun ls hl => ?_)
        refine lv_lconst (v := 1) hx hb dX11_bride_145 (by decide) ?_
        refine lv_lstore (lv' := [(5, .long 1), (4, .int 0), (2, .long v20), (0, .ref a0), (1, .int j103_1)]) hx hb dX11_bride_146 hl (by decide) rfl (fun ls hl => ?_)
        refine lv_iconst (v := 1) hx hb dX11_bride_148 (by decide) ?_
        refine lv_istore (lv' := [(7, .int 1), (5, .long 1), (4, .int 0), (2, .long v20), (0, .ref a0), (1, .int j103_1)]) hx hb dX11_bride_149 hl (by decide) rfl (fun ls hl => ?_)
        have frE_151 := fr
        have J_151 : ∀ n151 : Nat, ∀ (j151_4 : Int32) (j151_5 : Int64) (j151_7 : Int32) (ij151_7 : Iv j151_7 1 12), ∀ (σ_151 : oSt) (H : Heap) (locs : List Loc), oI A L τ cy D s.heap σ_151 H locs → oFr τ fs_X11_bride ts_X11_bride σ σ_151 → Iv (σ_151.1 655 a0) 0 0 → Iv (σ_151.1 660 a0) 0 80 → Iv (σ_151.1 661 a0) 0 80 → Iv (σ_151.1 662 a0) 0 200 → Iv (σ_151.1 663 a0) (-1) (-1) → σ_151.2.2.2.2 659 a0 = some v2 → (12 - j151_7.toInt).toNat < n151 → ∀ (ls : Array Slot), lv_has ls 9 [(0, .ref a0), (1, .int j103_1), (2, .long v20), (4, .int j151_4), (5, .long j151_5), (7, .int j151_7)] → W p l e ({ frames := 4, cells := 0, slots := 0, locals := 97 } : Room) s m args below meth c H locs 0 0 Q (F0 m 151 ls []) := by
          intro n151
          induction n151 with
          | zero => intro j151_4 j151_5 j151_7 ij151_7 σ_151 H locs hw fr f151_655_a0 f151_660_a0 f151_661_a0 f151_662_a0 f151_663_a0 r151_659  hn_151   ls hl; exact absurd hn_151 (Nat.not_lt_zero _)
          | succ n151 ih_151 =>
            intro j151_4 j151_5 j151_7 ij151_7 σ_151 H locs hw fr f151_655_a0 f151_660_a0 f151_661_a0 f151_662_a0 f151_663_a0 r151_659  hn_151   ls hl
            have fr_151 := fr
            refine lv_iload hx hb dX11_bride_151 (lv_at hl 5 rfl) ?_
            refine lv_iload_n hx hb dX11_bride_153 rfl (lv_at hl 1 rfl) ?_
            refine lv_icmp_ge (tgt := 249) hx hb dX11_bride_154 (by decide) (fun c27 => ?_) (fun c27 => ?_)
            · --
              refine lv_aload_n hx hb dX11_bride_249 rfl (lv_at hl 0 rfl) ?_
              refine lv_iconst (v := 0) hx hb dX11_bride_250 (by decide) ?_
              refine p_657 cx hw ha0 (iv_w (⟨by decide, by decide⟩ : Iv 0 0 0) (by decide)) k_f_X11_92 dX11_bride_251 (fun σ28 H locs eσ28 hw => ?_)
              have fr := oFr_i fr eσ28 (by decide)
              refine lv_aload_n hx hb dX11_bride_254 rfl (lv_at hl 0 rfl) ?_
              refine lv_lload hx hb dX11_bride_255 (lv_at hl 4 rfl) ?_
              refine o_cv hw (oRunV cx hA hw q_X11_tell k_m_X11_278 rfl ha0 (by decide) (As := [.long j151_5]) (c_X11_tell a0 ha0 j151_5 (kn_iv ((kp_s eσ28)) (iv_w (⟨by decide, by decide⟩ : Iv 0 0 0) (by decide)))) (by decide) rfl hl.1 rfl (Nat.le_of_ble_eq_true rfl) dX11_bride_257 (by decide)) (fun σ29 H locs hp hw => ?_)
              obtain ⟨p30_0, p30_1⟩ := hp
              have fr := oFr_tr fr p30_0 (by decide)
              have x32 : (σ29.1 657 a0).toInt = (0 : Int32).toInt + 1 := fin_tr p30_1 ((kp_s eσ28))
              have i31 : Iv (σ29.1 657 a0) 1 1 := iv_fin x32 (⟨by decide, by decide⟩ : Iv 0 0 0) (by decide)
              refine lv_iload hx hb dX11_bride_260 (lv_at hl 3 rfl) ?_
              rw [← hQ]
              exact o_ri cx rx hw dX11_bride_262 ⟨fr, (kn_iv (((kp_c p30_0 (by decide)).trans ((kp_i eσ28 (by decide)).trans rfl))) (iv_w f151_655_a0 (by decide)))⟩
            · --
              have i33 : Iv j151_7 1 11 := iv_lt1 (iv_nle c27) ij151_7 ij103_1 (by decide)
              have i34 : Iv j103_1 2 12 := iv_lt2 (iv_nle c27) ij151_7 ij103_1 (by decide)
              refine lv_aload_n hx hb dX11_bride_157 rfl (lv_at hl 0 rfl) ?_
              refine lv_aload_n hx hb dX11_bride_158 rfl (lv_at hl 0 rfl) ?_
              refine g_680 cx hw ha0 k_f_X11_76 dX11_bride_159 (fun v35 e35 h35 => ?_)
              rw [show v35 = v21 from Option.some.inj (e35.symm.trans (((kr_c fr_151 (by decide)).trans ((kr_c frE_151 (by decide)).symm.trans (e21)))))]
              refine lv_iload hx hb dX11_bride_162 (lv_at hl 5 rfl) ?_
              refine o_iald cx hw h21 (by decide) rfl (iv_in i33 (by decide)) dX11_bride_164 (fun v36 e36 b36 => ?_)
              have i36 : Iv v36 0 63 := b36
              refine lv_lload_n hx hb dX11_bride_165 rfl (lv_at hl 2 rfl) ?_
              refine o_cv hw (oRunV cx hA hw q_X11_findFar k_m_X11_330 rfl ha0 (by decide) (As := [.int v36, .long v20]) (c_X11_findFar a0 ha0 v36 v20) (by decide) rfl hl.1 rfl (Nat.le_of_ble_eq_true rfl) dX11_bride_166 (by decide)) (fun σ37 H locs hp hw => ?_)
              obtain ⟨p38_0, p38_1⟩ := hp
              have fr := oFr_tr fr p38_0 (by decide)
              refine lv_aload_n hx hb dX11_bride_169 rfl (lv_at hl 0 rfl) ?_
              refine g_676 cx hw ha0 k_f_X11_64 dX11_bride_170 (fun v39 e39 h39 => ?_)
              refine lv_aload_n hx hb dX11_bride_173 rfl (lv_at hl 0 rfl) ?_
              refine g_680 cx hw ha0 k_f_X11_76 dX11_bride_174 (fun v40 e40 h40 => ?_)
              rw [show v40 = v21 from Option.some.inj (e40.symm.trans (((kr_c p38_0 (by decide)).trans ((kr_c fr_151 (by decide)).trans ((kr_c frE_151 (by decide)).symm.trans (e21))))))]
              refine lv_iload hx hb dX11_bride_177 (lv_at hl 5 rfl) ?_
              refine lv_iconst (v := 1) hx hb dX11_bride_179 (by decide) ?_
              refine lv_isub hx hb dX11_bride_180 ?_
              refine lv_topi (fun v41 e41 => ?_)
              have i41 : Iv v41 0 10 := iv_sub e41 i33 (⟨by decide, by decide⟩ : Iv 1 1 1) (by decide)
              have x41 : v41.toInt = j151_7.toInt + (-1) := ex_sub e41 i33 (⟨by decide, by decide⟩ : Iv 1 1 1) (by decide)
              refine o_iald cx hw h21 (by decide) rfl (iv_in i41 (by decide)) dX11_bride_181 (fun v42 e42 b42 => ?_)
              have i42 : Iv v42 0 63 := b42
              refine o_iald cx hw h39 (by decide) rfl (iv_in i42 (by decide)) dX11_bride_182 (fun v43 e43 b43 => ?_)
              refine lv_istore (lv' := [(8, .int v43), (0, .ref a0), (1, .int j103_1), (2, .long v20), (4, .int j151_4), (5, .long j151_5), (7, .int j151_7)]) hx hb dX11_bride_183 hl (by decide) rfl (fun ls hl => ?_)
              refine lv_iload hx hb dX11_bride_185 (lv_at hl 0 rfl) ?_
              refine lv_ldcw (v := 100000000) hx hb hown (hts _ k_k_X11_329) dX11_bride_187 ?_
              refine lv_icmp_ne (tgt := 196) hx hb dX11_bride_190 (by decide) (fun c44 => ?_) (fun c44 => ?_)
              · --
                refine lv_iload hx hb dX11_bride_196 (lv_at hl 4 rfl) ?_
                refine lv_iload hx hb dX11_bride_198 (lv_at hl 0 rfl) ?_
                refine lv_iadd hx hb dX11_bride_200 ?_
                refine lv_topi (fun v45 e45 => ?_)
                refine lv_istore (lv' := [(4, .int v45), (8, .int v43), (0, .ref a0), (1, .int j103_1), (2, .long v20), (5, .long j151_5), (7, .int j151_7)]) hx hb dX11_bride_201 hl (by decide) rfl (fun ls hl => ?_)
                refine lv_aload_n hx hb dX11_bride_203 rfl (lv_at hl 2 rfl) ?_
                refine lv_aload_n hx hb dX11_bride_204 rfl (lv_at hl 2 rfl) ?_
                refine g_680 cx hw ha0 k_f_X11_76 dX11_bride_205 (fun v46 e46 h46 => ?_)
                rw [show v46 = v21 from Option.some.inj (e46.symm.trans (((kr_c p38_0 (by decide)).trans ((kr_c fr_151 (by decide)).trans ((kr_c frE_151 (by decide)).symm.trans (e21))))))]
                refine lv_iload hx hb dX11_bride_208 (lv_at hl 6 rfl) ?_
                refine o_iald cx hw h21 (by decide) rfl (iv_in i33 (by decide)) dX11_bride_210 (fun v47 e47 b47 => ?_)
                have i47 : Iv v47 0 63 := b47
                refine lv_iload hx hb dX11_bride_211 (lv_at hl 1 rfl) ?_
                refine lv_lload_n hx hb dX11_bride_213 rfl (lv_at hl 4 rfl) ?_
                refine o_cv hw (oRunV cx hA hw q_X11_findWalks k_m_X11_363 rfl ha0 (by decide) (As := [.int v47, .int v43, .long v20]) (c_X11_findWalks a0 ha0 v47 v43 v20) (by decide) rfl hl.1 rfl (Nat.le_of_ble_eq_true rfl) dX11_bride_214 (by decide)) (fun σ48 H locs hp hw => ?_)
                have p49_0 := hp
                have fr := oFr_tr fr p49_0 (by decide)
                refine lv_ldc2 (v := 1000000) hx hb hown (hts _ k_k_X11_367) dX11_bride_217 ?_
                refine lv_lload hx hb dX11_bride_220 (lv_at hl 5 rfl) ?_
                refine lv_aload_n hx hb dX11_bride_222 rfl (lv_at hl 2 rfl) ?_
                refine g_678 cx hw ha0 k_f_X11_70 dX11_bride_223 (fun v50 e50 h50 => ?_)
                refine lv_aload_n hx hb dX11_bride_226 rfl (lv_at hl 2 rfl) ?_
                refine g_680 cx hw ha0 k_f_X11_76 dX11_bride_227 (fun v51 e51 h51 => ?_)
                rw [show v51 = v21 from Option.some.inj (e51.symm.trans (((kr_c p49_0 (by decide)).trans ((kr_c p38_0 (by decide)).trans ((kr_c fr_151 (by decide)).trans ((kr_c frE_151 (by decide)).symm.trans (e21)))))))]
                refine lv_iload hx hb dX11_bride_230 (lv_at hl 6 rfl) ?_
                refine lv_iconst (v := 1) hx hb dX11_bride_232 (by decide) ?_
                refine lv_isub hx hb dX11_bride_233 ?_
                refine lv_topi (fun v52 e52 => ?_)
                have i52 : Iv v52 0 10 := iv_sub e52 i33 (⟨by decide, by decide⟩ : Iv 1 1 1) (by decide)
                have x52 : v52.toInt = j151_7.toInt + (-1) := ex_sub e52 i33 (⟨by decide, by decide⟩ : Iv 1 1 1) (by decide)
                refine o_iald cx hw h21 (by decide) rfl (iv_in i52 (by decide)) dX11_bride_234 (fun v53 e53 b53 => ?_)
                have i53 : Iv v53 0 63 := b53
                refine o_iald cx hw h50 (by decide) rfl (iv_in i53 (by decide)) dX11_bride_235 (fun v54 e54 b54 => ?_)
                refine lv_i2l hx hb dX11_bride_236 rfl ?_
                refine lv_topl (fun v55 e55 => ?_)
                refine lv_lmul hx hb dX11_bride_237 ?_
                refine lv_topl (fun v56 e56 => ?_)
                refine va_mmin_long hx hb (hml.trans hl.1.symm) hown (hts _ k_m_X11_369) (hts _ k_s_J9_min_f86c9) (hts _ k_i_J9) (hts _ k_code_J9_min_f86c9) (by decide) (Nat.le_of_ble_eq_true rfl) (by decide) (by decide) dX11_bride_238 ?_
                refine lv_topl (fun v57 e57 => ?_)
                refine lv_lstore (lv' := [(5, .long v57), (4, .int v45), (8, .int v43), (0, .ref a0), (1, .int j103_1), (2, .long v20), (7, .int j151_7)]) hx hb dX11_bride_241 hl (by decide) rfl (fun ls hl => ?_)
                obtain ⟨v58, e58⟩ : ∃ y : Int32, y = j151_7 + 1 := ⟨_, rfl⟩
                have i58 : Iv v58 2 12 := iv_add e58 i33 (⟨by decide, by decide⟩ : Iv 1 1 1) (by decide)
                have x58 : v58.toInt = j151_7.toInt + 1 := ex_add e58 i33 (⟨by decide, by decide⟩ : Iv 1 1 1) (by decide)
                refine lv_iinc (v := v58) (lv' := [(7, .int v58), (5, .long v57), (4, .int v45), (8, .int v43), (0, .ref a0), (1, .int j103_1), (2, .long v20)]) hx hb dX11_bride_243 hl (k := 6) rfl (by rw [e58]; rfl) (by decide) rfl (fun ls hl => ?_)
                refine lv_goto (tgt := 151) hx hb dX11_bride_246 (by decide) ?_
                exact ih_151 v45 v57 v58 (iv_w i58 (by decide)) σ48 _ _ hw fr (kn_iv (((kp_c p49_0 (by decide)).trans ((kp_c p38_0 (by decide)).trans rfl))) (iv_w f151_655_a0 (by decide))) (kn_iv (((kp_c p49_0 (by decide)).trans ((kp_c p38_0 (by decide)).trans rfl))) (iv_w f151_660_a0 (by decide))) (kn_iv (((kp_c p49_0 (by decide)).trans ((kp_c p38_0 (by decide)).trans rfl))) (iv_w f151_661_a0 (by decide))) (kn_iv (((kp_c p49_0 (by decide)).trans ((kp_c p38_0 (by decide)).trans rfl))) (iv_w f151_662_a0 (by decide))) (kn_iv (((kp_c p49_0 (by decide)).trans ((kp_c p38_0 (by decide)).trans rfl))) (iv_w f151_663_a0 (by decide))) (((kr_c p49_0 (by decide)).trans ((kr_c p38_0 (by decide)).trans r151_659))) (ms_up x58 (by decide) (iv_w (a' := 1) (b' := 12) i58 (by decide)).2 hn_151) _ (lv_sub hl [4, 5, 6, 2, 1, 0] rfl)
              · --
                have i59 : Iv v43 100000000 100000000 := iv_eq1 c44 (iv_top v43) (⟨by decide, by decide⟩ : Iv 100000000 100000000 100000000) (by decide)
                refine lv_bipush (v := (-100)) hx hb dX11_bride_193 (by decide) ?_
                rw [← hQ]
                exact o_ri cx rx hw dX11_bride_195 ⟨fr, (kn_iv (((kp_c p38_0 (by decide)).trans rfl)) (iv_w f151_655_a0 (by decide)))⟩
        exact J_151 _ 0 1 1 (iv_w (⟨by decide, by decide⟩ : Iv 1 1 1) (by decide)) σ_103 _ _ hw fr (kn_iv (rfl) (iv_w f103_655_a0 (by decide))) (kn_iv (rfl) (iv_w f103_660_a0 (by decide))) (kn_iv (rfl) (iv_w f103_661_a0 (by decide))) (kn_iv (rfl) (iv_w f103_662_a0 (by decide))) (kn_iv (rfl) (iv_w i17 (by decide))) (r103_659) (Nat.lt_succ_self _) _ (lv_sub hl [4, 5, 3, 2, 1, 0] rfl)
      · --
        have i60 : Iv v24 0 0 := iv_eq1 c25 p24_1 (⟨by decide, by decide⟩ : Iv 0 0 0) (by decide)
        refine lv_bipush (v := (-100)) hx hb dX11_bride_139 (by decide) ?_
        rw [← hQ]
        exact o_ri cx rx hw dX11_bride_141 ⟨fr, (kn_iv (rfl) (iv_w f103_655_a0 (by decide)))⟩
    · --
      have i61 : Iv (σ_103.1 663 a0) 0 200 := (fun h => (by have := z_ti h; have := (ij103_1).1; have := (ij103_1).2; have := (p14_1).1; have := (p14_1).2; have := (f103_660_a0).1; have := (f103_660_a0).2; have := (f103_661_a0).1; have := (f103_661_a0).2; have := (f103_662_a0).1; have := (f103_662_a0).2; have := (f103_655_a0).1; have := (f103_655_a0).2; have := (f103_663_a0).1; have := (f103_663_a0).2; have := (i4).1; have := (i4).2; have := (i5).1; have := (i5).2; have := (p7_2).1; have := (p7_2).2; have := (p7_3).1; have := (p7_3).2; have := (p7_4).1; have := (p7_4).2; have := (p7_5).1; have := (p7_5).2; have := (i12).1; have := (i12).2; have : (80 : Int32).toInt = 80 := (by decide); exact ⟨by omega, by omega⟩)) c15
      have i62 : Iv v14 0 0 := iv_eq1 c15 p14_1 (⟨by decide, by decide⟩ : Iv 0 0 0) (by decide)
      refine lv_iconst (v := (-1)) hx hb dX11_bride_110 (by decide) ?_
      refine lv_aload_n hx hb dX11_bride_111 rfl (lv_at hl 0 rfl) ?_
      refine g_663 cx hw ha0 k_f_X11_123 dX11_bride_112 (fun v63 e63 i63 => ?_)
      rw [show v63 = (σ_103.1 663 a0) from e63.trans rfl]
      refine lv_isub hx hb dX11_bride_115 ?_
      refine lv_topi (fun v64 e64 => ?_)
      have i64 : Iv v64 (-201) (-1) := iv_sub e64 (⟨by decide, by decide⟩ : Iv (-1) (-1) (-1)) i61 (by decide)
      have x64 : v64.toInt = (-1) - (σ_103.1 663 a0).toInt := by have q9 := ex_sub e64 (⟨by decide, by decide⟩ : Iv (-1) (-1) (-1)) i61 (by decide); rw [show ((-1) : Int32).toInt = (-1) from by decide] at q9; exact q9
      rw [← hQ]
      exact o_ri cx rx hw dX11_bride_116 ⟨fr, (kn_iv (rfl) (iv_w f103_655_a0 (by decide)))⟩
  refine lv_if_eq (tgt := 103) hx hb dX11_bride_30 (by decide) (fun c65 => ?_) (fun c65 => ?_)
  · --
    exact iv_no (iv_eq1 (lo := 1) (hi := 0) c65 i12 (⟨by decide, by decide⟩ : Iv 0 0 0) (by decide)) (by decide)
  · --
    refine lv_iload_n hx hb dX11_bride_33 rfl (lv_at hl 0 rfl) ?_
    have frE_48 := fr
    have J_48 : ∀ n48 : Nat, ∀ (j48_1 : Int32) (ij48_1 : Iv j48_1 0 12), ∀ (σ_48 : oSt) (H : Heap) (locs : List Loc), oI A L τ cy D s.heap σ_48 H locs → oFr τ fs_X11_bride ts_X11_bride σ σ_48 → Iv (σ_48.1 655 a0) 0 0 → Iv (σ_48.1 660 a0) 0 80 → Iv (σ_48.1 661 a0) 0 80 → Iv (σ_48.1 662 a0) 0 79 → Iv (σ_48.1 663 a0) (-1) (-1) → σ_48.2.2.2.2 659 a0 = some v2 → (12 - j48_1.toInt).toNat < n48 → ∀ (ls : Array Slot), lv_has ls 9 [(0, .ref a0), (1, .int j48_1)] → W p l e ({ frames := 4, cells := 0, slots := 0, locals := 97 } : Room) s m args below meth c H locs 0 0 Q (F0 m 48 ls []) := by
      intro n48
      induction n48 with
      | zero => intro j48_1 ij48_1 σ_48 H locs hw fr f48_655_a0 f48_660_a0 f48_661_a0 f48_662_a0 f48_663_a0 r48_659  hn_48   ls hl; exact absurd hn_48 (Nat.not_lt_zero _)
      | succ n48 ih_48 =>
        intro j48_1 ij48_1 σ_48 H locs hw fr f48_655_a0 f48_660_a0 f48_661_a0 f48_662_a0 f48_663_a0 r48_659  hn_48   ls hl
        have fr_48 := fr
        refine lv_iload_n hx hb dX11_bride_48 rfl (lv_at hl 1 rfl) ?_
        refine lv_bipush (v := 12) hx hb dX11_bride_49 (by decide) ?_
        refine lv_icmp_ne (tgt := 65) hx hb dX11_bride_51 (by decide) (fun c66 => ?_) (fun c66 => ?_)
        · --
          have i67 : Iv j48_1 0 11 := iv_ne2 c66 ij48_1 (⟨by decide, by decide⟩ : Iv 12 12 12) (by decide)
          refine lv_aload_n hx hb dX11_bride_65 rfl (lv_at hl 0 rfl) ?_
          refine lv_bipush (v := 97) hx hb dX11_bride_66 (by decide) ?_
          refine lv_aload_n hx hb dX11_bride_68 rfl (lv_at hl 0 rfl) ?_
          refine g_641 cx hw ha0 k_f_X11_99 dX11_bride_69 (fun v68 e68 i68 => ?_)
          refine o_ci hw (oRunV cx hA hw q_X11_oneOf k_m_X11_171 rfl ha0 (by decide) (As := [.int 97, .int v68]) (c_X11_oneOfT a0 ha0 97 (iv_w (⟨by decide, by decide⟩ : Iv 97 97 97) (by decide)) v68 (iv_w i68 (by decide)) v2 (r48_659) h2 (kn_iv (rfl) (iv_w f48_660_a0 (by decide)))) (by decide) rfl hl.1 rfl (Nat.le_of_ble_eq_true rfl) dX11_bride_72 (by decide)) (fun v70 σ69 H locs hp hw => ?_)
          obtain ⟨p70_0, p70_1, p70_2, p70_3, p70_4, p70_5⟩ := hp
          have fr := oFr_tr fr p70_0 (by decide)
          have i71 : Iv (σ69.1 662 a0) 0 200 := o_fb (j := 662) hw ha0 rfl
          have i72 : Iv (σ69.1 663 a0) (-1) 200 := o_fb (j := 663) hw ha0 rfl
          have i73 : Iv v70 0 7 := iv_lt0 p70_2 i68 (by decide)
          refine lv_istore_n (lv' := [(2, .int v70), (0, .ref a0), (1, .int j48_1)]) hx hb dX11_bride_75 rfl hl (by decide) rfl (fun ls hl => ?_)
          refine lv_aload_n hx hb dX11_bride_76 rfl (lv_at hl 1 rfl) ?_
          refine g_680 cx hw ha0 k_f_X11_76 dX11_bride_77 (fun v74 e74 h74 => ?_)
          refine lv_iload_n hx hb dX11_bride_80 rfl (lv_at hl 2 rfl) ?_
          refine lv_bipush (v := 8) hx hb dX11_bride_81 (by decide) ?_
          refine lv_aload_n hx hb dX11_bride_83 rfl (lv_at hl 1 rfl) ?_
          refine lv_bipush (v := 49) hx hb dX11_bride_84 (by decide) ?_
          refine lv_aload_n hx hb dX11_bride_86 rfl (lv_at hl 1 rfl) ?_
          refine g_642 cx hw ha0 k_f_X11_102 dX11_bride_87 (fun v75 e75 i75 => ?_)
          have z76 : (σ69.1 660 a0).toInt = ((σ_48.1 660 a0) : Int32).toInt := congrArg Int32.toInt (show σ69.1 660 a0 = (σ_48.1 660 a0) from ((kp_c p70_0 (by decide)).trans rfl))
          have z77 : (σ69.1 661 a0).toInt = ((σ_48.1 661 a0) : Int32).toInt := congrArg Int32.toInt (show σ69.1 661 a0 = (σ_48.1 661 a0) from ((kp_c p70_0 (by decide)).trans rfl))
          refine o_ci hw (oRunV cx hA hw q_X11_oneOf k_m_X11_171 rfl ha0 (by decide) (As := [.int 49, .int v75]) (c_X11_oneOfT a0 ha0 49 (iv_w (⟨by decide, by decide⟩ : Iv 49 49 49) (by decide)) v75 (iv_w i75 (by decide)) v2 (((kr_c p70_0 (by decide)).trans r48_659)) h2 (kn_iv (((kp_c p70_0 (by decide)).trans rfl)) (iv_w f48_660_a0 (by decide)))) (by decide) rfl hl.1 rfl (Nat.le_of_ble_eq_true rfl) dX11_bride_90 (by decide)) (fun v79 σ78 H locs hp hw => ?_)
          obtain ⟨p79_0, p79_1, p79_2, p79_3, p79_4, p79_5⟩ := hp
          have fr := oFr_tr fr p79_0 (by decide)
          have i80 : Iv (σ78.1 662 a0) 0 200 := o_fb (j := 662) hw ha0 rfl
          have i81 : Iv (σ78.1 663 a0) (-1) 200 := o_fb (j := 663) hw ha0 rfl
          have i82 : Iv v79 0 7 := iv_lt0 p79_2 i75 (by decide)
          refine lv_imul hx hb dX11_bride_93 ?_
          refine lv_topi (fun v83 e83 => ?_)
          have i83 : Iv v83 0 56 := iv_mul e83 (⟨by decide, by decide⟩ : Iv 8 8 8) i82 (by decide)
          refine lv_iload_n hx hb dX11_bride_94 rfl (lv_at hl 0 rfl) ?_
          refine lv_iadd hx hb dX11_bride_95 ?_
          refine lv_topi (fun v84 e84 => ?_)
          have i84 : Iv v84 0 63 := iv_add e84 i83 i73 (by decide)
          have x84 : v84.toInt = v83.toInt + v70.toInt := ex_add e84 i83 i73 (by decide)
          refine o_iast cx hw h74 (by decide) rfl (iv_in i67 (by decide)) (iv_w i84 (by decide)) dX11_bride_96 (fun σ85 H locs eσ85 hw => ?_)
          have fr := oFr_p fr eσ85 h74 (by decide)
          obtain ⟨v86, e86⟩ : ∃ y : Int32, y = j48_1 + 1 := ⟨_, rfl⟩
          have i86 : Iv v86 1 12 := iv_add e86 i67 (⟨by decide, by decide⟩ : Iv 1 1 1) (by decide)
          have x86 : v86.toInt = j48_1.toInt + 1 := ex_add e86 i67 (⟨by decide, by decide⟩ : Iv 1 1 1) (by decide)
          refine lv_iinc (v := v86) (lv' := [(1, .int v86), (2, .int v70), (0, .ref a0)]) hx hb dX11_bride_97 hl (k := 2) rfl (by rw [e86]; rfl) (by decide) rfl (fun ls hl => ?_)
          refine lv_goto (tgt := 26) hx hb dX11_bride_100 (by decide) ?_
          refine lv_aload_n hx hb dX11_bride_26 rfl (lv_at hl 2 rfl) ?_
          have z87 : (σ85.1 663 a0).toInt = ((σ78.1 663 a0) : Int32).toInt := congrArg Int32.toInt (show σ85.1 663 a0 = (σ78.1 663 a0) from ((kp_p eσ85).trans rfl))
          refine o_ci hw (oRunV cx hA hw q_X11_fine k_m_X11_126 rfl ha0 (by decide) (As := []) (c_X11_fine a0 ha0) (by decide) rfl hl.1 rfl (Nat.le_of_ble_eq_true rfl) dX11_bride_27 (by decide)) (fun v89 σ88 H locs hp hw => ?_)
          obtain ⟨p89_0, p89_1, p89_2⟩ := hp
          rw [p89_0] at hw
          refine lv_if_eq (tgt := 103) hx hb dX11_bride_30 (by decide) (fun c90 => ?_) (fun c90 => ?_)
          · --
            have i91 : Iv (σ78.1 663 a0) 0 200 := (fun h => (by have := z_ti h; have := (i73).1; have := (i73).2; have := (i86).1; have := (i86).2; have := (p89_1).1; have := (p89_1).2; have := (f48_660_a0).1; have := (f48_660_a0).2; have := (f48_661_a0).1; have := (f48_661_a0).2; have := (f48_655_a0).1; have := (f48_655_a0).2; have := (i68).1; have := (i68).2; have := (i75).1; have := (i75).2; have := (i80).1; have := (i80).2; have := (i81).1; have := (i81).2; have := (i4).1; have := (i4).2; have := (i5).1; have := (i5).2; have := (p7_2).1; have := (p7_2).2; have := (p7_3).1; have := (p7_3).2; have := (p7_4).1; have := (p7_4).2; have := (p7_5).1; have := (p7_5).2; have := (i12).1; have := (i12).2; have := (i67).1; have := (i67).2; have := (i71).1; have := (i71).2; have := (i72).1; have := (i72).2; have := (i82).1; have := (i82).2; have := (i83).1; have := (i83).2; have := (i84).1; have := (i84).2; have : (σ85.1 660 a0).toInt = ((σ_48.1 660 a0) : Int32).toInt := congrArg Int32.toInt (show σ85.1 660 a0 = (σ_48.1 660 a0) from ((kp_p eσ85).trans ((kp_c p79_0 (by decide)).trans ((kp_c p70_0 (by decide)).trans rfl)))); have : (σ85.1 661 a0).toInt = ((σ_48.1 661 a0) : Int32).toInt := congrArg Int32.toInt (show σ85.1 661 a0 = (σ_48.1 661 a0) from ((kp_p eσ85).trans ((kp_c p79_0 (by decide)).trans ((kp_c p70_0 (by decide)).trans rfl)))); have : (σ85.1 655 a0).toInt = ((σ_48.1 655 a0) : Int32).toInt := congrArg Int32.toInt (show σ85.1 655 a0 = (σ_48.1 655 a0) from ((kp_p eσ85).trans ((kp_c p79_0 (by decide)).trans ((kp_c p70_0 (by decide)).trans rfl)))); have : (σ85.1 641 a0).toInt = (v68 : Int32).toInt := congrArg Int32.toInt (show σ85.1 641 a0 = v68 from ((kp_p eσ85).trans ((kp_c p79_0 (by decide)).trans ((kp_c p70_0 (by decide)).trans e68.symm)))); have : (σ85.1 642 a0).toInt = (v75 : Int32).toInt := congrArg Int32.toInt (show σ85.1 642 a0 = v75 from ((kp_p eσ85).trans ((kp_c p79_0 (by decide)).trans e75.symm))); have : (σ85.1 662 a0).toInt = ((σ78.1 662 a0) : Int32).toInt := congrArg Int32.toInt (show σ85.1 662 a0 = (σ78.1 662 a0) from ((kp_p eσ85).trans rfl)); have : (σ85.1 663 a0).toInt = ((σ78.1 663 a0) : Int32).toInt := congrArg Int32.toInt (show σ85.1 663 a0 = (σ78.1 663 a0) from ((kp_p eσ85).trans rfl)); have : (49 : Int32).toInt = 49 := (by decide); have : (80 : Int32).toInt = 80 := (by decide); have : (97 : Int32).toInt = 97 := (by decide); exact ⟨by omega, by omega⟩)) c90
            have i92 : Iv v89 0 0 := iv_eq1 c90 p89_1 (⟨by decide, by decide⟩ : Iv 0 0 0) (by decide)
            exact J_103 v86 i86 σ85 _ _ hw fr (kn_iv (((kp_p eσ85).trans ((kp_c p79_0 (by decide)).trans ((kp_c p70_0 (by decide)).trans rfl)))) (iv_w f48_655_a0 (by decide))) (kn_iv (((kp_p eσ85).trans ((kp_c p79_0 (by decide)).trans ((kp_c p70_0 (by decide)).trans rfl)))) (iv_w f48_660_a0 (by decide))) (kn_iv (((kp_p eσ85).trans ((kp_c p79_0 (by decide)).trans ((kp_c p70_0 (by decide)).trans rfl)))) (iv_w f48_661_a0 (by decide))) (kn_iv (((kp_p eσ85).trans rfl)) (iv_w i80 (by decide))) (kn_iv (((kp_p eσ85).trans rfl)) (iv_w i91 (by decide))) (((kr_p eσ85).trans ((kr_c p79_0 (by decide)).trans ((kr_c p70_0 (by decide)).trans r48_659)))) _ (lv_sub hl [2, 0] rfl)
          · --
            have i93 : Iv v89 1 1 := iv_ne1 c90 p89_1 (⟨by decide, by decide⟩ : Iv 0 0 0) (by decide)
            have i94 : Iv (σ78.1 663 a0) (-1) (-1) := (fun h => (by have := nz_ti h; have := (i73).1; have := (i73).2; have := (i86).1; have := (i86).2; have := (p89_1).1; have := (p89_1).2; have := (f48_660_a0).1; have := (f48_660_a0).2; have := (f48_661_a0).1; have := (f48_661_a0).2; have := (f48_655_a0).1; have := (f48_655_a0).2; have := (i68).1; have := (i68).2; have := (i75).1; have := (i75).2; have := (i80).1; have := (i80).2; have := (i81).1; have := (i81).2; have := (i4).1; have := (i4).2; have := (i5).1; have := (i5).2; have := (p7_2).1; have := (p7_2).2; have := (p7_3).1; have := (p7_3).2; have := (p7_4).1; have := (p7_4).2; have := (p7_5).1; have := (p7_5).2; have := (i12).1; have := (i12).2; have := (i67).1; have := (i67).2; have := (i71).1; have := (i71).2; have := (i72).1; have := (i72).2; have := (i82).1; have := (i82).2; have := (i83).1; have := (i83).2; have := (i84).1; have := (i84).2; have : (σ85.1 660 a0).toInt = ((σ_48.1 660 a0) : Int32).toInt := congrArg Int32.toInt (show σ85.1 660 a0 = (σ_48.1 660 a0) from ((kp_p eσ85).trans ((kp_c p79_0 (by decide)).trans ((kp_c p70_0 (by decide)).trans rfl)))); have : (σ85.1 661 a0).toInt = ((σ_48.1 661 a0) : Int32).toInt := congrArg Int32.toInt (show σ85.1 661 a0 = (σ_48.1 661 a0) from ((kp_p eσ85).trans ((kp_c p79_0 (by decide)).trans ((kp_c p70_0 (by decide)).trans rfl)))); have : (σ85.1 655 a0).toInt = ((σ_48.1 655 a0) : Int32).toInt := congrArg Int32.toInt (show σ85.1 655 a0 = (σ_48.1 655 a0) from ((kp_p eσ85).trans ((kp_c p79_0 (by decide)).trans ((kp_c p70_0 (by decide)).trans rfl)))); have : (σ85.1 641 a0).toInt = (v68 : Int32).toInt := congrArg Int32.toInt (show σ85.1 641 a0 = v68 from ((kp_p eσ85).trans ((kp_c p79_0 (by decide)).trans ((kp_c p70_0 (by decide)).trans e68.symm)))); have : (σ85.1 642 a0).toInt = (v75 : Int32).toInt := congrArg Int32.toInt (show σ85.1 642 a0 = v75 from ((kp_p eσ85).trans ((kp_c p79_0 (by decide)).trans e75.symm))); have : (σ85.1 662 a0).toInt = ((σ78.1 662 a0) : Int32).toInt := congrArg Int32.toInt (show σ85.1 662 a0 = (σ78.1 662 a0) from ((kp_p eσ85).trans rfl)); have : (σ85.1 663 a0).toInt = ((σ78.1 663 a0) : Int32).toInt := congrArg Int32.toInt (show σ85.1 663 a0 = (σ78.1 663 a0) from ((kp_p eσ85).trans rfl)); have : (49 : Int32).toInt = 49 := (by decide); have : (80 : Int32).toInt = 80 := (by decide); have : (97 : Int32).toInt = 97 := (by decide); exact ⟨by omega, by omega⟩)) c90
            refine lv_iload_n hx hb dX11_bride_33 rfl (lv_at hl 0 rfl) ?_
            refine lv_if_eq (tgt := 48) hx hb dX11_bride_34 (by decide) (fun c95 => ?_) (fun c95 => ?_)
            · --
              exact iv_no (iv_eq1 (lo := 1) (hi := 0) c95 i86 (⟨by decide, by decide⟩ : Iv 0 0 0) (by decide)) (by decide)
            · --
              refine lv_aload_n hx hb dX11_bride_37 rfl (lv_at hl 2 rfl) ?_
              refine g_662 cx hw ha0 k_f_X11_120 dX11_bride_38 (fun v96 e96 i96 => ?_)
              rw [show v96 = (σ78.1 662 a0) from e96.trans ((kp_p eσ85).trans rfl)]
              refine lv_aload_n hx hb dX11_bride_41 rfl (lv_at hl 2 rfl) ?_
              refine g_660 cx hw ha0 k_f_X11_114 dX11_bride_42 (fun v97 e97 i97 => ?_)
              rw [show v97 = (σ_48.1 660 a0) from e97.trans ((kp_p eσ85).trans ((kp_c p79_0 (by decide)).trans ((kp_c p70_0 (by decide)).trans rfl)))]
              refine lv_icmp_ge (tgt := 103) hx hb dX11_bride_45 (by decide) (fun c98 => ?_) (fun c98 => ?_)
              · --
                exact J_103 v86 i86 σ85 _ _ hw fr (kn_iv (((kp_p eσ85).trans ((kp_c p79_0 (by decide)).trans ((kp_c p70_0 (by decide)).trans rfl)))) (iv_w f48_655_a0 (by decide))) (kn_iv (((kp_p eσ85).trans ((kp_c p79_0 (by decide)).trans ((kp_c p70_0 (by decide)).trans rfl)))) (iv_w f48_660_a0 (by decide))) (kn_iv (((kp_p eσ85).trans ((kp_c p79_0 (by decide)).trans ((kp_c p70_0 (by decide)).trans rfl)))) (iv_w f48_661_a0 (by decide))) (kn_iv (((kp_p eσ85).trans rfl)) (iv_w i80 (by decide))) (kn_iv (((kp_p eσ85).trans rfl)) (iv_w i94 (by decide))) (((kr_p eσ85).trans ((kr_c p79_0 (by decide)).trans ((kr_c p70_0 (by decide)).trans r48_659)))) _ (lv_sub hl [2, 0] rfl)
              · --
                have i99 : Iv (σ78.1 662 a0) 0 79 := iv_lt1 (iv_nle c98) i80 f48_660_a0 (by decide)
                have i100 : Iv (σ_48.1 660 a0) 1 80 := iv_lt2 (iv_nle c98) i80 f48_660_a0 (by decide)
                exact ih_48 v86 (iv_w i86 (by decide)) σ85 _ _ hw fr (kn_iv (((kp_p eσ85).trans ((kp_c p79_0 (by decide)).trans ((kp_c p70_0 (by decide)).trans rfl)))) (iv_w f48_655_a0 (by decide))) (kn_iv (((kp_p eσ85).trans ((kp_c p79_0 (by decide)).trans ((kp_c p70_0 (by decide)).trans rfl)))) (iv_w i100 (by decide))) (kn_iv (((kp_p eσ85).trans ((kp_c p79_0 (by decide)).trans ((kp_c p70_0 (by decide)).trans rfl)))) (iv_w f48_661_a0 (by decide))) (kn_iv (((kp_p eσ85).trans rfl)) (iv_w i99 (by decide))) (kn_iv (((kp_p eσ85).trans rfl)) (iv_w i94 (by decide))) (((kr_p eσ85).trans ((kr_c p79_0 (by decide)).trans ((kr_c p70_0 (by decide)).trans r48_659)))) (ms_up x86 (by decide) (iv_w (a' := 0) (b' := 12) i86 (by decide)).2 hn_48) _ (lv_sub hl [2, 0] rfl)
        · --
          have i101 : Iv j48_1 12 12 := iv_eq1 c66 ij48_1 (⟨by decide, by decide⟩ : Iv 12 12 12) (by decide)
          refine lv_aload_n hx hb dX11_bride_54 rfl (lv_at hl 0 rfl) ?_
          refine lv_aload_n hx hb dX11_bride_55 rfl (lv_at hl 0 rfl) ?_
          refine g_662 cx hw ha0 k_f_X11_120 dX11_bride_56 (fun v102 e102 i102 => ?_)
          rw [show v102 = (σ_48.1 662 a0) from e102.trans rfl]
          refine o_cv hw (oRunV cx hA hw q_X11_fault k_m_X11_138 rfl ha0 (by decide) (As := [.int (σ_48.1 662 a0)]) (c_X11_fault a0 ha0 (σ_48.1 662 a0) (iv_w f48_662_a0 (by decide))) (by decide) rfl hl.1 rfl (Nat.le_of_ble_eq_true rfl) dX11_bride_59 (by decide)) (fun σ103 H locs hp hw => ?_)
          obtain ⟨p104_0, p104_1⟩ := hp
          have fr := oFr_tr fr p104_0 (by decide)
          have i105 : Iv (σ103.1 663 a0) (-1) 200 := o_fb (j := 663) hw ha0 rfl
          have i106 : Iv (σ103.1 663 a0) 0 200 := (by have := (i101).1; have := (i101).2; have := (f48_660_a0).1; have := (f48_660_a0).2; have := (f48_661_a0).1; have := (f48_661_a0).2; have := (f48_662_a0).1; have := (f48_662_a0).2; have := (f48_655_a0).1; have := (f48_655_a0).2; have := (i105).1; have := (i105).2; have := (i4).1; have := (i4).2; have := (i5).1; have := (i5).2; have := (p7_2).1; have := (p7_2).2; have := (p7_3).1; have := (p7_3).2; have := (p7_4).1; have := (p7_4).2; have := (p7_5).1; have := (p7_5).2; have := (i12).1; have := (i12).2; have : (σ103.1 660 a0).toInt = ((σ_48.1 660 a0) : Int32).toInt := congrArg Int32.toInt (show σ103.1 660 a0 = (σ_48.1 660 a0) from ((kp_c p104_0 (by decide)).trans rfl)); have : (σ103.1 661 a0).toInt = ((σ_48.1 661 a0) : Int32).toInt := congrArg Int32.toInt (show σ103.1 661 a0 = (σ_48.1 661 a0) from ((kp_c p104_0 (by decide)).trans rfl)); have : (σ103.1 662 a0).toInt = ((σ_48.1 662 a0) : Int32).toInt := congrArg Int32.toInt (show σ103.1 662 a0 = (σ_48.1 662 a0) from ((kp_c p104_0 (by decide)).trans rfl)); have : (σ103.1 655 a0).toInt = ((σ_48.1 655 a0) : Int32).toInt := congrArg Int32.toInt (show σ103.1 655 a0 = (σ_48.1 655 a0) from ((kp_c p104_0 (by decide)).trans rfl)); have : (j48_1 : Int32).toInt = (12 : Int32).toInt := congrArg Int32.toInt c66; have : (12 : Int32).toInt = 12 := (by decide); have : (80 : Int32).toInt = 80 := (by decide); exact ⟨by omega, by omega⟩)
          refine lv_goto (tgt := 26) hx hb dX11_bride_62 (by decide) ?_
          refine lv_aload_n hx hb dX11_bride_26 rfl (lv_at hl 0 rfl) ?_
          refine o_ci hw (oRunV cx hA hw q_X11_fine k_m_X11_126 rfl ha0 (by decide) (As := []) (c_X11_fine a0 ha0) (by decide) rfl hl.1 rfl (Nat.le_of_ble_eq_true rfl) dX11_bride_27 (by decide)) (fun v108 σ107 H locs hp hw => ?_)
          obtain ⟨p108_0, p108_1, p108_2⟩ := hp
          rw [p108_0] at hw
          have i109 : Iv v108 0 0 := (by have := (i101).1; have := (i101).2; have := (p108_1).1; have := (p108_1).2; have := (f48_660_a0).1; have := (f48_660_a0).2; have := (f48_661_a0).1; have := (f48_661_a0).2; have := (f48_662_a0).1; have := (f48_662_a0).2; have := (f48_655_a0).1; have := (f48_655_a0).2; have := (i106).1; have := (i106).2; have := (i4).1; have := (i4).2; have := (i5).1; have := (i5).2; have := (p7_2).1; have := (p7_2).2; have := (p7_3).1; have := (p7_3).2; have := (p7_4).1; have := (p7_4).2; have := (p7_5).1; have := (p7_5).2; have := (i12).1; have := (i12).2; have : (σ103.1 660 a0).toInt = ((σ_48.1 660 a0) : Int32).toInt := congrArg Int32.toInt (show σ103.1 660 a0 = (σ_48.1 660 a0) from ((kp_c p104_0 (by decide)).trans rfl)); have : (σ103.1 661 a0).toInt = ((σ_48.1 661 a0) : Int32).toInt := congrArg Int32.toInt (show σ103.1 661 a0 = (σ_48.1 661 a0) from ((kp_c p104_0 (by decide)).trans rfl)); have : (σ103.1 662 a0).toInt = ((σ_48.1 662 a0) : Int32).toInt := congrArg Int32.toInt (show σ103.1 662 a0 = (σ_48.1 662 a0) from ((kp_c p104_0 (by decide)).trans rfl)); have : (σ103.1 655 a0).toInt = ((σ_48.1 655 a0) : Int32).toInt := congrArg Int32.toInt (show σ103.1 655 a0 = (σ_48.1 655 a0) from ((kp_c p104_0 (by decide)).trans rfl)); have : (j48_1 : Int32).toInt = (12 : Int32).toInt := congrArg Int32.toInt c66; have : (12 : Int32).toInt = 12 := (by decide); have : (80 : Int32).toInt = 80 := (by decide); exact ⟨by omega, by omega⟩)
          refine lv_if_eq (tgt := 103) hx hb dX11_bride_30 (by decide) (fun c110 => ?_) (fun c110 => ?_)
          · --
            exact J_103 j48_1 (iv_w i101 (by decide)) σ103 _ _ hw fr (kn_iv (((kp_c p104_0 (by decide)).trans rfl)) (iv_w f48_655_a0 (by decide))) (kn_iv (((kp_c p104_0 (by decide)).trans rfl)) (iv_w f48_660_a0 (by decide))) (kn_iv (((kp_c p104_0 (by decide)).trans rfl)) (iv_w f48_661_a0 (by decide))) (kn_iv (((kp_c p104_0 (by decide)).trans rfl)) (iv_w f48_662_a0 (by decide))) (kn_iv (rfl) (iv_w i106 (by decide))) (((kr_c p104_0 (by decide)).trans r48_659)) _ (lv_sub hl [0, 1] rfl)
          · --
            exact iv_no (iv_ne1 c110 i109 (⟨by decide, by decide⟩ : Iv 0 0 0) (by decide)) (by decide)
    refine lv_if_eq (tgt := 48) hx hb dX11_bride_34 (by decide) (fun c111 => ?_) (fun c111 => ?_)
    · --
      exact J_48 _ 0 (iv_w (⟨by decide, by decide⟩ : Iv 0 0 0) (by decide)) σ8 _ _ hw fr (kn_iv ((kp_s eσ8)) (iv_w (⟨by decide, by decide⟩ : Iv 0 0 0) (by decide))) (kn_iv (((kp_i eσ8 (by decide)).trans rfl)) (iv_w p7_2 (by decide))) (kn_iv (((kp_i eσ8 (by decide)).trans rfl)) (iv_w p7_3 (by decide))) (kn_iv (((kp_i eσ8 (by decide)).trans rfl)) (iv_w p7_4 (by decide))) (kn_iv (((kp_i eσ8 (by decide)).trans rfl)) (iv_w p7_5 (by decide))) (((kr_i eσ8).trans p7_1)) (Nat.lt_succ_self _) _ (lv_sub hl [1, 0] rfl)
    · --
      exact absurd rfl c111
abbrev fs_X11_lost_ : List Nat := [657, 658]
abbrev ts_X11_lost_ : List Nat := [52, 67, 68]
set_option maxHeartbeats 4000000 in
set_option maxRecDepth 100000 in
theorem c_X11_lost_ (a0 : Nat) (ha0 : oA L τ a0 10) (a1 : Int32) (a2 : Int32) (a3 : Int32) : oMet l A L τ cy D K yX11_lost_ cX11_lost_ 6 (some .int) 4 93 [.ref a0, .int a1, .int a2, .int a3] σ (va_Qi (fun r σ1 => oFr τ fs_X11_lost_ ts_X11_lost_ σ σ1) (oPo A L τ cy D) A) := by
  refine oMk (by decide) (Nat.le_of_ble_eq_true rfl) rfl ?_
  intro p e s m args below meth c ls cx rx hA hw hl
  generalize hQ : MQ below _ args s 0 0 A = Q
  have hx := cx.1.1
  have hb := cx.1.2.1
  have hml := cx.1.2.2.1
  have hown := cx.1.2.2.2.1
  have hts := cx.1.2.2.2.2
  have hl : lv_has ls 6 [(0, .ref a0), (1, .int a1), (2, .int a2), (3, .int a3)] := hl
  have fr : oFr τ fs_X11_lost_ ts_X11_lost_ σ σ := oFr_rf
  refine lv_aload_n hx hb dX11_lost__0 rfl (lv_at hl 0 rfl) ?_
  refine lv_iconst (v := 0) hx hb dX11_lost__1 (by decide) ?_
  refine p_658 cx hw ha0 k_f_X11_89 dX11_lost__2 (fun σ1 H locs eσ1 hw => ?_)
  have fr := oFr_i fr eσ1 (by decide)
  refine lv_aload_n hx hb dX11_lost__5 rfl (lv_at hl 0 rfl) ?_
  refine lv_iload_n hx hb dX11_lost__6 rfl (lv_at hl 1 rfl) ?_
  have i2 : Iv (σ1.1 641 a0) 0 8 := o_fb (j := 641) hw ha0 rfl
  have i3 : Iv (σ1.1 642 a0) 0 8 := o_fb (j := 642) hw ha0 rfl
  refine o_ci hw (oRunV cx hA hw q_X11_isCell k_m_X11_157 rfl ha0 (by decide) (As := [.int a1]) (c_X11_isCell a0 ha0 a1) (by decide) rfl hl.1 rfl (Nat.le_of_ble_eq_true rfl) dX11_lost__7 (by decide)) (fun v5 σ4 H locs hp hw => ?_)
  obtain ⟨p5_0, p5_1, p5_2, p5_3⟩ := hp
  rw [p5_0] at hw
  refine lv_if_eq (tgt := 43) hx hb dX11_lost__10 (by decide) (fun c6 => ?_) (fun c6 => ?_)
  · --
    have i7 : Iv v5 0 0 := iv_eq1 c6 p5_1 (⟨by decide, by decide⟩ : Iv 0 0 0) (by decide)
    refine lv_iconst (v := (-1)) hx hb dX11_lost__43 (by decide) ?_
    rw [← hQ]
    exact o_ri cx rx hw dX11_lost__44 fr
  · --
    have i8 : Iv v5 1 1 := iv_ne1 c6 p5_1 (⟨by decide, by decide⟩ : Iv 0 0 0) (by decide)
    have i9 : Iv a1 0 63 := p5_2 c6
    refine lv_aload_n hx hb dX11_lost__13 rfl (lv_at hl 0 rfl) ?_
    refine lv_iload_n hx hb dX11_lost__14 rfl (lv_at hl 2 rfl) ?_
    refine o_ci hw (oRunV cx hA hw q_X11_isCell k_m_X11_157 rfl ha0 (by decide) (As := [.int a2]) (c_X11_isCell a0 ha0 a2) (by decide) rfl hl.1 rfl (Nat.le_of_ble_eq_true rfl) dX11_lost__15 (by decide)) (fun v11 σ10 H locs hp hw => ?_)
    obtain ⟨p11_0, p11_1, p11_2, p11_3⟩ := hp
    rw [p11_0] at hw
    refine lv_if_eq (tgt := 43) hx hb dX11_lost__18 (by decide) (fun c12 => ?_) (fun c12 => ?_)
    · --
      have i13 : Iv v11 0 0 := iv_eq1 c12 p11_1 (⟨by decide, by decide⟩ : Iv 0 0 0) (by decide)
      refine lv_iconst (v := (-1)) hx hb dX11_lost__43 (by decide) ?_
      rw [← hQ]
      exact o_ri cx rx hw dX11_lost__44 fr
    · --
      have i14 : Iv v11 1 1 := iv_ne1 c12 p11_1 (⟨by decide, by decide⟩ : Iv 0 0 0) (by decide)
      have i15 : Iv a2 0 63 := p11_2 c12
      refine lv_iload_n hx hb dX11_lost__21 rfl (lv_at hl 3 rfl) ?_
      refine lv_iconst (v := 0) hx hb dX11_lost__22 (by decide) ?_
      refine lv_bipush (v := 40) hx hb dX11_lost__23 (by decide) ?_
      refine o_ci hw (oRunS cx hA hw q_X11_in k_m_X11_95 (As := [.int a3, .int 0, .int 40]) (c_X11_in a3 0 40) (by decide) rfl hl.1 rfl (Nat.le_of_ble_eq_true rfl) dX11_lost__25 (by decide)) (fun v17 σ16 H locs hp hw => ?_)
      obtain ⟨p17_0, p17_1, p17_2, p17_3, p17_4, p17_5⟩ := hp
      rw [p17_0] at hw
      refine lv_if_eq (tgt := 43) hx hb dX11_lost__28 (by decide) (fun c18 => ?_) (fun c18 => ?_)
      · --
        have i19 : Iv v17 0 0 := iv_eq1 c18 p17_1 (⟨by decide, by decide⟩ : Iv 0 0 0) (by decide)
        refine lv_iconst (v := (-1)) hx hb dX11_lost__43 (by decide) ?_
        rw [← hQ]
        exact o_ri cx rx hw dX11_lost__44 fr
      · --
        have i20 : Iv v17 1 1 := iv_ne1 c18 p17_1 (⟨by decide, by decide⟩ : Iv 0 0 0) (by decide)
        have i21 : Iv a3 0 40 := (fun h => iv_rel (p17_2 h) (⟨by decide, by decide⟩ : Iv 0 0 0) (⟨by decide, by decide⟩ : Iv 40 40 40)) c18
        refine lv_aload_n hx hb dX11_lost__31 rfl (lv_at hl 0 rfl) ?_
        refine lv_aload_n hx hb dX11_lost__32 rfl (lv_at hl 0 rfl) ?_
        refine g_640 cx hw ha0 k_f_X11_9 dX11_lost__33 (fun v22 e22 h22 => ?_)
        refine lv_iload_n hx hb dX11_lost__36 rfl (lv_at hl 1 rfl) ?_
        refine o_ci hw (oRunV cx hA hw q_X11_canBe k_m_X11_227 rfl ha0 (by decide) (As := [.ref v22, .int a1]) (c_X11_canBe a0 ha0 v22 h22 a1 (iv_w i9 (by decide))) (by decide) rfl hl.1 rfl (Nat.le_of_ble_eq_true rfl) dX11_lost__37 (by decide)) (fun v24 σ23 H locs hp hw => ?_)
        obtain ⟨p24_0, p24_1⟩ := hp
        rw [p24_0] at hw
        refine lv_if_ne (tgt := 45) hx hb dX11_lost__40 (by decide) (fun c25 => ?_) (fun c25 => ?_)
        · --
          have i26 : Iv v24 1 1 := iv_ne1 c25 p24_1 (⟨by decide, by decide⟩ : Iv 0 0 0) (by decide)
          refine lv_iconst (v := 0) hx hb dX11_lost__45 (by decide) ?_
          refine lv_istore (lv' := [(4, .int 0), (0, .ref a0), (1, .int a1), (2, .int a2), (3, .int a3)]) hx hb dX11_lost__46 hl (by decide) rfl (fun ls hl => ?_)
          have frE_48 := fr
          have J_48 : ∀ n48 : Nat, ∀ (j48_4 : Int32) (ij48_4 : Iv j48_4 0 64), ∀ (σ_48 : oSt) (H : Heap) (locs : List Loc), oI A L τ cy D s.heap σ_48 H locs → oFr τ fs_X11_lost_ ts_X11_lost_ σ σ_48 → (64 - j48_4.toInt).toNat < n48 → ∀ (ls : Array Slot), lv_has ls 6 [(0, .ref a0), (1, .int a1), (2, .int a2), (3, .int a3), (4, .int j48_4)] → W p l e ({ frames := 4, cells := 0, slots := 0, locals := 93 } : Room) s m args below meth c H locs 0 0 Q (F0 m 48 ls []) := by
            intro n48
            induction n48 with
            | zero => intro j48_4 ij48_4 σ_48 H locs hw fr   hn_48   ls hl; exact absurd hn_48 (Nat.not_lt_zero _)
            | succ n48 ih_48 =>
              intro j48_4 ij48_4 σ_48 H locs hw fr   hn_48   ls hl
              have fr_48 := fr
              refine lv_iload hx hb dX11_lost__48 (lv_at hl 4 rfl) ?_
              refine lv_bipush (v := 64) hx hb dX11_lost__50 (by decide) ?_
              refine lv_icmp_ge (tgt := 81) hx hb dX11_lost__52 (by decide) (fun c27 => ?_) (fun c27 => ?_)
              · --
                have i28 : Iv j48_4 64 64 := iv_le2 c27 (⟨by decide, by decide⟩ : Iv 64 64 64) ij48_4 (by decide)
                refine lv_iconst (v := 0) hx hb dX11_lost__81 (by decide) ?_
                refine lv_istore (lv' := [(4, .int 0), (0, .ref a0), (1, .int a1), (2, .int a2), (3, .int a3)]) hx hb dX11_lost__82 hl (by decide) rfl (fun ls hl => ?_)
                have frE_84 := fr
                have J_84 : ∀ n84 : Nat, ∀ (j84_4 : Int32) (ij84_4 : Iv j84_4 0 40), ∀ (σ_84 : oSt) (H : Heap) (locs : List Loc), oI A L τ cy D s.heap σ_84 H locs → oFr τ fs_X11_lost_ ts_X11_lost_ σ σ_84 → (40 - j84_4.toInt).toNat < n84 → ∀ (ls : Array Slot), lv_has ls 6 [(0, .ref a0), (1, .int a1), (2, .int a2), (3, .int a3), (4, .int j84_4)] → W p l e ({ frames := 4, cells := 0, slots := 0, locals := 93 } : Room) s m args below meth c H locs 0 0 Q (F0 m 84 ls []) := by
                  intro n84
                  induction n84 with
                  | zero => intro j84_4 ij84_4 σ_84 H locs hw fr   hn_84   ls hl; exact absurd hn_84 (Nat.not_lt_zero _)
                  | succ n84 ih_84 =>
                    intro j84_4 ij84_4 σ_84 H locs hw fr   hn_84   ls hl
                    have fr_84 := fr
                    refine lv_iload hx hb dX11_lost__84 (lv_at hl 4 rfl) ?_
                    refine lv_iload_n hx hb dX11_lost__86 rfl (lv_at hl 3 rfl) ?_
                    refine lv_icmp_ge (tgt := 182) hx hb dX11_lost__87 (by decide) (fun c29 => ?_) (fun c29 => ?_)
                    · --
                      refine lv_iconst (v := 0) hx hb dX11_lost__182 (by decide) ?_
                      refine lv_istore (lv' := [(4, .int 0), (0, .ref a0), (1, .int a1), (2, .int a2), (3, .int a3)]) hx hb dX11_lost__183 hl (by decide) rfl (fun ls hl => ?_)
                      refine lv_iconst (v := 1) hx hb dX11_lost__185 (by decide) ?_
                      refine lv_istore (lv' := [(5, .int 1), (4, .int 0), (0, .ref a0), (1, .int a1), (2, .int a2), (3, .int a3)]) hx hb dX11_lost__186 hl (by decide) rfl (fun ls hl => ?_)
                      have J_188 : ∀ n188 : Nat, ∀ (j188_4 : Int32) (ij188_4 : Iv j188_4 0 63) (j188_5 : Int32) (ij188_5 : Iv j188_5 1 64), ∀ (H : Heap) (locs : List Loc), oI A L τ cy D s.heap σ_84 H locs → (64 - j188_5.toInt).toNat < n188 → ∀ (ls : Array Slot), lv_has ls 6 [(0, .ref a0), (1, .int a1), (2, .int a2), (3, .int a3), (4, .int j188_4), (5, .int j188_5)] → W p l e ({ frames := 4, cells := 0, slots := 0, locals := 93 } : Room) s m args below meth c H locs 0 0 Q (F0 m 188 ls []) := by
                        intro n188
                        induction n188 with
                        | zero => intro j188_4 ij188_4 j188_5 ij188_5 H locs hw  hn_188   ls hl; exact absurd hn_188 (Nat.not_lt_zero _)
                        | succ n188 ih_188 =>
                          intro j188_4 ij188_4 j188_5 ij188_5 H locs hw  hn_188   ls hl
                          refine lv_iload hx hb dX11_lost__188 (lv_at hl 5 rfl) ?_
                          refine lv_bipush (v := 64) hx hb dX11_lost__190 (by decide) ?_
                          refine lv_icmp_ge (tgt := 222) hx hb dX11_lost__192 (by decide) (fun c30 => ?_) (fun c30 => ?_)
                          · --
                            have i31 : Iv j188_5 64 64 := iv_le2 c30 (⟨by decide, by decide⟩ : Iv 64 64 64) ij188_5 (by decide)
                            refine lv_aload_n hx hb dX11_lost__222 rfl (lv_at hl 0 rfl) ?_
                            refine lv_iconst (v := 0) hx hb dX11_lost__223 (by decide) ?_
                            refine p_657 cx hw ha0 (iv_w (⟨by decide, by decide⟩ : Iv 0 0 0) (by decide)) k_f_X11_92 dX11_lost__224 (fun σ32 H locs eσ32 hw => ?_)
                            have fr := oFr_i fr eσ32 (by decide)
                            refine lv_aload_n hx hb dX11_lost__227 rfl (lv_at hl 0 rfl) ?_
                            refine lv_iload hx hb dX11_lost__228 (lv_at hl 4 rfl) ?_
                            refine lv_i2l hx hb dX11_lost__230 rfl ?_
                            refine lv_topl (fun v33 e33 => ?_)
                            refine o_cv hw (oRunV cx hA hw q_X11_tell k_m_X11_278 rfl ha0 (by decide) (As := [.long v33]) (c_X11_tell a0 ha0 v33 (kn_iv ((kp_s eσ32)) (iv_w (⟨by decide, by decide⟩ : Iv 0 0 0) (by decide)))) (by decide) rfl hl.1 rfl (Nat.le_of_ble_eq_true rfl) dX11_lost__231 (by decide)) (fun σ34 H locs hp hw => ?_)
                            obtain ⟨p35_0, p35_1⟩ := hp
                            have fr := oFr_tr fr p35_0 (by decide)
                            have x37 : (σ34.1 657 a0).toInt = (0 : Int32).toInt + 1 := fin_tr p35_1 ((kp_s eσ32))
                            have i36 : Iv (σ34.1 657 a0) 1 1 := iv_fin x37 (⟨by decide, by decide⟩ : Iv 0 0 0) (by decide)
                            refine lv_aload_n hx hb dX11_lost__234 rfl (lv_at hl 0 rfl) ?_
                            refine g_678 cx hw ha0 k_f_X11_70 dX11_lost__235 (fun v38 e38 h38 => ?_)
                            refine lv_iload_n hx hb dX11_lost__238 rfl (lv_at hl 2 rfl) ?_
                            refine o_iald cx hw h38 (by decide) rfl (iv_in i15 (by decide)) dX11_lost__239 (fun v39 e39 b39 => ?_)
                            rw [← hQ]
                            exact o_ri cx rx hw dX11_lost__240 fr
                          · --
                            have i40 : Iv j188_5 1 63 := iv_lt1 (iv_nle c30) ij188_5 (⟨by decide, by decide⟩ : Iv 64 64 64) (by decide)
                            refine lv_aload_n hx hb dX11_lost__195 rfl (lv_at hl 0 rfl) ?_
                            refine g_678 cx hw ha0 k_f_X11_70 dX11_lost__196 (fun v41 e41 h41 => ?_)
                            refine lv_iload hx hb dX11_lost__199 (lv_at hl 5 rfl) ?_
                            refine o_iald cx hw h41 (by decide) rfl (iv_in i40 (by decide)) dX11_lost__201 (fun v42 e42 b42 => ?_)
                            refine lv_aload_n hx hb dX11_lost__202 rfl (lv_at hl 0 rfl) ?_
                            refine g_678 cx hw ha0 k_f_X11_70 dX11_lost__203 (fun v43 e43 h43 => ?_)
                            rw [show v43 = v41 from Option.some.inj (e43.symm.trans (e41))]
                            refine lv_iload hx hb dX11_lost__206 (lv_at hl 4 rfl) ?_
                            refine o_iald cx hw h41 (by decide) rfl (iv_in ij188_4 (by decide)) dX11_lost__208 (fun v44 e44 b44 => ?_)
                            have J_216 : ∀ (j216_4 : Int32) (ij216_4 : Iv j216_4 0 63), ∀ (H : Heap) (locs : List Loc), oI A L τ cy D s.heap σ_84 H locs → ∀ (ls : Array Slot), lv_has ls 6 [(0, .ref a0), (1, .int a1), (2, .int a2), (3, .int a3), (4, .int j216_4), (5, .int j188_5)] → W p l e ({ frames := 4, cells := 0, slots := 0, locals := 93 } : Room) s m args below meth c H locs 0 0 Q (F0 m 216 ls []) := by
                              intro j216_4 ij216_4 H locs hw     ls hl
                              obtain ⟨v45, e45⟩ : ∃ y : Int32, y = j188_5 + 1 := ⟨_, rfl⟩
                              have i45 : Iv v45 2 64 := iv_add e45 i40 (⟨by decide, by decide⟩ : Iv 1 1 1) (by decide)
                              have x45 : v45.toInt = j188_5.toInt + 1 := ex_add e45 i40 (⟨by decide, by decide⟩ : Iv 1 1 1) (by decide)
                              refine lv_iinc (v := v45) (lv' := [(5, .int v45), (0, .ref a0), (1, .int a1), (2, .int a2), (3, .int a3), (4, .int j216_4)]) hx hb dX11_lost__216 hl (k := 5) rfl (by rw [e45]; rfl) (by decide) rfl (fun ls hl => ?_)
                              refine lv_goto (tgt := 188) hx hb dX11_lost__219 (by decide) ?_
                              exact ih_188 j216_4 ij216_4 v45 (iv_w i45 (by decide)) _ _ hw (ms_up x45 (by decide) (iv_w (a' := 1) (b' := 64) i45 (by decide)).2 hn_188) _ (lv_sub hl [1, 2, 3, 4, 5, 0] rfl)
                            refine lv_icmp_le (tgt := 216) hx hb dX11_lost__209 (by decide) (fun c46 => ?_) (fun c46 => ?_)
                            · --
                              exact J_216 j188_4 ij188_4 _ _ hw _ (lv_sub hl [0, 1, 2, 3, 4, 5] rfl)
                            · --
                              have i47 : Iv v44 (-2147483648) 2147483646 := iv_lt1 (iv_nle c46) (iv_top v44) (iv_top v42) (by decide)
                              have i48 : Iv v42 (-2147483647) 2147483647 := iv_lt2 (iv_nle c46) (iv_top v44) (iv_top v42) (by decide)
                              refine lv_iload hx hb dX11_lost__212 (lv_at hl 5 rfl) ?_
                              refine lv_istore (lv' := [(4, .int j188_5), (0, .ref a0), (1, .int a1), (2, .int a2), (3, .int a3), (5, .int j188_5)]) hx hb dX11_lost__214 hl (by decide) rfl (fun ls hl => ?_)
                              exact J_216 j188_5 (iv_w i40 (by decide)) _ _ hw _ (lv_sub hl [1, 2, 3, 4, 0, 5] rfl)
                      exact J_188 _ 0 (iv_w (⟨by decide, by decide⟩ : Iv 0 0 0) (by decide)) 1 (iv_w (⟨by decide, by decide⟩ : Iv 1 1 1) (by decide)) _ _ hw (Nat.lt_succ_self _) _ (lv_sub hl [2, 3, 4, 5, 1, 0] rfl)
                    · --
                      have i49 : Iv j84_4 0 39 := iv_lt1 (iv_nle c29) ij84_4 i21 (by decide)
                      have i50 : Iv a3 1 40 := iv_lt2 (iv_nle c29) ij84_4 i21 (by decide)
                      refine lv_iconst (v := 0) hx hb dX11_lost__90 (by decide) ?_
                      refine lv_istore (lv' := [(5, .int 0), (0, .ref a0), (1, .int a1), (2, .int a2), (3, .int a3), (4, .int j84_4)]) hx hb dX11_lost__91 hl (by decide) rfl (fun ls hl => ?_)
                      have frE_93 := fr
                      have J_93 : ∀ n93 : Nat, ∀ (j93_5 : Int32) (ij93_5 : Iv j93_5 0 64), ∀ (σ_93 : oSt) (H : Heap) (locs : List Loc), oI A L τ cy D s.heap σ_93 H locs → oFr τ fs_X11_lost_ ts_X11_lost_ σ σ_93 → (64 - j93_5.toInt).toNat < n93 → ∀ (ls : Array Slot), lv_has ls 6 [(0, .ref a0), (1, .int a1), (2, .int a2), (3, .int a3), (4, .int j84_4), (5, .int j93_5)] → W p l e ({ frames := 4, cells := 0, slots := 0, locals := 93 } : Room) s m args below meth c H locs 0 0 Q (F0 m 93 ls []) := by
                        intro n93
                        induction n93 with
                        | zero => intro j93_5 ij93_5 σ_93 H locs hw fr   hn_93   ls hl; exact absurd hn_93 (Nat.not_lt_zero _)
                        | succ n93 ih_93 =>
                          intro j93_5 ij93_5 σ_93 H locs hw fr   hn_93   ls hl
                          have fr_93 := fr
                          refine lv_iload hx hb dX11_lost__93 (lv_at hl 5 rfl) ?_
                          refine lv_bipush (v := 64) hx hb dX11_lost__95 (by decide) ?_
                          refine lv_icmp_ge (tgt := 114) hx hb dX11_lost__97 (by decide) (fun c51 => ?_) (fun c51 => ?_)
                          · --
                            have i52 : Iv j93_5 64 64 := iv_le2 c51 (⟨by decide, by decide⟩ : Iv 64 64 64) ij93_5 (by decide)
                            refine lv_iconst (v := 0) hx hb dX11_lost__114 (by decide) ?_
                            refine lv_istore (lv' := [(5, .int 0), (0, .ref a0), (1, .int a1), (2, .int a2), (3, .int a3), (4, .int j84_4)]) hx hb dX11_lost__115 hl (by decide) rfl (fun ls hl => ?_)
                            have frE_117 := fr
                            have J_117 : ∀ n117 : Nat, ∀ (j117_5 : Int32) (ij117_5 : Iv j117_5 0 64), ∀ (σ_117 : oSt) (H : Heap) (locs : List Loc), oI A L τ cy D s.heap σ_117 H locs → oFr τ fs_X11_lost_ ts_X11_lost_ σ σ_117 → (64 - j117_5.toInt).toNat < n117 → ∀ (ls : Array Slot), lv_has ls 6 [(0, .ref a0), (1, .int a1), (2, .int a2), (3, .int a3), (4, .int j84_4), (5, .int j117_5)] → W p l e ({ frames := 4, cells := 0, slots := 0, locals := 93 } : Room) s m args below meth c H locs 0 0 Q (F0 m 117 ls []) := by
                              intro n117
                              induction n117 with
                              | zero => intro j117_5 ij117_5 σ_117 H locs hw fr   hn_117   ls hl; exact absurd hn_117 (Nat.not_lt_zero _)
                              | succ n117 ih_117 =>
                                intro j117_5 ij117_5 σ_117 H locs hw fr   hn_117   ls hl
                                have fr_117 := fr
                                refine lv_iload hx hb dX11_lost__117 (lv_at hl 5 rfl) ?_
                                refine lv_bipush (v := 64) hx hb dX11_lost__119 (by decide) ?_
                                refine lv_icmp_ge (tgt := 146) hx hb dX11_lost__121 (by decide) (fun c53 => ?_) (fun c53 => ?_)
                                · --
                                  have i54 : Iv j117_5 64 64 := iv_le2 c53 (⟨by decide, by decide⟩ : Iv 64 64 64) ij117_5 (by decide)
                                  refine lv_iconst (v := 0) hx hb dX11_lost__146 (by decide) ?_
                                  refine lv_istore (lv' := [(5, .int 0), (0, .ref a0), (1, .int a1), (2, .int a2), (3, .int a3), (4, .int j84_4)]) hx hb dX11_lost__147 hl (by decide) rfl (fun ls hl => ?_)
                                  have frE_149 := fr
                                  have J_149 : ∀ n149 : Nat, ∀ (j149_5 : Int32) (ij149_5 : Iv j149_5 0 64), ∀ (σ_149 : oSt) (H : Heap) (locs : List Loc), oI A L τ cy D s.heap σ_149 H locs → oFr τ fs_X11_lost_ ts_X11_lost_ σ σ_149 → (64 - j149_5.toInt).toNat < n149 → ∀ (ls : Array Slot), lv_has ls 6 [(0, .ref a0), (1, .int a1), (2, .int a2), (3, .int a3), (4, .int j84_4), (5, .int j149_5)] → W p l e ({ frames := 4, cells := 0, slots := 0, locals := 93 } : Room) s m args below meth c H locs 0 0 Q (F0 m 149 ls []) := by
                                    intro n149
                                    induction n149 with
                                    | zero => intro j149_5 ij149_5 σ_149 H locs hw fr   hn_149   ls hl; exact absurd hn_149 (Nat.not_lt_zero _)
                                    | succ n149 ih_149 =>
                                      intro j149_5 ij149_5 σ_149 H locs hw fr   hn_149   ls hl
                                      have fr_149 := fr
                                      refine lv_iload hx hb dX11_lost__149 (lv_at hl 5 rfl) ?_
                                      refine lv_bipush (v := 64) hx hb dX11_lost__151 (by decide) ?_
                                      refine lv_icmp_ge (tgt := 176) hx hb dX11_lost__153 (by decide) (fun c55 => ?_) (fun c55 => ?_)
                                      · --
                                        have i56 : Iv j149_5 64 64 := iv_le2 c55 (⟨by decide, by decide⟩ : Iv 64 64 64) ij149_5 (by decide)
                                        obtain ⟨v57, e57⟩ : ∃ y : Int32, y = j84_4 + 1 := ⟨_, rfl⟩
                                        have i57 : Iv v57 1 40 := iv_add e57 i49 (⟨by decide, by decide⟩ : Iv 1 1 1) (by decide)
                                        have x57 : v57.toInt = j84_4.toInt + 1 := ex_add e57 i49 (⟨by decide, by decide⟩ : Iv 1 1 1) (by decide)
                                        refine lv_iinc (v := v57) (lv' := [(4, .int v57), (0, .ref a0), (1, .int a1), (2, .int a2), (3, .int a3), (5, .int j149_5)]) hx hb dX11_lost__176 hl (k := 4) rfl (by rw [e57]; rfl) (by decide) rfl (fun ls hl => ?_)
                                        refine lv_goto (tgt := 84) hx hb dX11_lost__179 (by decide) ?_
                                        exact ih_84 v57 (iv_w i57 (by decide)) σ_149 _ _ hw fr (ms_up x57 (by decide) (iv_w (a' := 0) (b' := 40) i57 (by decide)).2 hn_84) _ (lv_sub hl [1, 2, 3, 4, 0] rfl)
                                      · --
                                        have i58 : Iv j149_5 0 63 := iv_lt1 (iv_nle c55) ij149_5 (⟨by decide, by decide⟩ : Iv 64 64 64) (by decide)
                                        refine lv_aload_n hx hb dX11_lost__156 rfl (lv_at hl 0 rfl) ?_
                                        refine g_678 cx hw ha0 k_f_X11_70 dX11_lost__157 (fun v59 e59 h59 => ?_)
                                        refine lv_iload hx hb dX11_lost__160 (lv_at hl 5 rfl) ?_
                                        refine lv_aload_n hx hb dX11_lost__162 rfl (lv_at hl 0 rfl) ?_
                                        refine g_679 cx hw ha0 k_f_X11_73 dX11_lost__163 (fun v60 e60 h60 => ?_)
                                        refine lv_iload hx hb dX11_lost__166 (lv_at hl 5 rfl) ?_
                                        refine o_iald cx hw h60 (by decide) rfl (iv_in i58 (by decide)) dX11_lost__168 (fun v61 e61 b61 => ?_)
                                        refine o_iast cx hw h59 (by decide) rfl (iv_in i58 (by decide)) trivial dX11_lost__169 (fun σ62 H locs eσ62 hw => ?_)
                                        have fr := oFr_p fr eσ62 h59 (by decide)
                                        obtain ⟨v63, e63⟩ : ∃ y : Int32, y = j149_5 + 1 := ⟨_, rfl⟩
                                        have i63 : Iv v63 1 64 := iv_add e63 i58 (⟨by decide, by decide⟩ : Iv 1 1 1) (by decide)
                                        have x63 : v63.toInt = j149_5.toInt + 1 := ex_add e63 i58 (⟨by decide, by decide⟩ : Iv 1 1 1) (by decide)
                                        refine lv_iinc (v := v63) (lv' := [(5, .int v63), (0, .ref a0), (1, .int a1), (2, .int a2), (3, .int a3), (4, .int j84_4)]) hx hb dX11_lost__170 hl (k := 5) rfl (by rw [e63]; rfl) (by decide) rfl (fun ls hl => ?_)
                                        refine lv_goto (tgt := 149) hx hb dX11_lost__173 (by decide) ?_
                                        exact ih_149 v63 (iv_w i63 (by decide)) σ62 _ _ hw fr (ms_up x63 (by decide) (iv_w (a' := 0) (b' := 64) i63 (by decide)).2 hn_149) _ (lv_sub hl [1, 2, 3, 4, 5, 0] rfl)
                                  exact J_149 _ 0 (iv_w (⟨by decide, by decide⟩ : Iv 0 0 0) (by decide)) σ_117 _ _ hw fr (Nat.lt_succ_self _) _ (lv_sub hl [1, 2, 3, 4, 5, 0] rfl)
                                · --
                                  have i64 : Iv j117_5 0 63 := iv_lt1 (iv_nle c53) ij117_5 (⟨by decide, by decide⟩ : Iv 64 64 64) (by decide)
                                  refine lv_aload_n hx hb dX11_lost__124 rfl (lv_at hl 0 rfl) ?_
                                  refine g_678 cx hw ha0 k_f_X11_70 dX11_lost__125 (fun v65 e65 h65 => ?_)
                                  refine lv_iload hx hb dX11_lost__128 (lv_at hl 5 rfl) ?_
                                  refine o_iald cx hw h65 (by decide) rfl (iv_in i64 (by decide)) dX11_lost__130 (fun v66 e66 b66 => ?_)
                                  have frE_140 := fr
                                  have J_140 : ∀ (σ_140 : oSt) (H : Heap) (locs : List Loc), oI A L τ cy D s.heap σ_140 H locs → oFr τ fs_X11_lost_ ts_X11_lost_ σ σ_140 → ∀ (ls : Array Slot), lv_has ls 6 [(0, .ref a0), (1, .int a1), (2, .int a2), (3, .int a3), (4, .int j84_4), (5, .int j117_5)] → W p l e ({ frames := 4, cells := 0, slots := 0, locals := 93 } : Room) s m args below meth c H locs 0 0 Q (F0 m 140 ls []) := by
                                    intro  σ_140 H locs hw fr      ls hl
                                    have fr_140 := fr
                                    obtain ⟨v67, e67⟩ : ∃ y : Int32, y = j117_5 + 1 := ⟨_, rfl⟩
                                    have i67 : Iv v67 1 64 := iv_add e67 i64 (⟨by decide, by decide⟩ : Iv 1 1 1) (by decide)
                                    have x67 : v67.toInt = j117_5.toInt + 1 := ex_add e67 i64 (⟨by decide, by decide⟩ : Iv 1 1 1) (by decide)
                                    refine lv_iinc (v := v67) (lv' := [(5, .int v67), (0, .ref a0), (1, .int a1), (2, .int a2), (3, .int a3), (4, .int j84_4)]) hx hb dX11_lost__140 hl (k := 5) rfl (by rw [e67]; rfl) (by decide) rfl (fun ls hl => ?_)
                                    refine lv_goto (tgt := 117) hx hb dX11_lost__143 (by decide) ?_
                                    exact ih_117 v67 (iv_w i67 (by decide)) σ_140 _ _ hw fr (ms_up x67 (by decide) (iv_w (a' := 0) (b' := 64) i67 (by decide)).2 hn_117) _ (lv_sub hl [1, 2, 3, 4, 5, 0] rfl)
                                  refine lv_if_le (tgt := 140) hx hb dX11_lost__131 (by decide) (fun c68 => ?_) (fun c68 => ?_)
                                  · --
                                    have i69 : Iv v66 (-2147483648) 0 := iv_le1 c68 (iv_top v66) (⟨by decide, by decide⟩ : Iv 0 0 0) (by decide)
                                    exact J_140 σ_117 _ _ hw fr _ (lv_sub hl [0, 1, 2, 3, 4, 5] rfl)
                                  · --
                                    have i70 : Iv v66 1 2147483647 := iv_lt2 (iv_nle c68) (⟨by decide, by decide⟩ : Iv 0 0 0) (iv_top v66) (by decide)
                                    refine lv_aload_n hx hb dX11_lost__134 rfl (lv_at hl 0 rfl) ?_
                                    refine lv_iload hx hb dX11_lost__135 (lv_at hl 5 rfl) ?_
                                    refine o_cv hw (oRunV cx hA hw q_X11_share k_m_X11_371 rfl ha0 (by decide) (As := [.int j117_5]) (c_X11_share a0 ha0 j117_5 (iv_w i64 (by decide))) (by decide) rfl hl.1 rfl (Nat.le_of_ble_eq_true rfl) dX11_lost__137 (by decide)) (fun σ71 H locs hp hw => ?_)
                                    have p72_0 := hp
                                    have fr := oFr_tr fr p72_0 (by decide)
                                    exact J_140 σ71 _ _ hw fr _ (lv_sub hl [0, 1, 2, 3, 4, 5] rfl)
                            exact J_117 _ 0 (iv_w (⟨by decide, by decide⟩ : Iv 0 0 0) (by decide)) σ_93 _ _ hw fr (Nat.lt_succ_self _) _ (lv_sub hl [1, 2, 3, 4, 5, 0] rfl)
                          · --
                            have i73 : Iv j93_5 0 63 := iv_lt1 (iv_nle c51) ij93_5 (⟨by decide, by decide⟩ : Iv 64 64 64) (by decide)
                            refine lv_aload_n hx hb dX11_lost__100 rfl (lv_at hl 0 rfl) ?_
                            refine g_679 cx hw ha0 k_f_X11_73 dX11_lost__101 (fun v74 e74 h74 => ?_)
                            refine lv_iload hx hb dX11_lost__104 (lv_at hl 5 rfl) ?_
                            refine lv_iconst (v := 0) hx hb dX11_lost__106 (by decide) ?_
                            refine o_iast cx hw h74 (by decide) rfl (iv_in i73 (by decide)) trivial dX11_lost__107 (fun σ75 H locs eσ75 hw => ?_)
                            have fr := oFr_p fr eσ75 h74 (by decide)
                            obtain ⟨v76, e76⟩ : ∃ y : Int32, y = j93_5 + 1 := ⟨_, rfl⟩
                            have i76 : Iv v76 1 64 := iv_add e76 i73 (⟨by decide, by decide⟩ : Iv 1 1 1) (by decide)
                            have x76 : v76.toInt = j93_5.toInt + 1 := ex_add e76 i73 (⟨by decide, by decide⟩ : Iv 1 1 1) (by decide)
                            refine lv_iinc (v := v76) (lv' := [(5, .int v76), (0, .ref a0), (1, .int a1), (2, .int a2), (3, .int a3), (4, .int j84_4)]) hx hb dX11_lost__108 hl (k := 5) rfl (by rw [e76]; rfl) (by decide) rfl (fun ls hl => ?_)
                            refine lv_goto (tgt := 93) hx hb dX11_lost__111 (by decide) ?_
                            exact ih_93 v76 (iv_w i76 (by decide)) σ75 _ _ hw fr (ms_up x76 (by decide) (iv_w (a' := 0) (b' := 64) i76 (by decide)).2 hn_93) _ (lv_sub hl [1, 2, 3, 4, 5, 0] rfl)
                      exact J_93 _ 0 (iv_w (⟨by decide, by decide⟩ : Iv 0 0 0) (by decide)) σ_84 _ _ hw fr (Nat.lt_succ_self _) _ (lv_sub hl [1, 2, 3, 4, 5, 0] rfl)
                exact J_84 _ 0 (iv_w (⟨by decide, by decide⟩ : Iv 0 0 0) (by decide)) σ_48 _ _ hw fr (Nat.lt_succ_self _) _ (lv_sub hl [1, 2, 3, 4, 0] rfl)
              · --
                have i77 : Iv j48_4 0 63 := iv_lt1 (iv_nle c27) ij48_4 (⟨by decide, by decide⟩ : Iv 64 64 64) (by decide)
                refine lv_aload_n hx hb dX11_lost__55 rfl (lv_at hl 0 rfl) ?_
                refine g_678 cx hw ha0 k_f_X11_70 dX11_lost__56 (fun v78 e78 h78 => ?_)
                refine lv_iload hx hb dX11_lost__59 (lv_at hl 4 rfl) ?_
                refine lv_iload hx hb dX11_lost__61 (lv_at hl 4 rfl) ?_
                refine lv_iload_n hx hb dX11_lost__63 rfl (lv_at hl 1 rfl) ?_
                have J_74 : ∀ (k74_2 : Int32) (ik74_2 : Iv k74_2 0 1000000), ∀ (H : Heap) (locs : List Loc), oI A L τ cy D s.heap σ_48 H locs → ∀ (ls : Array Slot), lv_has ls 6 [(0, .ref a0), (1, .int a1), (2, .int a2), (3, .int a3), (4, .int j48_4)] → W p l e ({ frames := 4, cells := 0, slots := 0, locals := 93 } : Room) s m args below meth c H locs 0 0 Q (F0 m 74 ls [.int k74_2, .int j48_4, .ref v78]) := by
                  intro k74_2 ik74_2 H locs hw     ls hl
                  refine o_iast cx hw h78 (by decide) rfl (iv_in i77 (by decide)) trivial dX11_lost__74 (fun σ79 H locs eσ79 hw => ?_)
                  have fr := oFr_p fr eσ79 h78 (by decide)
                  obtain ⟨v80, e80⟩ : ∃ y : Int32, y = j48_4 + 1 := ⟨_, rfl⟩
                  have i80 : Iv v80 1 64 := iv_add e80 i77 (⟨by decide, by decide⟩ : Iv 1 1 1) (by decide)
                  have x80 : v80.toInt = j48_4.toInt + 1 := ex_add e80 i77 (⟨by decide, by decide⟩ : Iv 1 1 1) (by decide)
                  refine lv_iinc (v := v80) (lv' := [(4, .int v80), (0, .ref a0), (1, .int a1), (2, .int a2), (3, .int a3)]) hx hb dX11_lost__75 hl (k := 4) rfl (by rw [e80]; rfl) (by decide) rfl (fun ls hl => ?_)
                  refine lv_goto (tgt := 48) hx hb dX11_lost__78 (by decide) ?_
                  exact ih_48 v80 (iv_w i80 (by decide)) σ79 _ _ hw fr (ms_up x80 (by decide) (iv_w (a' := 0) (b' := 64) i80 (by decide)).2 hn_48) _ (lv_sub hl [1, 2, 3, 4, 0] rfl)
                refine lv_icmp_ne (tgt := 73) hx hb dX11_lost__64 (by decide) (fun c81 => ?_) (fun c81 => ?_)
                · --
                  refine lv_iconst (v := 0) hx hb dX11_lost__73 (by decide) ?_
                  exact J_74 0 (iv_w (⟨by decide, by decide⟩ : Iv 0 0 0) (by decide)) _ _ hw _ (lv_sub hl [0, 1, 2, 3, 4] rfl)
                · --
                  refine lv_ldcw (v := 1000000) hx hb hown (hts _ k_k_X11_359) dX11_lost__67 ?_
                  refine lv_goto (tgt := 74) hx hb dX11_lost__70 (by decide) ?_
                  exact J_74 1000000 (iv_w (⟨by decide, by decide⟩ : Iv 1000000 1000000 1000000) (by decide)) _ _ hw _ (lv_sub hl [0, 1, 2, 3, 4] rfl)
          exact J_48 _ 0 (iv_w (⟨by decide, by decide⟩ : Iv 0 0 0) (by decide)) σ1 _ _ hw fr (Nat.lt_succ_self _) _ (lv_sub hl [1, 2, 3, 4, 0] rfl)
        · --
          have i82 : Iv v24 0 0 := iv_eq1 c25 p24_1 (⟨by decide, by decide⟩ : Iv 0 0 0) (by decide)
          refine lv_iconst (v := (-1)) hx hb dX11_lost__43 (by decide) ?_
          rw [← hQ]
          exact o_ri cx rx hw dX11_lost__44 fr
abbrev fs_X11_letter : List Nat := [657, 658, 659, 660, 661, 662, 663, 669]
abbrev ts_X11_letter : List Nat := [48, 52, 55]
set_option maxHeartbeats 4000000 in
set_option maxRecDepth 100000 in
theorem c_X11_letter (a0 : Nat) (ha0 : oA L τ a0 10) (a1 : Int32) : oMet l A L τ cy D K yX11_letter cX11_letter 4 (some .int) 341 8573 [.ref a0, .int a1] σ (va_Qi (fun r σ1 => oFr τ fs_X11_letter ts_X11_letter σ σ1 ∧ Iv r (-2) 100) (oPo A L τ cy D) A) := by
  refine oMk (by decide) (Nat.le_of_ble_eq_true rfl) rfl ?_
  intro p e s m args below meth c ls cx rx hA hw hl
  generalize hQ : MQ below _ args s 0 0 A = Q
  have hx := cx.1.1
  have hb := cx.1.2.1
  have hml := cx.1.2.2.1
  have hown := cx.1.2.2.2.1
  have hts := cx.1.2.2.2.2
  have hl : lv_has ls 4 [(0, .ref a0), (1, .int a1)] := hl
  have fr : oFr τ fs_X11_letter ts_X11_letter σ σ := oFr_rf
  refine lv_aload_n hx hb dX11_letter_0 rfl (lv_at hl 0 rfl) ?_
  refine lv_iconst (v := 0) hx hb dX11_letter_1 (by decide) ?_
  refine p_658 cx hw ha0 k_f_X11_89 dX11_letter_2 (fun σ1 H locs eσ1 hw => ?_)
  have fr := oFr_i fr eσ1 (by decide)
  refine lv_aload_n hx hb dX11_letter_5 rfl (lv_at hl 0 rfl) ?_
  refine lv_iload_n hx hb dX11_letter_6 rfl (lv_at hl 1 rfl) ?_
  have i2 : Iv (σ1.1 641 a0) 0 8 := o_fb (j := 641) hw ha0 rfl
  have i3 : Iv (σ1.1 642 a0) 0 8 := o_fb (j := 642) hw ha0 rfl
  refine o_ci hw (oRunV cx hA hw q_X11_isCell k_m_X11_157 rfl ha0 (by decide) (As := [.int a1]) (c_X11_isCell a0 ha0 a1) (by decide) rfl hl.1 rfl (Nat.le_of_ble_eq_true rfl) dX11_letter_7 (by decide)) (fun v5 σ4 H locs hp hw => ?_)
  obtain ⟨p5_0, p5_1, p5_2, p5_3⟩ := hp
  rw [p5_0] at hw
  refine lv_if_ne (tgt := 15) hx hb dX11_letter_10 (by decide) (fun c6 => ?_) (fun c6 => ?_)
  · --
    have i7 : Iv v5 1 1 := iv_ne1 c6 p5_1 (⟨by decide, by decide⟩ : Iv 0 0 0) (by decide)
    have i8 : Iv a1 0 63 := p5_2 c6
    refine lv_aload_n hx hb dX11_letter_15 rfl (lv_at hl 0 rfl) ?_
    refine g_640 cx hw ha0 k_f_X11_9 dX11_letter_16 (fun v9 e9 h9 => ?_)
    refine lv_aload_n hx hb dX11_letter_19 rfl (lv_at hl 0 rfl) ?_
    refine g_677 cx hw ha0 k_f_X11_67 dX11_letter_20 (fun v10 e10 h10 => ?_)
    refine lv_iconst (v := 0) hx hb dX11_letter_23 (by decide) ?_
    refine o_cv hw (oRunS cx hA hw q_X11_lay k_m_X11_251 (As := [.ref v9, .ref v10, .int 0]) (c_X11_layN v9 h9 v10 h10 0 (iv_w (⟨by decide, by decide⟩ : Iv 0 0 0) (by decide))) (by decide) rfl hl.1 rfl (Nat.le_of_ble_eq_true rfl) dX11_letter_24 (by decide)) (fun σ11 H locs hp hw => ?_)
    have p12_0 := hp
    have fr := oFr_tr fr p12_0 (by decide)
    refine lv_aload_n hx hb dX11_letter_27 rfl (lv_at hl 0 rfl) ?_
    refine lv_aload_n hx hb dX11_letter_28 rfl (lv_at hl 0 rfl) ?_
    refine g_640 cx hw ha0 k_f_X11_9 dX11_letter_29 (fun v13 e13 h13 => ?_)
    rw [show v13 = v9 from Option.some.inj (e13.symm.trans (((kr_c p12_0 (by decide)).trans e9)))]
    refine lv_iload_n hx hb dX11_letter_32 rfl (lv_at hl 1 rfl) ?_
    have i14 : Iv (σ11.1 647 a0) 0 6 := o_fb (j := 647) hw ha0 rfl
    refine o_ci hw (oRunV cx hA hw q_X11_herdsAt k_m_X11_233 rfl ha0 (by decide) (As := [.ref v9, .int a1]) (c_X11_herdsAt a0 ha0 v9 h9 a1) (by decide) rfl hl.1 rfl (Nat.le_of_ble_eq_true rfl) dX11_letter_33 (by decide)) (fun v16 σ15 H locs hp hw => ?_)
    obtain ⟨p16_0, p16_1, p16_2⟩ := hp
    rw [p16_0] at hw
    have J_55 : ∀ (k55_0 : Int32) (ik55_0 : Iv k55_0 (-1) 5), ∀ (H : Heap) (locs : List Loc), oI A L τ cy D s.heap σ11 H locs → ∀ (ls : Array Slot), lv_has ls 4 [(0, .ref a0), (1, .int a1)] → W p l e ({ frames := 341, cells := 0, slots := 0, locals := 8573 } : Room) s m args below meth c H locs 0 0 Q (F0 m 55 ls [.int k55_0]) := by
      intro k55_0 ik55_0 H locs hw     ls hl
      refine lv_istore_n (lv' := [(2, .int k55_0), (0, .ref a0), (1, .int a1)]) hx hb dX11_letter_55 rfl hl (by decide) rfl (fun ls hl => ?_)
      refine lv_iconst (v := 1) hx hb dX11_letter_56 (by decide) ?_
      refine lv_istore_n (lv' := [(3, .int 1), (2, .int k55_0), (0, .ref a0), (1, .int a1)]) hx hb dX11_letter_57 rfl hl (by decide) rfl (fun ls hl => ?_)
      have frE_58 := fr
      have J_58 : ∀ n58 : Nat, ∀ (j58_2 : Int32) (ij58_2 : Iv j58_2 (-1) 5) (j58_3 : Int32) (ij58_3 : Iv j58_3 1 101), ∀ (σ_58 : oSt) (H : Heap) (locs : List Loc), oI A L τ cy D s.heap σ_58 H locs → oFr τ fs_X11_letter ts_X11_letter σ σ_58 → (101 - j58_3.toInt).toNat < n58 → ∀ (ls : Array Slot), lv_has ls 4 [(0, .ref a0), (1, .int a1), (2, .int j58_2), (3, .int j58_3)] → W p l e ({ frames := 341, cells := 0, slots := 0, locals := 8573 } : Room) s m args below meth c H locs 0 0 Q (F0 m 58 ls []) := by
        intro n58
        induction n58 with
        | zero => intro j58_2 ij58_2 j58_3 ij58_3 σ_58 H locs hw fr   hn_58   ls hl; exact absurd hn_58 (Nat.not_lt_zero _)
        | succ n58 ih_58 =>
          intro j58_2 ij58_2 j58_3 ij58_3 σ_58 H locs hw fr   hn_58   ls hl
          have fr_58 := fr
          refine lv_iload_n hx hb dX11_letter_58 rfl (lv_at hl 3 rfl) ?_
          refine lv_bipush (v := 100) hx hb dX11_letter_59 (by decide) ?_
          refine lv_icmp_gt (tgt := 160) hx hb dX11_letter_61 (by decide) (fun c17 => ?_) (fun c17 => ?_)
          · --
            have i18 : Iv j58_3 101 101 := iv_lt2 c17 (⟨by decide, by decide⟩ : Iv 100 100 100) ij58_3 (by decide)
            refine lv_bipush (v := (-2)) hx hb dX11_letter_160 (by decide) ?_
            rw [← hQ]
            exact o_ri cx rx hw dX11_letter_162 ⟨fr, (iv_w (⟨by decide, by decide⟩ : Iv (-2) (-2) (-2)) (by decide))⟩
          · --
            have i19 : Iv j58_3 1 100 := iv_le1 (iv_nlt c17) ij58_3 (⟨by decide, by decide⟩ : Iv 100 100 100) (by decide)
            refine lv_aload_n hx hb dX11_letter_64 rfl (lv_at hl 0 rfl) ?_
            refine lv_aload_n hx hb dX11_letter_65 rfl (lv_at hl 0 rfl) ?_
            refine g_677 cx hw ha0 k_f_X11_67 dX11_letter_66 (fun v20 e20 h20 => ?_)
            rw [show v20 = v10 from Option.some.inj (e20.symm.trans (((kr_c fr_58 (by decide)).trans ((kr_c frE_58 (by decide)).symm.trans (((kr_c p12_0 (by decide)).trans e10))))))]
            refine o_ci hw (oRunV cx hA hw q_X11_goHour k_m_X11_285 rfl ha0 (by decide) (As := [.ref v10]) (c_X11_goHour a0 ha0 v10 h10) (by decide) rfl hl.1 rfl (Nat.le_of_ble_eq_true rfl) dX11_letter_69 (by decide)) (fun v22 σ21 H locs hp hw => ?_)
            have p22_0 := hp
            have fr := oFr_tr fr p22_0 (by decide)
            refine lv_pop hx hb dX11_letter_72 rfl ?_
            refine lv_iload_n hx hb dX11_letter_73 rfl (lv_at hl 2 rfl) ?_
            refine lv_iconst (v := (-1)) hx hb dX11_letter_74 (by decide) ?_
            have J_154 : ∀ (j154_2 : Int32) (ij154_2 : Iv j154_2 (-1) 5), ∀ (H : Heap) (locs : List Loc), oI A L τ cy D s.heap σ21 H locs → ∀ (ls : Array Slot), lv_has ls 4 [(0, .ref a0), (1, .int a1), (2, .int j154_2), (3, .int j58_3)] → W p l e ({ frames := 341, cells := 0, slots := 0, locals := 8573 } : Room) s m args below meth c H locs 0 0 Q (F0 m 154 ls []) := by
              intro j154_2 ij154_2 H locs hw     ls hl
              obtain ⟨v23, e23⟩ : ∃ y : Int32, y = j58_3 + 1 := ⟨_, rfl⟩
              have i23 : Iv v23 2 101 := iv_add e23 i19 (⟨by decide, by decide⟩ : Iv 1 1 1) (by decide)
              have x23 : v23.toInt = j58_3.toInt + 1 := ex_add e23 i19 (⟨by decide, by decide⟩ : Iv 1 1 1) (by decide)
              refine lv_iinc (v := v23) (lv' := [(3, .int v23), (0, .ref a0), (1, .int a1), (2, .int j154_2)]) hx hb dX11_letter_154 hl (k := 3) rfl (by rw [e23]; rfl) (by decide) rfl (fun ls hl => ?_)
              refine lv_goto (tgt := 58) hx hb dX11_letter_157 (by decide) ?_
              exact ih_58 j154_2 ij154_2 v23 (iv_w i23 (by decide)) σ21 _ _ hw fr (ms_up x23 (by decide) (iv_w (a' := 1) (b' := 101) i23 (by decide)).2 hn_58) _ (lv_sub hl [1, 2, 3, 0] rfl)
            refine lv_icmp_ne (tgt := 110) hx hb dX11_letter_75 (by decide) (fun c24 => ?_) (fun c24 => ?_)
            · --
              have i25 : Iv j58_2 0 5 := iv_ne1 c24 ij58_2 (⟨by decide, by decide⟩ : Iv (-1) (-1) (-1)) (by decide)
              refine lv_aload_n hx hb dX11_letter_110 rfl (lv_at hl 0 rfl) ?_
              refine g_677 cx hw ha0 k_f_X11_67 dX11_letter_111 (fun v26 e26 h26 => ?_)
              rw [show v26 = v10 from Option.some.inj (e26.symm.trans (((kr_c p22_0 (by decide)).trans ((kr_c fr_58 (by decide)).trans ((kr_c frE_58 (by decide)).symm.trans (((kr_c p12_0 (by decide)).trans e10)))))))]
              refine lv_sipush (v := 326) hx hb dX11_letter_114 (by decide) ?_
              refine lv_iload_n hx hb dX11_letter_117 rfl (lv_at hl 2 rfl) ?_
              refine lv_iadd hx hb dX11_letter_118 ?_
              refine lv_topi (fun v27 e27 => ?_)
              have i27 : Iv v27 326 331 := iv_add e27 (⟨by decide, by decide⟩ : Iv 326 326 326) i25 (by decide)
              have x27 : v27.toInt = j58_2.toInt + 326 := (ex_add e27 (⟨by decide, by decide⟩ : Iv 326 326 326) i25 (by decide)).trans (Int.add_comm _ _)
              refine o_iald cx hw h10 (by decide) rfl (iv_in i27 (by decide)) dX11_letter_119 (fun v28 e28 b28 => ?_)
              refine lv_if_ne (tgt := 126) hx hb dX11_letter_120 (by decide) (fun c29 => ?_) (fun c29 => ?_)
              · --
                refine lv_aload_n hx hb dX11_letter_126 rfl (lv_at hl 0 rfl) ?_
                refine lv_iconst (v := 0) hx hb dX11_letter_127 (by decide) ?_
                refine p_657 cx hw ha0 (iv_w (⟨by decide, by decide⟩ : Iv 0 0 0) (by decide)) k_f_X11_92 dX11_letter_128 (fun σ30 H locs eσ30 hw => ?_)
                have fr := oFr_i fr eσ30 (by decide)
                refine lv_aload_n hx hb dX11_letter_131 rfl (lv_at hl 0 rfl) ?_
                refine lv_iload_n hx hb dX11_letter_132 rfl (lv_at hl 2 rfl) ?_
                refine lv_i2l hx hb dX11_letter_133 rfl ?_
                refine lv_topl (fun v31 e31 => ?_)
                refine o_cv hw (oRunV cx hA hw q_X11_tell k_m_X11_278 rfl ha0 (by decide) (As := [.long v31]) (c_X11_tell a0 ha0 v31 (kn_iv ((kp_s eσ30)) (iv_w (⟨by decide, by decide⟩ : Iv 0 0 0) (by decide)))) (by decide) rfl hl.1 rfl (Nat.le_of_ble_eq_true rfl) dX11_letter_134 (by decide)) (fun σ32 H locs hp hw => ?_)
                obtain ⟨p33_0, p33_1⟩ := hp
                have fr := oFr_tr fr p33_0 (by decide)
                have x35 : (σ32.1 657 a0).toInt = (0 : Int32).toInt + 1 := fin_tr p33_1 ((kp_s eσ30))
                have i34 : Iv (σ32.1 657 a0) 1 1 := iv_fin x35 (⟨by decide, by decide⟩ : Iv 0 0 0) (by decide)
                refine lv_aload_n hx hb dX11_letter_137 rfl (lv_at hl 0 rfl) ?_
                refine lv_aload_n hx hb dX11_letter_138 rfl (lv_at hl 0 rfl) ?_
                refine g_677 cx hw ha0 k_f_X11_67 dX11_letter_139 (fun v36 e36 h36 => ?_)
                rw [show v36 = v10 from Option.some.inj (e36.symm.trans (((kr_c p33_0 (by decide)).trans ((kr_i eσ30).trans ((kr_c p22_0 (by decide)).trans ((kr_c fr_58 (by decide)).trans ((kr_c frE_58 (by decide)).symm.trans (((kr_c p12_0 (by decide)).trans e10)))))))))]
                refine lv_sipush (v := 320) hx hb dX11_letter_142 (by decide) ?_
                refine lv_iload_n hx hb dX11_letter_145 rfl (lv_at hl 2 rfl) ?_
                refine lv_iadd hx hb dX11_letter_146 ?_
                refine lv_topi (fun v37 e37 => ?_)
                have i37 : Iv v37 320 325 := iv_add e37 (⟨by decide, by decide⟩ : Iv 320 320 320) i25 (by decide)
                have x37 : v37.toInt = j58_2.toInt + 320 := (ex_add e37 (⟨by decide, by decide⟩ : Iv 320 320 320) i25 (by decide)).trans (Int.add_comm _ _)
                refine o_iald cx hw h10 (by decide) rfl (iv_in i37 (by decide)) dX11_letter_147 (fun v38 e38 b38 => ?_)
                have i38 : Iv v38 0 63 := rb_now b38 i37 (by decide)
                refine lv_i2l hx hb dX11_letter_148 rfl ?_
                refine lv_topl (fun v39 e39 => ?_)
                refine o_cv hw (oRunV cx hA hw q_X11_tell k_m_X11_278 rfl ha0 (by decide) (As := [.long v39]) (c_X11_tell a0 ha0 v39 (kn_iv (rfl) (iv_w i34 (by decide)))) (by decide) rfl hl.1 rfl (Nat.le_of_ble_eq_true rfl) dX11_letter_149 (by decide)) (fun σ40 H locs hp hw => ?_)
                obtain ⟨p41_0, p41_1⟩ := hp
                have fr := oFr_tr fr p41_0 (by decide)
                have x43 : (σ40.1 657 a0).toInt = (σ32.1 657 a0).toInt + 1 := fin_tr p41_1 (rfl)
                have i42 : Iv (σ40.1 657 a0) 2 2 := iv_fin x43 i34 (by decide)
                refine lv_iload_n hx hb dX11_letter_152 rfl (lv_at hl 3 rfl) ?_
                rw [← hQ]
                exact o_ri cx rx hw dX11_letter_153 ⟨fr, (iv_w i19 (by decide))⟩
              · --
                have i44 : Iv v28 0 0 := iv_eq1 c29 (iv_top v28) (⟨by decide, by decide⟩ : Iv 0 0 0) (by decide)
                refine lv_goto (tgt := 154) hx hb dX11_letter_123 (by decide) ?_
                exact J_154 j58_2 (iv_w i25 (by decide)) _ _ hw _ (lv_sub hl [0, 1, 2, 3] rfl)
            · --
              have i45 : Iv j58_2 (-1) (-1) := iv_eq1 c24 ij58_2 (⟨by decide, by decide⟩ : Iv (-1) (-1) (-1)) (by decide)
              refine lv_aload_n hx hb dX11_letter_78 rfl (lv_at hl 0 rfl) ?_
              refine lv_aload_n hx hb dX11_letter_79 rfl (lv_at hl 0 rfl) ?_
              refine g_677 cx hw ha0 k_f_X11_67 dX11_letter_80 (fun v46 e46 h46 => ?_)
              rw [show v46 = v10 from Option.some.inj (e46.symm.trans (((kr_c p22_0 (by decide)).trans ((kr_c fr_58 (by decide)).trans ((kr_c frE_58 (by decide)).symm.trans (((kr_c p12_0 (by decide)).trans e10)))))))]
              refine lv_iload_n hx hb dX11_letter_83 rfl (lv_at hl 1 rfl) ?_
              have z47 : (σ21.1 647 a0).toInt = ((σ11.1 647 a0) : Int32).toInt := congrArg Int32.toInt (show σ21.1 647 a0 = (σ11.1 647 a0) from ((kp_c p22_0 (by decide)).trans ((kp_c fr_58 (by decide)).trans ((kp_c frE_58 (by decide)).symm.trans (rfl)))))
              refine o_ci hw (oRunV cx hA hw q_X11_herdsAt k_m_X11_233 rfl ha0 (by decide) (As := [.ref v10, .int a1]) (c_X11_herdsAt a0 ha0 v10 h10 a1) (by decide) rfl hl.1 rfl (Nat.le_of_ble_eq_true rfl) dX11_letter_84 (by decide)) (fun v49 σ48 H locs hp hw => ?_)
              obtain ⟨p49_0, p49_1, p49_2⟩ := hp
              rw [p49_0] at hw
              have J_106 : ∀ (k106_0 : Int32) (ik106_0 : Iv k106_0 (-1) 5), ∀ (H : Heap) (locs : List Loc), oI A L τ cy D s.heap σ21 H locs → ∀ (ls : Array Slot), lv_has ls 4 [(0, .ref a0), (1, .int a1), (2, .int j58_2), (3, .int j58_3)] → W p l e ({ frames := 341, cells := 0, slots := 0, locals := 8573 } : Room) s m args below meth c H locs 0 0 Q (F0 m 106 ls [.int k106_0]) := by
                intro k106_0 ik106_0 H locs hw     ls hl
                refine lv_istore_n (lv' := [(2, .int k106_0), (0, .ref a0), (1, .int a1), (3, .int j58_3)]) hx hb dX11_letter_106 rfl hl (by decide) rfl (fun ls hl => ?_)
                refine lv_goto (tgt := 154) hx hb dX11_letter_107 (by decide) ?_
                exact J_154 k106_0 ik106_0 _ _ hw _ (lv_sub hl [1, 2, 0, 3] rfl)
              refine lv_if_ne (tgt := 94) hx hb dX11_letter_87 (by decide) (fun c50 => ?_) (fun c50 => ?_)
              · --
                have i51 : Iv v49 1 63 := iv_ne1 c50 p49_1 (⟨by decide, by decide⟩ : Iv 0 0 0) (by decide)
                refine lv_aload_n hx hb dX11_letter_94 rfl (lv_at hl 0 rfl) ?_
                refine lv_aload_n hx hb dX11_letter_95 rfl (lv_at hl 0 rfl) ?_
                refine g_677 cx hw ha0 k_f_X11_67 dX11_letter_96 (fun v52 e52 h52 => ?_)
                rw [show v52 = v10 from Option.some.inj (e52.symm.trans (((kr_c p22_0 (by decide)).trans ((kr_c fr_58 (by decide)).trans ((kr_c frE_58 (by decide)).symm.trans (((kr_c p12_0 (by decide)).trans e10)))))))]
                refine lv_iload_n hx hb dX11_letter_99 rfl (lv_at hl 1 rfl) ?_
                have z53 : (σ21.1 647 a0).toInt = ((σ11.1 647 a0) : Int32).toInt := congrArg Int32.toInt (show σ21.1 647 a0 = (σ11.1 647 a0) from ((kp_c p22_0 (by decide)).trans ((kp_c fr_58 (by decide)).trans ((kp_c frE_58 (by decide)).symm.trans (rfl)))))
                refine o_ci hw (oRunV cx hA hw q_X11_herdsAt k_m_X11_233 rfl ha0 (by decide) (As := [.ref v10, .int a1]) (c_X11_herdsAt a0 ha0 v10 h10 a1) (by decide) rfl hl.1 rfl (Nat.le_of_ble_eq_true rfl) dX11_letter_100 (by decide)) (fun v55 σ54 H locs hp hw => ?_)
                obtain ⟨p55_0, p55_1, p55_2⟩ := hp
                rw [p55_0] at hw
                have i56 : Iv v55 1 63 := kn_iv (p55_2.trans p49_2.symm) i51
                refine o_ci hw (oRunS cx hA hw q_J6_numberOfTrailingZeros_0f7a4 k_m_X11_343 (As := [.int v55]) (c_J6_numberOfTrailingZeros_0f7a4 v55) (by decide) rfl hl.1 rfl (Nat.le_of_ble_eq_true rfl) dX11_letter_103 (by decide)) (fun v58 σ57 H locs hp hw => ?_)
                obtain ⟨p58_0, p58_1⟩ := hp
                rw [p58_0] at hw
                have i59 : Iv v58 0 5 := nz_ok p58_1 i56 (by decide)
                exact J_106 v58 (iv_w i59 (by decide)) _ _ hw _ (lv_sub hl [0, 1, 2, 3] rfl)
              · --
                have i60 : Iv v49 0 0 := iv_eq1 c50 p49_1 (⟨by decide, by decide⟩ : Iv 0 0 0) (by decide)
                refine lv_iconst (v := (-1)) hx hb dX11_letter_90 (by decide) ?_
                refine lv_goto (tgt := 106) hx hb dX11_letter_91 (by decide) ?_
                exact J_106 (-1) (iv_w (⟨by decide, by decide⟩ : Iv (-1) (-1) (-1)) (by decide)) _ _ hw _ (lv_sub hl [0, 1, 2, 3] rfl)
      exact J_58 _ k55_0 ik55_0 1 (iv_w (⟨by decide, by decide⟩ : Iv 1 1 1) (by decide)) σ11 _ _ hw fr (Nat.lt_succ_self _) _ (lv_sub hl [2, 3, 1, 0] rfl)
    refine lv_if_ne (tgt := 43) hx hb dX11_letter_36 (by decide) (fun c61 => ?_) (fun c61 => ?_)
    · --
      have i62 : Iv v16 1 63 := iv_ne1 c61 p16_1 (⟨by decide, by decide⟩ : Iv 0 0 0) (by decide)
      refine lv_aload_n hx hb dX11_letter_43 rfl (lv_at hl 0 rfl) ?_
      refine lv_aload_n hx hb dX11_letter_44 rfl (lv_at hl 0 rfl) ?_
      refine g_640 cx hw ha0 k_f_X11_9 dX11_letter_45 (fun v63 e63 h63 => ?_)
      rw [show v63 = v9 from Option.some.inj (e63.symm.trans (((kr_c p12_0 (by decide)).trans e9)))]
      refine lv_iload_n hx hb dX11_letter_48 rfl (lv_at hl 1 rfl) ?_
      refine o_ci hw (oRunV cx hA hw q_X11_herdsAt k_m_X11_233 rfl ha0 (by decide) (As := [.ref v9, .int a1]) (c_X11_herdsAt a0 ha0 v9 h9 a1) (by decide) rfl hl.1 rfl (Nat.le_of_ble_eq_true rfl) dX11_letter_49 (by decide)) (fun v65 σ64 H locs hp hw => ?_)
      obtain ⟨p65_0, p65_1, p65_2⟩ := hp
      rw [p65_0] at hw
      have i66 : Iv v65 1 63 := kn_iv (p65_2.trans p16_2.symm) i62
      refine o_ci hw (oRunS cx hA hw q_J6_numberOfTrailingZeros_0f7a4 k_m_X11_343 (As := [.int v65]) (c_J6_numberOfTrailingZeros_0f7a4 v65) (by decide) rfl hl.1 rfl (Nat.le_of_ble_eq_true rfl) dX11_letter_52 (by decide)) (fun v68 σ67 H locs hp hw => ?_)
      obtain ⟨p68_0, p68_1⟩ := hp
      rw [p68_0] at hw
      have i69 : Iv v68 0 5 := nz_ok p68_1 i66 (by decide)
      exact J_55 v68 (iv_w i69 (by decide)) _ _ hw _ (lv_sub hl [0, 1] rfl)
    · --
      have i70 : Iv v16 0 0 := iv_eq1 c61 p16_1 (⟨by decide, by decide⟩ : Iv 0 0 0) (by decide)
      refine lv_iconst (v := (-1)) hx hb dX11_letter_39 (by decide) ?_
      refine lv_goto (tgt := 55) hx hb dX11_letter_40 (by decide) ?_
      exact J_55 (-1) (iv_w (⟨by decide, by decide⟩ : Iv (-1) (-1) (-1)) (by decide)) _ _ hw _ (lv_sub hl [0, 1] rfl)
  · --
    have i71 : Iv v5 0 0 := iv_eq1 c6 p5_1 (⟨by decide, by decide⟩ : Iv 0 0 0) (by decide)
    refine lv_iconst (v := (-1)) hx hb dX11_letter_13 (by decide) ?_
    rw [← hQ]
    exact o_ri cx rx hw dX11_letter_14 ⟨fr, (iv_w (⟨by decide, by decide⟩ : Iv (-1) (-1) (-1)) (by decide))⟩
abbrev fs_X11_snow : List Nat := [652, 653, 658]
abbrev ts_X11_snow : List Nat := []
set_option maxHeartbeats 4000000 in
set_option maxRecDepth 100000 in
theorem c_X11_snow (a0 : Nat) (ha0 : oA L τ a0 10) : oMet l A L τ cy D K yX11_snow cX11_snow 1 (some .int) 3 67 [.ref a0] σ (va_Qi (fun r σ1 => oFr τ fs_X11_snow ts_X11_snow σ σ1 ∧ Iv r 0 127) (oPo A L τ cy D) A) := by
  refine oMk (by decide) (Nat.le_of_ble_eq_true rfl) rfl ?_
  intro p e s m args below meth c ls cx rx hA hw hl
  generalize hQ : MQ below _ args s 0 0 A = Q
  have hx := cx.1.1
  have hb := cx.1.2.1
  have hml := cx.1.2.2.1
  have hown := cx.1.2.2.2.1
  have hts := cx.1.2.2.2.2
  have hl : lv_has ls 1 [(0, .ref a0)] := hl
  have fr : oFr τ fs_X11_snow ts_X11_snow σ σ := oFr_rf
  refine lv_aload_n hx hb dX11_snow_0 rfl (lv_at hl 0 rfl) ?_
  refine lv_iconst (v := 0) hx hb dX11_snow_1 (by decide) ?_
  refine p_658 cx hw ha0 k_f_X11_89 dX11_snow_2 (fun σ1 H locs eσ1 hw => ?_)
  have fr := oFr_i fr eσ1 (by decide)
  refine lv_aload_n hx hb dX11_snow_5 rfl (lv_at hl 0 rfl) ?_
  refine lv_aload_n hx hb dX11_snow_6 rfl (lv_at hl 0 rfl) ?_
  refine lv_aload_n hx hb dX11_snow_7 rfl (lv_at hl 0 rfl) ?_
  refine g_640 cx hw ha0 k_f_X11_9 dX11_snow_8 (fun v2 e2 h2 => ?_)
  refine o_cl hw (oRunV cx hA hw q_X11_roadOf k_m_X11_313 rfl ha0 (by decide) (As := [.ref v2]) (c_X11_roadOf a0 ha0 v2 h2) (by decide) rfl hl.1 rfl (Nat.le_of_ble_eq_true rfl) dX11_snow_11 (by decide)) (fun v4 σ3 H locs hp hw => ?_)
  have p4_0 := hp
  rw [p4_0] at hw
  refine p_652 cx hw ha0 k_f_X11_377 dX11_snow_14 (fun σ5 H locs eσ5 hw => ?_)
  have fr := oFr_l fr eσ5 (by decide)
  refine lv_aload_n hx hb dX11_snow_17 rfl (lv_at hl 0 rfl) ?_
  refine lv_iconst (v := 1) hx hb dX11_snow_18 (by decide) ?_
  refine p_653 cx hw ha0 (iv_w (⟨by decide, by decide⟩ : Iv 1 1 1) (by decide)) k_f_X11_164 dX11_snow_19 (fun σ6 H locs eσ6 hw => ?_)
  have fr := oFr_i fr eσ6 (by decide)
  refine lv_aload_n hx hb dX11_snow_22 rfl (lv_at hl 0 rfl) ?_
  refine g_652 cx hw ha0 k_f_X11_377 dX11_snow_23 (fun v7 e7 => ?_)
  refine o_ci hw (oRunS cx hA hw q_J13_bitCount_95d88 k_m_X11_321 (As := [.long v7]) (c_J13_bitCount_95d88 v7) (by decide) rfl hl.1 rfl (Nat.le_of_ble_eq_true rfl) dX11_snow_26 (by decide)) (fun v9 σ8 H locs hp hw => ?_)
  obtain ⟨p9_0, p9_1⟩ := hp
  rw [p9_0] at hw
  rw [← hQ]
  exact o_ri cx rx hw dX11_snow_29 ⟨fr, (iv_w p9_1 (by decide))⟩
abbrev fs_X11_thaw : List Nat := [657, 658]
abbrev ts_X11_thaw : List Nat := [52]
set_option maxHeartbeats 4000000 in
set_option maxRecDepth 100000 in
theorem c_X11_thaw (a0 : Nat) (ha0 : oA L τ a0 10) : oMet l A L τ cy D K yX11_thaw cX11_thaw 3 (some .int) 3 67 [.ref a0] σ (va_Qi (fun r σ1 => oFr τ fs_X11_thaw ts_X11_thaw σ σ1 ∧ Iv r (-2) 127) (oPo A L τ cy D) A) := by
  refine oMk (by decide) (Nat.le_of_ble_eq_true rfl) rfl ?_
  intro p e s m args below meth c ls cx rx hA hw hl
  generalize hQ : MQ below _ args s 0 0 A = Q
  have hx := cx.1.1
  have hb := cx.1.2.1
  have hml := cx.1.2.2.1
  have hown := cx.1.2.2.2.1
  have hts := cx.1.2.2.2.2
  have hl : lv_has ls 3 [(0, .ref a0)] := hl
  have fr : oFr τ fs_X11_thaw ts_X11_thaw σ σ := oFr_rf
  refine lv_aload_n hx hb dX11_thaw_0 rfl (lv_at hl 0 rfl) ?_
  refine lv_iconst (v := 0) hx hb dX11_thaw_1 (by decide) ?_
  refine p_658 cx hw ha0 k_f_X11_89 dX11_thaw_2 (fun σ1 H locs eσ1 hw => ?_)
  have fr := oFr_i fr eσ1 (by decide)
  refine lv_aload_n hx hb dX11_thaw_5 rfl (lv_at hl 0 rfl) ?_
  refine g_653 cx hw ha0 k_f_X11_164 dX11_thaw_6 (fun v2 e2 => ?_)
  refine lv_if_ne (tgt := 15) hx hb dX11_thaw_9 (by decide) (fun c3 => ?_) (fun c3 => ?_)
  · --
    refine lv_aload_n hx hb dX11_thaw_15 rfl (lv_at hl 0 rfl) ?_
    refine lv_aload_n hx hb dX11_thaw_16 rfl (lv_at hl 0 rfl) ?_
    refine g_640 cx hw ha0 k_f_X11_9 dX11_thaw_17 (fun v4 e4 h4 => ?_)
    refine o_cl hw (oRunV cx hA hw q_X11_roadOf k_m_X11_313 rfl ha0 (by decide) (As := [.ref v4]) (c_X11_roadOf a0 ha0 v4 h4) (by decide) rfl hl.1 rfl (Nat.le_of_ble_eq_true rfl) dX11_thaw_20 (by decide)) (fun v6 σ5 H locs hp hw => ?_)
    have p6_0 := hp
    rw [p6_0] at hw
    refine lv_lstore_n (lv' := [(1, .long v6), (0, .ref a0)]) hx hb dX11_thaw_23 rfl hl (by decide) rfl (fun ls hl => ?_)
    refine lv_aload_n hx hb dX11_thaw_24 rfl (lv_at hl 1 rfl) ?_
    refine lv_iconst (v := 0) hx hb dX11_thaw_25 (by decide) ?_
    refine p_657 cx hw ha0 (iv_w (⟨by decide, by decide⟩ : Iv 0 0 0) (by decide)) k_f_X11_92 dX11_thaw_26 (fun σ7 H locs eσ7 hw => ?_)
    have fr := oFr_i fr eσ7 (by decide)
    refine lv_aload_n hx hb dX11_thaw_29 rfl (lv_at hl 1 rfl) ?_
    refine lv_aload_n hx hb dX11_thaw_30 rfl (lv_at hl 1 rfl) ?_
    refine g_652 cx hw ha0 k_f_X11_377 dX11_thaw_31 (fun v8 e8 => ?_)
    refine lv_lload_n hx hb dX11_thaw_34 rfl (lv_at hl 0 rfl) ?_
    refine lv_ldc2 (v := (-1)) hx hb hown (hts _ k_k_X11_327) dX11_thaw_35 ?_
    refine lv_lxor hx hb dX11_thaw_38 ?_
    refine lv_topl (fun v9 e9 => ?_)
    refine lv_land hx hb dX11_thaw_39 ?_
    refine lv_topl (fun v10 e10 => ?_)
    refine o_cv hw (oRunV cx hA hw q_X11_tell k_m_X11_278 rfl ha0 (by decide) (As := [.long v10]) (c_X11_tell a0 ha0 v10 (kn_iv ((kp_s eσ7)) (iv_w (⟨by decide, by decide⟩ : Iv 0 0 0) (by decide)))) (by decide) rfl hl.1 rfl (Nat.le_of_ble_eq_true rfl) dX11_thaw_40 (by decide)) (fun σ11 H locs hp hw => ?_)
    obtain ⟨p12_0, p12_1⟩ := hp
    have fr := oFr_tr fr p12_0 (by decide)
    have x14 : (σ11.1 657 a0).toInt = (0 : Int32).toInt + 1 := fin_tr p12_1 ((kp_s eσ7))
    have i13 : Iv (σ11.1 657 a0) 1 1 := iv_fin x14 (⟨by decide, by decide⟩ : Iv 0 0 0) (by decide)
    refine lv_aload_n hx hb dX11_thaw_43 rfl (lv_at hl 1 rfl) ?_
    refine lv_lload_n hx hb dX11_thaw_44 rfl (lv_at hl 0 rfl) ?_
    refine lv_aload_n hx hb dX11_thaw_45 rfl (lv_at hl 1 rfl) ?_
    refine g_652 cx hw ha0 k_f_X11_377 dX11_thaw_46 (fun v15 e15 => ?_)
    refine lv_ldc2 (v := (-1)) hx hb hown (hts _ k_k_X11_327) dX11_thaw_49 ?_
    refine lv_lxor hx hb dX11_thaw_52 ?_
    refine lv_topl (fun v16 e16 => ?_)
    refine lv_land hx hb dX11_thaw_53 ?_
    refine lv_topl (fun v17 e17 => ?_)
    refine o_cv hw (oRunV cx hA hw q_X11_tell k_m_X11_278 rfl ha0 (by decide) (As := [.long v17]) (c_X11_tell a0 ha0 v17 (kn_iv (rfl) (iv_w i13 (by decide)))) (by decide) rfl hl.1 rfl (Nat.le_of_ble_eq_true rfl) dX11_thaw_54 (by decide)) (fun σ18 H locs hp hw => ?_)
    obtain ⟨p19_0, p19_1⟩ := hp
    have fr := oFr_tr fr p19_0 (by decide)
    have x21 : (σ18.1 657 a0).toInt = (σ11.1 657 a0).toInt + 1 := fin_tr p19_1 (rfl)
    have i20 : Iv (σ18.1 657 a0) 2 2 := iv_fin x21 i13 (by decide)
    refine lv_aload_n hx hb dX11_thaw_57 rfl (lv_at hl 1 rfl) ?_
    refine g_652 cx hw ha0 k_f_X11_377 dX11_thaw_58 (fun v22 e22 => ?_)
    refine lv_lload_n hx hb dX11_thaw_61 rfl (lv_at hl 0 rfl) ?_
    refine lv_ldc2 (v := (-1)) hx hb hown (hts _ k_k_X11_327) dX11_thaw_62 ?_
    refine lv_lxor hx hb dX11_thaw_65 ?_
    refine lv_topl (fun v23 e23 => ?_)
    refine lv_land hx hb dX11_thaw_66 ?_
    refine lv_topl (fun v24 e24 => ?_)
    refine o_ci hw (oRunS cx hA hw q_J13_bitCount_95d88 k_m_X11_321 (As := [.long v24]) (c_J13_bitCount_95d88 v24) (by decide) rfl hl.1 rfl (Nat.le_of_ble_eq_true rfl) dX11_thaw_67 (by decide)) (fun v26 σ25 H locs hp hw => ?_)
    obtain ⟨p26_0, p26_1⟩ := hp
    rw [p26_0] at hw
    rw [← hQ]
    exact o_ri cx rx hw dX11_thaw_70 ⟨fr, (iv_w p26_1 (by decide))⟩
  · --
    have i27 : Iv v2 0 0 := iv_eq1 c3 (iv_top v2) (⟨by decide, by decide⟩ : Iv 0 0 0) (by decide)
    refine lv_bipush (v := (-2)) hx hb dX11_thaw_12 (by decide) ?_
    rw [← hQ]
    exact o_ri cx rx hw dX11_thaw_14 ⟨fr, (iv_w (⟨by decide, by decide⟩ : Iv (-2) (-2) (-2)) (by decide))⟩
end OM
