section OM
variable {l : Launch} {A : Nat → Prop} {L : List Nat} {τ : Nat → Nat} {cy : Nat → ClassId} {D : va_G} {K : (Nat → Nat) × (Nat → Nat)} {σ : oSt}
abbrev fs_X5_reckon : List Nat := []
abbrev ts_X5_reckon : List Nat := [37]
set_option maxHeartbeats 4000000 in
set_option maxRecDepth 100000 in
theorem c_X5_reckon (a0 : Nat) (ha0 : oA L τ a0 4) (a1 : Nat) (ha1 : oA L τ a1 38) : oMet l A L τ cy D K yX5_reckon cX5_reckon 7 (some .int) 0 0 [.ref a0, .ref a1] σ (va_Qi (fun r σ1 => oFr τ fs_X5_reckon ts_X5_reckon σ σ1) (oPo A L τ cy D) A) := by
  refine oMk (by decide) (Nat.le_of_ble_eq_true rfl) rfl ?_
  intro p e s m args below meth c ls cx rx hA hw hl
  generalize hQ : MQ below _ args s 0 0 A = Q
  have hx := cx.1.1
  have hb := cx.1.2.1
  have hml := cx.1.2.2.1
  have hown := cx.1.2.2.2.1
  have hts := cx.1.2.2.2.2
  have hl : lv_has ls 7 [(0, .ref a0), (1, .ref a1)] := hl
  have fr : oFr τ fs_X5_reckon ts_X5_reckon σ σ := oFr_rf
  refine lv_iconst (v := 0) hx hb dX5_reckon_0 (by decide) ?_
  refine lv_istore_n (lv' := [(2, .int 0), (0, .ref a0), (1, .ref a1)]) hx hb dX5_reckon_1 rfl hl (by decide) rfl (fun ls hl => ?_)
  refine lv_aload_n hx hb dX5_reckon_2 rfl (lv_at hl 1 rfl) ?_
  refine g_262 cx hw ha0 k_f_X5_21 dX5_reckon_3 (fun v1 e1 h1 => ?_)
  refine lv_iconst (v := 0) hx hb dX5_reckon_6 (by decide) ?_
  refine lv_iconst (v := 0) hx hb dX5_reckon_7 (by decide) ?_
  refine o_iast cx hw h1 (by decide) rfl (iv_in (⟨by decide, by decide⟩ : Iv 0 0 0) (by decide)) trivial dX5_reckon_8 (fun σ2 H locs eσ2 hw => ?_)
  have fr := oFr_p fr eσ2 h1 (by decide)
  refine lv_iconst (v := 0) hx hb dX5_reckon_9 (by decide) ?_
  refine lv_istore_n (lv' := [(3, .int 0), (2, .int 0), (0, .ref a0), (1, .ref a1)]) hx hb dX5_reckon_10 rfl hl (by decide) rfl (fun ls hl => ?_)
  have J_11 : ∀ n : Nat, ∀ (j11_2 : Int32) (ij11_2 : Iv j11_2 0 40) (j11_3 : Int32) (ij11_3 : Iv j11_3 0 40), (40 - j11_3.toInt).toNat < n → ∀ (σ_11 : oSt) (H : Heap) (locs : List Loc), oI A L τ cy D s.heap σ_11 H locs → oFr τ fs_X5_reckon ts_X5_reckon σ σ_11 → j11_2.toInt ≤ j11_3.toInt + 0 → ∀ (ls : Array Slot), lv_has ls 7 [(0, .ref a0), (1, .ref a1), (2, .int j11_2), (3, .int j11_3)] → W p l e ({ frames := 0, cells := 0, slots := 0, locals := 0 } : Room) s m args below meth c H locs 0 0 Q (F0 m 11 ls []) := by
    intro n
    induction n with
    | zero => intro j11_2 ij11_2 j11_3 ij11_3 hn_11  σ_11 H locs hw fr   le11_0 ls hl; exact absurd hn_11 (Nat.not_lt_zero _)
    | succ n ih_11 =>
      intro j11_2 ij11_2 j11_3 ij11_3 hn_11  σ_11 H locs hw fr   le11_0 ls hl
      refine lv_iload_n hx hb dX5_reckon_11 rfl (lv_at hl 3 rfl) ?_
      refine lv_aload_n hx hb dX5_reckon_12 rfl (lv_at hl 0 rfl) ?_
      refine g_257 cx hw ha0 k_f_X5_60 dX5_reckon_13 (fun v3 e3 i3 => ?_)
      refine lv_icmp_ge (tgt := 329) hx hb dX5_reckon_16 (by decide) (fun c4 => ?_) (fun c4 => ?_)
      · --
        refine lv_aload_n hx hb dX5_reckon_329 rfl (lv_at hl 0 rfl) ?_
        refine g_262 cx hw ha0 k_f_X5_21 dX5_reckon_330 (fun v5 e5 h5 => ?_)
        refine lv_iconst (v := 0) hx hb dX5_reckon_333 (by decide) ?_
        refine o_iald cx hw h5 (by decide) rfl (iv_in (⟨by decide, by decide⟩ : Iv 0 0 0) (by decide)) dX5_reckon_334 (fun v6 e6 b6 => ?_)
        rw [← hQ]
        exact o_ri cx rx hw dX5_reckon_335 fr
      · --
        have i7 : Iv j11_3 0 39 := iv_lt1 (iv_nle c4) ij11_3 i3 (by decide)
        have i8 : Iv j11_2 0 39 := iv_leh le11_0 ij11_2 i7 (by decide)
        have i9 : Iv v3 1 40 := iv_lt2 (iv_nle c4) ij11_3 i3 (by decide)
        refine lv_aload_n hx hb dX5_reckon_19 rfl (lv_at hl 0 rfl) ?_
        refine g_256 cx hw ha0 k_f_X5_9 dX5_reckon_20 (fun v10 e10 h10 => ?_)
        refine lv_iload_n hx hb dX5_reckon_23 rfl (lv_at hl 3 rfl) ?_
        refine o_iald cx hw h10 (by decide) rfl (iv_in i7 (by decide)) dX5_reckon_24 (fun v11 e11 b11 => ?_)
        refine lv_istore (lv' := [(4, .int v11), (0, .ref a0), (1, .ref a1), (2, .int j11_2), (3, .int j11_3)]) hx hb dX5_reckon_25 hl (by decide) rfl (fun ls hl => ?_)
        refine lv_iload hx hb dX5_reckon_27 (lv_at hl 0 rfl) ?_
        refine lv_aload_n hx hb dX5_reckon_29 rfl (lv_at hl 2 rfl) ?_
        refine o_alen (v := 9) cx hw ha1 (by decide) rfl (by decide) dX5_reckon_30 ?_
        have J_323 : ∀ (j323_2 : Int32) (ij323_2 : Iv j323_2 0 40), ∀ (σ_323 : oSt) (H : Heap) (locs : List Loc), oI A L τ cy D s.heap σ_323 H locs → oFr τ fs_X5_reckon ts_X5_reckon σ σ_323 → j323_2.toInt ≤ j11_3.toInt + 1 → ∀ (ls : Array Slot), lv_has ls 7 [(0, .ref a0), (1, .ref a1), (2, .int j323_2), (3, .int j11_3), (4, .int v11)] → W p l e ({ frames := 0, cells := 0, slots := 0, locals := 0 } : Room) s m args below meth c H locs 0 0 Q (F0 m 323 ls []) := by
          intro j323_2 ij323_2   σ_323 H locs hw fr   le323_0 ls hl
          obtain ⟨v12, e12⟩ : ∃ y : Int32, y = j11_3 + 1 := ⟨_, rfl⟩
          have i12 : Iv v12 1 40 := iv_add e12 i7 (⟨by decide, by decide⟩ : Iv 1 1 1) (by decide)
          have x12 : v12.toInt = j11_3.toInt + 1 := ex_add e12 i7 (⟨by decide, by decide⟩ : Iv 1 1 1) (by decide)
          refine lv_iinc (v := v12) (lv' := [(3, .int v12), (0, .ref a0), (1, .ref a1), (2, .int j323_2), (4, .int v11)]) hx hb dX5_reckon_323 hl (k := 3) rfl (by rw [e12]; rfl) (by decide) rfl (fun ls hl => ?_)
          refine lv_goto (tgt := 11) hx hb dX5_reckon_326 (by decide) ?_
          exact ih_11 j323_2 ij323_2 v12 (iv_w i12 (by decide)) (ms_up x12 (by decide) (iv_w (a' := 0) (b' := 40) i12 (by decide)).2 hn_11) σ_323 _ _ hw fr (le_lin (Int.add_zero _).symm x12 le323_0 (by decide)) _ (lv_sub hl [1, 2, 3, 0] rfl)
        refine lv_icmp_gt (tgt := 63) hx hb dX5_reckon_31 (by decide) (fun c13 => ?_) (fun c13 => ?_)
        · --
          have i14 : Iv v11 10 2147483647 := iv_lt2 c13 (⟨by decide, by decide⟩ : Iv 9 9 9) (iv_top v11) (by decide)
          refine lv_iload hx hb dX5_reckon_63 (lv_at hl 0 rfl) ?_
          refine lv_sipush (v := 256) hx hb dX5_reckon_65 (by decide) ?_
          have J_96 : ∀ (σ_96 : oSt) (H : Heap) (locs : List Loc), oI A L τ cy D s.heap σ_96 H locs → oFr τ fs_X5_reckon ts_X5_reckon σ σ_96 → ∀ (ls : Array Slot), lv_has ls 7 [(0, .ref a0), (1, .ref a1), (2, .int j11_2), (3, .int j11_3), (4, .int v11)] → W p l e ({ frames := 0, cells := 0, slots := 0, locals := 0 } : Room) s m args below meth c H locs 0 0 Q (F0 m 96 ls []) := by
            intro    σ_96 H locs hw fr   ls hl
            refine lv_iload_n hx hb dX5_reckon_96 rfl (lv_at hl 2 rfl) ?_
            refine lv_iconst (v := 2) hx hb dX5_reckon_97 (by decide) ?_
            refine lv_icmp_lt (tgt := 323) hx hb dX5_reckon_98 (by decide) (fun c15 => ?_) (fun c15 => ?_)
            · --
              have i16 : Iv j11_2 0 1 := iv_lt1 c15 i8 (⟨by decide, by decide⟩ : Iv 2 2 2) (by decide)
              exact J_323 j11_2 (iv_w i16 (by decide)) σ_96 _ _ hw fr (le_iv i16 i7 (by decide)) _ (lv_sub hl [0, 1, 2, 3, 4] rfl)
            · --
              have i17 : Iv j11_2 2 39 := iv_le2 (iv_nlt c15) (⟨by decide, by decide⟩ : Iv 2 2 2) i8 (by decide)
              have i18 : Iv j11_3 2 39 := iv_lel le11_0 i17 i7 (by decide)
              refine lv_aload_n hx hb dX5_reckon_101 rfl (lv_at hl 0 rfl) ?_
              refine g_262 cx hw ha0 k_f_X5_21 dX5_reckon_102 (fun v19 e19 h19 => ?_)
              refine lv_iload_n hx hb dX5_reckon_105 rfl (lv_at hl 2 rfl) ?_
              refine lv_iconst (v := 1) hx hb dX5_reckon_106 (by decide) ?_
              refine lv_isub hx hb dX5_reckon_107 ?_
              refine lv_topi (fun v20 e20 => ?_)
              have i20 : Iv v20 1 38 := iv_sub e20 i17 (⟨by decide, by decide⟩ : Iv 1 1 1) (by decide)
              have x20 : v20.toInt = j11_2.toInt + (-1) := ex_sub e20 i17 (⟨by decide, by decide⟩ : Iv 1 1 1) (by decide)
              refine o_iald cx hw h19 (by decide) rfl (iv_in i20 (by decide)) dX5_reckon_108 (fun v21 e21 b21 => ?_)
              refine lv_istore (lv' := [(5, .int v21), (0, .ref a0), (1, .ref a1), (2, .int j11_2), (3, .int j11_3), (4, .int v11)]) hx hb dX5_reckon_109 hl (by decide) rfl (fun ls hl => ?_)
              refine lv_aload_n hx hb dX5_reckon_111 rfl (lv_at hl 1 rfl) ?_
              refine g_262 cx hw ha0 k_f_X5_21 dX5_reckon_112 (fun v22 e22 h22 => ?_)
              rw [show v22 = v19 from Option.some.inj (e22.symm.trans (e19))]
              refine lv_iload_n hx hb dX5_reckon_115 rfl (lv_at hl 3 rfl) ?_
              refine lv_iconst (v := 2) hx hb dX5_reckon_116 (by decide) ?_
              refine lv_isub hx hb dX5_reckon_117 ?_
              refine lv_topi (fun v23 e23 => ?_)
              have i23 : Iv v23 0 37 := iv_sub e23 i17 (⟨by decide, by decide⟩ : Iv 2 2 2) (by decide)
              have x23 : v23.toInt = j11_2.toInt + (-2) := ex_sub e23 i17 (⟨by decide, by decide⟩ : Iv 2 2 2) (by decide)
              refine o_iald cx hw h19 (by decide) rfl (iv_in i23 (by decide)) dX5_reckon_118 (fun v24 e24 b24 => ?_)
              refine lv_istore (lv' := [(6, .int v24), (5, .int v21), (0, .ref a0), (1, .ref a1), (2, .int j11_2), (3, .int j11_3), (4, .int v11)]) hx hb dX5_reckon_119 hl (by decide) rfl (fun ls hl => ?_)
              obtain ⟨v25, e25⟩ : ∃ y : Int32, y = j11_2 + (-1) := ⟨_, rfl⟩
              have i25 : Iv v25 1 38 := iv_add e25 i17 (⟨by decide, by decide⟩ : Iv (-1) (-1) (-1)) (by decide)
              have x25 : v25.toInt = j11_2.toInt + (-1) := ex_add e25 i17 (⟨by decide, by decide⟩ : Iv (-1) (-1) (-1)) (by decide)
              refine lv_iinc (v := v25) (lv' := [(2, .int v25), (6, .int v24), (5, .int v21), (0, .ref a0), (1, .ref a1), (3, .int j11_3), (4, .int v11)]) hx hb dX5_reckon_121 hl (k := 4) rfl (by rw [e25]; rfl) (by decide) rfl (fun ls hl => ?_)
              refine lv_iload hx hb dX5_reckon_124 (lv_at hl 6 rfl) ?_
              by_cases q26 : v11 = 42
              · --
                refine lv_lookup (off := 159) (tgt := 285) hx hb dX5_reckon_126 (by decide) (by rw [q26] <;> decide) (by decide) ?_
                have i27 : Iv v11 42 42 := iv_eq1 q26 i14 (⟨by decide, by decide⟩ : Iv 42 42 42) (by decide)
                refine lv_aload_n hx hb dX5_reckon_285 rfl (lv_at hl 3 rfl) ?_
                refine g_262 cx hw ha0 k_f_X5_21 dX5_reckon_286 (fun v28 e28 h28 => ?_)
                rw [show v28 = v19 from Option.some.inj (e28.symm.trans (e19))]
                refine lv_iload_n hx hb dX5_reckon_289 rfl (lv_at hl 0 rfl) ?_
                refine lv_iconst (v := 1) hx hb dX5_reckon_290 (by decide) ?_
                refine lv_isub hx hb dX5_reckon_291 ?_
                refine lv_topi (fun v29 e29 => ?_)
                have i29 : Iv v29 0 37 := iv_sub e29 i25 (⟨by decide, by decide⟩ : Iv 1 1 1) (by decide)
                have x29 : v29.toInt = v25.toInt + (-1) := ex_sub e29 i25 (⟨by decide, by decide⟩ : Iv 1 1 1) (by decide)
                refine lv_iload hx hb dX5_reckon_292 (lv_at hl 1 rfl) ?_
                refine lv_iload hx hb dX5_reckon_294 (lv_at hl 2 rfl) ?_
                refine lv_imul hx hb dX5_reckon_296 ?_
                refine lv_topi (fun v30 e30 => ?_)
                refine o_iast cx hw h19 (by decide) rfl (iv_in i29 (by decide)) trivial dX5_reckon_297 (fun σ31 H locs eσ31 hw => ?_)
                have fr := oFr_p fr eσ31 h19 (by decide)
                refine lv_goto (tgt := 323) hx hb dX5_reckon_298 (by decide) ?_
                exact J_323 v25 (iv_w i25 (by decide)) σ31 _ _ hw fr (le_lin x25 (Int.add_zero _).symm le11_0 (by decide)) _ (lv_sub hl [3, 4, 0, 5, 6] rfl)
              by_cases q32 : v11 = 43
              · --
                refine lv_lookup (off := 127) (tgt := 253) hx hb dX5_reckon_126 (by decide) (by rw [q32] <;> decide) (by decide) ?_
                have i33 : Iv v11 43 43 := iv_eq1 q32 i14 (⟨by decide, by decide⟩ : Iv 43 43 43) (by decide)
                refine lv_aload_n hx hb dX5_reckon_253 rfl (lv_at hl 3 rfl) ?_
                refine g_262 cx hw ha0 k_f_X5_21 dX5_reckon_254 (fun v34 e34 h34 => ?_)
                rw [show v34 = v19 from Option.some.inj (e34.symm.trans (e19))]
                refine lv_iload_n hx hb dX5_reckon_257 rfl (lv_at hl 0 rfl) ?_
                refine lv_iconst (v := 1) hx hb dX5_reckon_258 (by decide) ?_
                refine lv_isub hx hb dX5_reckon_259 ?_
                refine lv_topi (fun v35 e35 => ?_)
                have i35 : Iv v35 0 37 := iv_sub e35 i25 (⟨by decide, by decide⟩ : Iv 1 1 1) (by decide)
                have x35 : v35.toInt = v25.toInt + (-1) := ex_sub e35 i25 (⟨by decide, by decide⟩ : Iv 1 1 1) (by decide)
                refine lv_iload hx hb dX5_reckon_260 (lv_at hl 1 rfl) ?_
                refine lv_iload hx hb dX5_reckon_262 (lv_at hl 2 rfl) ?_
                refine lv_iadd hx hb dX5_reckon_264 ?_
                refine lv_topi (fun v36 e36 => ?_)
                refine o_iast cx hw h19 (by decide) rfl (iv_in i35 (by decide)) trivial dX5_reckon_265 (fun σ37 H locs eσ37 hw => ?_)
                have fr := oFr_p fr eσ37 h19 (by decide)
                refine lv_goto (tgt := 323) hx hb dX5_reckon_266 (by decide) ?_
                exact J_323 v25 (iv_w i25 (by decide)) σ37 _ _ hw fr (le_lin x25 (Int.add_zero _).symm le11_0 (by decide)) _ (lv_sub hl [3, 4, 0, 5, 6] rfl)
              by_cases q38 : v11 = 45
              · --
                refine lv_lookup (off := 143) (tgt := 269) hx hb dX5_reckon_126 (by decide) (by rw [q38] <;> decide) (by decide) ?_
                have i39 : Iv v11 45 45 := iv_eq1 q38 i14 (⟨by decide, by decide⟩ : Iv 45 45 45) (by decide)
                refine lv_aload_n hx hb dX5_reckon_269 rfl (lv_at hl 3 rfl) ?_
                refine g_262 cx hw ha0 k_f_X5_21 dX5_reckon_270 (fun v40 e40 h40 => ?_)
                rw [show v40 = v19 from Option.some.inj (e40.symm.trans (e19))]
                refine lv_iload_n hx hb dX5_reckon_273 rfl (lv_at hl 0 rfl) ?_
                refine lv_iconst (v := 1) hx hb dX5_reckon_274 (by decide) ?_
                refine lv_isub hx hb dX5_reckon_275 ?_
                refine lv_topi (fun v41 e41 => ?_)
                have i41 : Iv v41 0 37 := iv_sub e41 i25 (⟨by decide, by decide⟩ : Iv 1 1 1) (by decide)
                have x41 : v41.toInt = v25.toInt + (-1) := ex_sub e41 i25 (⟨by decide, by decide⟩ : Iv 1 1 1) (by decide)
                refine lv_iload hx hb dX5_reckon_276 (lv_at hl 1 rfl) ?_
                refine lv_iload hx hb dX5_reckon_278 (lv_at hl 2 rfl) ?_
                refine lv_isub hx hb dX5_reckon_280 ?_
                refine lv_topi (fun v42 e42 => ?_)
                refine o_iast cx hw h19 (by decide) rfl (iv_in i41 (by decide)) trivial dX5_reckon_281 (fun σ43 H locs eσ43 hw => ?_)
                have fr := oFr_p fr eσ43 h19 (by decide)
                refine lv_goto (tgt := 323) hx hb dX5_reckon_282 (by decide) ?_
                exact J_323 v25 (iv_w i25 (by decide)) σ43 _ _ hw fr (le_lin x25 (Int.add_zero _).symm le11_0 (by decide)) _ (lv_sub hl [3, 4, 0, 5, 6] rfl)
              by_cases q44 : v11 = 60
              · --
                refine lv_lookup (off := 58) (tgt := 184) hx hb dX5_reckon_126 (by decide) (by rw [q44] <;> decide) (by decide) ?_
                have i45 : Iv v11 60 60 := iv_eq1 q44 i14 (⟨by decide, by decide⟩ : Iv 60 60 60) (by decide)
                refine lv_aload_n hx hb dX5_reckon_184 rfl (lv_at hl 3 rfl) ?_
                refine g_262 cx hw ha0 k_f_X5_21 dX5_reckon_185 (fun v46 e46 h46 => ?_)
                rw [show v46 = v19 from Option.some.inj (e46.symm.trans (e19))]
                refine lv_iload_n hx hb dX5_reckon_188 rfl (lv_at hl 0 rfl) ?_
                refine lv_iconst (v := 1) hx hb dX5_reckon_189 (by decide) ?_
                refine lv_isub hx hb dX5_reckon_190 ?_
                refine lv_topi (fun v47 e47 => ?_)
                have i47 : Iv v47 0 37 := iv_sub e47 i25 (⟨by decide, by decide⟩ : Iv 1 1 1) (by decide)
                have x47 : v47.toInt = v25.toInt + (-1) := ex_sub e47 i25 (⟨by decide, by decide⟩ : Iv 1 1 1) (by decide)
                refine lv_iload hx hb dX5_reckon_191 (lv_at hl 1 rfl) ?_
                refine lv_iload hx hb dX5_reckon_193 (lv_at hl 2 rfl) ?_
                have J_203 : ∀ (k203_2 : Int32) (ik203_2 : Iv k203_2 0 1), ∀ (σ_203 : oSt) (H : Heap) (locs : List Loc), oI A L τ cy D s.heap σ_203 H locs → oFr τ fs_X5_reckon ts_X5_reckon σ σ_203 → ∀ (ls : Array Slot), lv_has ls 7 [(0, .ref a0), (1, .ref a1), (2, .int v25), (3, .int j11_3), (4, .int v11), (5, .int v21), (6, .int v24)] → W p l e ({ frames := 0, cells := 0, slots := 0, locals := 0 } : Room) s m args below meth c H locs 0 0 Q (F0 m 203 ls [.int k203_2, .int v47, .ref v19]) := by
                  intro k203_2 ik203_2   σ_203 H locs hw fr   ls hl
                  refine o_iast cx hw h19 (by decide) rfl (iv_in i47 (by decide)) trivial dX5_reckon_203 (fun σ48 H locs eσ48 hw => ?_)
                  have fr := oFr_p fr eσ48 h19 (by decide)
                  refine lv_goto (tgt := 323) hx hb dX5_reckon_204 (by decide) ?_
                  exact J_323 v25 (iv_w i25 (by decide)) σ48 _ _ hw fr (le_lin x25 (Int.add_zero _).symm le11_0 (by decide)) _ (lv_sub hl [0, 1, 2, 3, 4] rfl)
                refine lv_icmp_ge (tgt := 202) hx hb dX5_reckon_195 (by decide) (fun c49 => ?_) (fun c49 => ?_)
                · --
                  refine lv_iconst (v := 0) hx hb dX5_reckon_202 (by decide) ?_
                  exact J_203 0 (iv_w (⟨by decide, by decide⟩ : Iv 0 0 0) (by decide)) σ_96 _ _ hw fr _ (lv_sub hl [3, 4, 0, 5, 6, 2, 1] rfl)
                · --
                  have i50 : Iv v24 (-2147483648) 2147483646 := iv_lt1 (iv_nle c49) (iv_top v24) (iv_top v21) (by decide)
                  have i51 : Iv v21 (-2147483647) 2147483647 := iv_lt2 (iv_nle c49) (iv_top v24) (iv_top v21) (by decide)
                  refine lv_iconst (v := 1) hx hb dX5_reckon_198 (by decide) ?_
                  refine lv_goto (tgt := 203) hx hb dX5_reckon_199 (by decide) ?_
                  exact J_203 1 (iv_w (⟨by decide, by decide⟩ : Iv 1 1 1) (by decide)) σ_96 _ _ hw fr _ (lv_sub hl [3, 4, 0, 5, 6, 2, 1] rfl)
              by_cases q52 : v11 = 61
              · --
                refine lv_lookup (off := 104) (tgt := 230) hx hb dX5_reckon_126 (by decide) (by rw [q52] <;> decide) (by decide) ?_
                have i53 : Iv v11 61 61 := iv_eq1 q52 i14 (⟨by decide, by decide⟩ : Iv 61 61 61) (by decide)
                refine lv_aload_n hx hb dX5_reckon_230 rfl (lv_at hl 3 rfl) ?_
                refine g_262 cx hw ha0 k_f_X5_21 dX5_reckon_231 (fun v54 e54 h54 => ?_)
                rw [show v54 = v19 from Option.some.inj (e54.symm.trans (e19))]
                refine lv_iload_n hx hb dX5_reckon_234 rfl (lv_at hl 0 rfl) ?_
                refine lv_iconst (v := 1) hx hb dX5_reckon_235 (by decide) ?_
                refine lv_isub hx hb dX5_reckon_236 ?_
                refine lv_topi (fun v55 e55 => ?_)
                have i55 : Iv v55 0 37 := iv_sub e55 i25 (⟨by decide, by decide⟩ : Iv 1 1 1) (by decide)
                have x55 : v55.toInt = v25.toInt + (-1) := ex_sub e55 i25 (⟨by decide, by decide⟩ : Iv 1 1 1) (by decide)
                refine lv_iload hx hb dX5_reckon_237 (lv_at hl 1 rfl) ?_
                refine lv_iload hx hb dX5_reckon_239 (lv_at hl 2 rfl) ?_
                have J_249 : ∀ (k249_2 : Int32) (ik249_2 : Iv k249_2 0 1), ∀ (σ_249 : oSt) (H : Heap) (locs : List Loc), oI A L τ cy D s.heap σ_249 H locs → oFr τ fs_X5_reckon ts_X5_reckon σ σ_249 → ∀ (ls : Array Slot), lv_has ls 7 [(0, .ref a0), (1, .ref a1), (2, .int v25), (3, .int j11_3), (4, .int v11), (5, .int v21), (6, .int v24)] → W p l e ({ frames := 0, cells := 0, slots := 0, locals := 0 } : Room) s m args below meth c H locs 0 0 Q (F0 m 249 ls [.int k249_2, .int v55, .ref v19]) := by
                  intro k249_2 ik249_2   σ_249 H locs hw fr   ls hl
                  refine o_iast cx hw h19 (by decide) rfl (iv_in i55 (by decide)) trivial dX5_reckon_249 (fun σ56 H locs eσ56 hw => ?_)
                  have fr := oFr_p fr eσ56 h19 (by decide)
                  refine lv_goto (tgt := 323) hx hb dX5_reckon_250 (by decide) ?_
                  exact J_323 v25 (iv_w i25 (by decide)) σ56 _ _ hw fr (le_lin x25 (Int.add_zero _).symm le11_0 (by decide)) _ (lv_sub hl [0, 1, 2, 3, 4] rfl)
                refine lv_icmp_ne (tgt := 248) hx hb dX5_reckon_241 (by decide) (fun c57 => ?_) (fun c57 => ?_)
                · --
                  refine lv_iconst (v := 0) hx hb dX5_reckon_248 (by decide) ?_
                  exact J_249 0 (iv_w (⟨by decide, by decide⟩ : Iv 0 0 0) (by decide)) σ_96 _ _ hw fr _ (lv_sub hl [3, 4, 0, 5, 6, 2, 1] rfl)
                · --
                  refine lv_iconst (v := 1) hx hb dX5_reckon_244 (by decide) ?_
                  refine lv_goto (tgt := 249) hx hb dX5_reckon_245 (by decide) ?_
                  exact J_249 1 (iv_w (⟨by decide, by decide⟩ : Iv 1 1 1) (by decide)) σ_96 _ _ hw fr _ (lv_sub hl [3, 4, 0, 5, 6, 2, 1] rfl)
              by_cases q58 : v11 = 62
              · --
                refine lv_lookup (off := 81) (tgt := 207) hx hb dX5_reckon_126 (by decide) (by rw [q58] <;> decide) (by decide) ?_
                have i59 : Iv v11 62 62 := iv_eq1 q58 i14 (⟨by decide, by decide⟩ : Iv 62 62 62) (by decide)
                refine lv_aload_n hx hb dX5_reckon_207 rfl (lv_at hl 3 rfl) ?_
                refine g_262 cx hw ha0 k_f_X5_21 dX5_reckon_208 (fun v60 e60 h60 => ?_)
                rw [show v60 = v19 from Option.some.inj (e60.symm.trans (e19))]
                refine lv_iload_n hx hb dX5_reckon_211 rfl (lv_at hl 0 rfl) ?_
                refine lv_iconst (v := 1) hx hb dX5_reckon_212 (by decide) ?_
                refine lv_isub hx hb dX5_reckon_213 ?_
                refine lv_topi (fun v61 e61 => ?_)
                have i61 : Iv v61 0 37 := iv_sub e61 i25 (⟨by decide, by decide⟩ : Iv 1 1 1) (by decide)
                have x61 : v61.toInt = v25.toInt + (-1) := ex_sub e61 i25 (⟨by decide, by decide⟩ : Iv 1 1 1) (by decide)
                refine lv_iload hx hb dX5_reckon_214 (lv_at hl 1 rfl) ?_
                refine lv_iload hx hb dX5_reckon_216 (lv_at hl 2 rfl) ?_
                have J_226 : ∀ (k226_2 : Int32) (ik226_2 : Iv k226_2 0 1), ∀ (σ_226 : oSt) (H : Heap) (locs : List Loc), oI A L τ cy D s.heap σ_226 H locs → oFr τ fs_X5_reckon ts_X5_reckon σ σ_226 → ∀ (ls : Array Slot), lv_has ls 7 [(0, .ref a0), (1, .ref a1), (2, .int v25), (3, .int j11_3), (4, .int v11), (5, .int v21), (6, .int v24)] → W p l e ({ frames := 0, cells := 0, slots := 0, locals := 0 } : Room) s m args below meth c H locs 0 0 Q (F0 m 226 ls [.int k226_2, .int v61, .ref v19]) := by
                  intro k226_2 ik226_2   σ_226 H locs hw fr   ls hl
                  refine o_iast cx hw h19 (by decide) rfl (iv_in i61 (by decide)) trivial dX5_reckon_226 (fun σ62 H locs eσ62 hw => ?_)
                  have fr := oFr_p fr eσ62 h19 (by decide)
                  refine lv_goto (tgt := 323) hx hb dX5_reckon_227 (by decide) ?_
                  exact J_323 v25 (iv_w i25 (by decide)) σ62 _ _ hw fr (le_lin x25 (Int.add_zero _).symm le11_0 (by decide)) _ (lv_sub hl [0, 1, 2, 3, 4] rfl)
                refine lv_icmp_le (tgt := 225) hx hb dX5_reckon_218 (by decide) (fun c63 => ?_) (fun c63 => ?_)
                · --
                  refine lv_iconst (v := 0) hx hb dX5_reckon_225 (by decide) ?_
                  exact J_226 0 (iv_w (⟨by decide, by decide⟩ : Iv 0 0 0) (by decide)) σ_96 _ _ hw fr _ (lv_sub hl [3, 4, 0, 5, 6, 2, 1] rfl)
                · --
                  have i64 : Iv v21 (-2147483648) 2147483646 := iv_lt1 (iv_nle c63) (iv_top v21) (iv_top v24) (by decide)
                  have i65 : Iv v24 (-2147483647) 2147483647 := iv_lt2 (iv_nle c63) (iv_top v21) (iv_top v24) (by decide)
                  refine lv_iconst (v := 1) hx hb dX5_reckon_221 (by decide) ?_
                  refine lv_goto (tgt := 226) hx hb dX5_reckon_222 (by decide) ?_
                  exact J_226 1 (iv_w (⟨by decide, by decide⟩ : Iv 1 1 1) (by decide)) σ_96 _ _ hw fr _ (lv_sub hl [3, 4, 0, 5, 6, 2, 1] rfl)
              have q26 := iv_nt q26 (k := 42) (by decide)
              have q32 := iv_nt q32 (k := 43) (by decide)
              have q38 := iv_nt q38 (k := 45) (by decide)
              have q44 := iv_nt q44 (k := 60) (by decide)
              have q52 := iv_nt q52 (k := 61) (by decide)
              have q58 := iv_nt q58 (k := 62) (by decide)
              refine lv_lookup (off := 175) (tgt := 301) hx hb dX5_reckon_126 (by decide) (by simp [Op.lookupswitch.offset, q26, Ne.symm q26, q32, Ne.symm q32, q38, Ne.symm q38, q44, Ne.symm q44, q52, Ne.symm q52, q58, Ne.symm q58]) (by decide) ?_
              refine lv_aload_n hx hb dX5_reckon_301 rfl (lv_at hl 3 rfl) ?_
              refine g_262 cx hw ha0 k_f_X5_21 dX5_reckon_302 (fun v66 e66 h66 => ?_)
              rw [show v66 = v19 from Option.some.inj (e66.symm.trans (e19))]
              refine lv_iload_n hx hb dX5_reckon_305 rfl (lv_at hl 0 rfl) ?_
              refine lv_iconst (v := 1) hx hb dX5_reckon_306 (by decide) ?_
              refine lv_isub hx hb dX5_reckon_307 ?_
              refine lv_topi (fun v67 e67 => ?_)
              have i67 : Iv v67 0 37 := iv_sub e67 i25 (⟨by decide, by decide⟩ : Iv 1 1 1) (by decide)
              have x67 : v67.toInt = v25.toInt + (-1) := ex_sub e67 i25 (⟨by decide, by decide⟩ : Iv 1 1 1) (by decide)
              refine lv_iload hx hb dX5_reckon_308 (lv_at hl 2 rfl) ?_
              have J_322 : ∀ (k322_2 : Int32), ∀ (σ_322 : oSt) (H : Heap) (locs : List Loc), oI A L τ cy D s.heap σ_322 H locs → oFr τ fs_X5_reckon ts_X5_reckon σ σ_322 → ∀ (ls : Array Slot), lv_has ls 7 [(0, .ref a0), (1, .ref a1), (2, .int v25), (3, .int j11_3), (4, .int v11), (5, .int v21), (6, .int v24)] → W p l e ({ frames := 0, cells := 0, slots := 0, locals := 0 } : Room) s m args below meth c H locs 0 0 Q (F0 m 322 ls [.int k322_2, .int v67, .ref v19]) := by
                intro k322_2   σ_322 H locs hw fr   ls hl
                refine o_iast cx hw h19 (by decide) rfl (iv_in i67 (by decide)) trivial dX5_reckon_322 (fun σ68 H locs eσ68 hw => ?_)
                have fr := oFr_p fr eσ68 h19 (by decide)
                exact J_323 v25 (iv_w i25 (by decide)) σ68 _ _ hw fr (le_lin x25 (Int.add_zero _).symm le11_0 (by decide)) _ (lv_sub hl [0, 1, 2, 3, 4] rfl)
              refine lv_if_ne (tgt := 317) hx hb dX5_reckon_310 (by decide) (fun c69 => ?_) (fun c69 => ?_)
              · --
                refine lv_iload hx hb dX5_reckon_317 (lv_at hl 1 rfl) ?_
                refine lv_iload hx hb dX5_reckon_319 (lv_at hl 2 rfl) ?_
                refine lv_idiv hx hb dX5_reckon_321 c69 ?_
                refine lv_topi (fun v70 e70 => ?_)
                exact J_322 v70 σ_96 _ _ hw fr _ (lv_sub hl [3, 4, 0, 5, 6, 2, 1] rfl)
              · --
                have i71 : Iv v21 0 0 := iv_eq1 c69 (iv_top v21) (⟨by decide, by decide⟩ : Iv 0 0 0) (by decide)
                refine lv_iconst (v := 0) hx hb dX5_reckon_313 (by decide) ?_
                refine lv_goto (tgt := 322) hx hb dX5_reckon_314 (by decide) ?_
                exact J_322 0 σ_96 _ _ hw fr _ (lv_sub hl [3, 4, 0, 5, 6, 2, 1] rfl)
          refine lv_icmp_ne (tgt := 96) hx hb dX5_reckon_68 (by decide) (fun c72 => ?_) (fun c72 => ?_)
          · --
            exact J_96 σ_11 _ _ hw fr _ (lv_sub hl [1, 2, 3, 4, 0] rfl)
          · --
            have i73 : Iv v11 256 256 := iv_eq1 c72 i14 (⟨by decide, by decide⟩ : Iv 256 256 256) (by decide)
            refine lv_iload_n hx hb dX5_reckon_71 rfl (lv_at hl 3 rfl) ?_
            refine lv_iconst (v := 1) hx hb dX5_reckon_72 (by decide) ?_
            refine lv_icmp_lt (tgt := 96) hx hb dX5_reckon_73 (by decide) (fun c74 => ?_) (fun c74 => ?_)
            · --
              have i75 : Iv j11_2 0 0 := iv_lt1 c74 i8 (⟨by decide, by decide⟩ : Iv 1 1 1) (by decide)
              exact J_96 σ_11 _ _ hw fr _ (lv_sub hl [1, 2, 3, 4, 0] rfl)
            · --
              have i76 : Iv j11_2 1 39 := iv_le2 (iv_nlt c74) (⟨by decide, by decide⟩ : Iv 1 1 1) i8 (by decide)
              have i77 : Iv j11_3 1 39 := iv_lel le11_0 i76 i7 (by decide)
              refine lv_aload_n hx hb dX5_reckon_76 rfl (lv_at hl 1 rfl) ?_
              refine g_262 cx hw ha0 k_f_X5_21 dX5_reckon_77 (fun v78 e78 h78 => ?_)
              refine lv_iload_n hx hb dX5_reckon_80 rfl (lv_at hl 3 rfl) ?_
              refine lv_iconst (v := 1) hx hb dX5_reckon_81 (by decide) ?_
              refine lv_isub hx hb dX5_reckon_82 ?_
              refine lv_topi (fun v79 e79 => ?_)
              have i79 : Iv v79 0 38 := iv_sub e79 i76 (⟨by decide, by decide⟩ : Iv 1 1 1) (by decide)
              have x79 : v79.toInt = j11_2.toInt + (-1) := ex_sub e79 i76 (⟨by decide, by decide⟩ : Iv 1 1 1) (by decide)
              refine lv_aload_n hx hb dX5_reckon_83 rfl (lv_at hl 1 rfl) ?_
              refine g_262 cx hw ha0 k_f_X5_21 dX5_reckon_84 (fun v80 e80 h80 => ?_)
              rw [show v80 = v78 from Option.some.inj (e80.symm.trans (e78))]
              refine lv_iload_n hx hb dX5_reckon_87 rfl (lv_at hl 3 rfl) ?_
              refine lv_iconst (v := 1) hx hb dX5_reckon_88 (by decide) ?_
              refine lv_isub hx hb dX5_reckon_89 ?_
              refine lv_topi (fun v81 e81 => ?_)
              have i81 : Iv v81 0 38 := iv_sub e81 i76 (⟨by decide, by decide⟩ : Iv 1 1 1) (by decide)
              have x81 : v81.toInt = j11_2.toInt + (-1) := ex_sub e81 i76 (⟨by decide, by decide⟩ : Iv 1 1 1) (by decide)
              refine o_iald cx hw h78 (by decide) rfl (iv_in i81 (by decide)) dX5_reckon_90 (fun v82 e82 b82 => ?_)
              refine lv_ineg hx hb dX5_reckon_91 ?_
              refine lv_topi (fun v83 e83 => ?_)
              refine o_iast cx hw h78 (by decide) rfl (iv_in i79 (by decide)) trivial dX5_reckon_92 (fun σ84 H locs eσ84 hw => ?_)
              have fr := oFr_p fr eσ84 h78 (by decide)
              refine lv_goto (tgt := 323) hx hb dX5_reckon_93 (by decide) ?_
              exact J_323 j11_2 (iv_w i76 (by decide)) σ84 _ _ hw fr (le_lin (Int.add_zero _).symm (Int.add_zero _).symm le11_0 (by decide)) _ (lv_sub hl [1, 2, 3, 4, 0] rfl)
        · --
          have i85 : Iv v11 (-2147483648) 9 := iv_le1 (iv_nlt c13) (iv_top v11) (⟨by decide, by decide⟩ : Iv 9 9 9) (by decide)
          refine lv_aload_n hx hb dX5_reckon_34 rfl (lv_at hl 1 rfl) ?_
          refine g_262 cx hw ha0 k_f_X5_21 dX5_reckon_35 (fun v86 e86 h86 => ?_)
          refine lv_iload_n hx hb dX5_reckon_38 rfl (lv_at hl 3 rfl) ?_
          refine lv_iload hx hb dX5_reckon_39 (lv_at hl 0 rfl) ?_
          have J_56 : ∀ (k56_2 : Int32), ∀ (σ_56 : oSt) (H : Heap) (locs : List Loc), oI A L τ cy D s.heap σ_56 H locs → oFr τ fs_X5_reckon ts_X5_reckon σ σ_56 → ∀ (ls : Array Slot), lv_has ls 7 [(0, .ref a0), (1, .ref a1), (2, .int j11_2), (3, .int j11_3), (4, .int v11)] → W p l e ({ frames := 0, cells := 0, slots := 0, locals := 0 } : Room) s m args below meth c H locs 0 0 Q (F0 m 56 ls [.int k56_2, .int j11_2, .ref v86]) := by
            intro k56_2   σ_56 H locs hw fr   ls hl
            refine o_iast cx hw h86 (by decide) rfl (iv_in i8 (by decide)) trivial dX5_reckon_56 (fun σ87 H locs eσ87 hw => ?_)
            have fr := oFr_p fr eσ87 h86 (by decide)
            obtain ⟨v88, e88⟩ : ∃ y : Int32, y = j11_2 + 1 := ⟨_, rfl⟩
            have i88 : Iv v88 1 40 := iv_add e88 i8 (⟨by decide, by decide⟩ : Iv 1 1 1) (by decide)
            have x88 : v88.toInt = j11_2.toInt + 1 := ex_add e88 i8 (⟨by decide, by decide⟩ : Iv 1 1 1) (by decide)
            refine lv_iinc (v := v88) (lv' := [(2, .int v88), (0, .ref a0), (1, .ref a1), (3, .int j11_3), (4, .int v11)]) hx hb dX5_reckon_57 hl (k := 2) rfl (by rw [e88]; rfl) (by decide) rfl (fun ls hl => ?_)
            refine lv_goto (tgt := 323) hx hb dX5_reckon_60 (by decide) ?_
            exact J_323 v88 (iv_w i88 (by decide)) σ87 _ _ hw fr (le_lin x88 (Int.add_zero _).symm le11_0 (by decide)) _ (lv_sub hl [1, 2, 0, 3, 4] rfl)
          refine lv_if_gt (tgt := 50) hx hb dX5_reckon_41 (by decide) (fun c89 => ?_) (fun c89 => ?_)
          · --
            have i90 : Iv v11 1 9 := iv_lt2 c89 (⟨by decide, by decide⟩ : Iv 0 0 0) i85 (by decide)
            refine lv_aload_n hx hb dX5_reckon_50 rfl (lv_at hl 2 rfl) ?_
            refine lv_iload hx hb dX5_reckon_51 (lv_at hl 0 rfl) ?_
            refine lv_iconst (v := 1) hx hb dX5_reckon_53 (by decide) ?_
            refine lv_isub hx hb dX5_reckon_54 ?_
            refine lv_topi (fun v91 e91 => ?_)
            have i91 : Iv v91 0 8 := iv_sub e91 i90 (⟨by decide, by decide⟩ : Iv 1 1 1) (by decide)
            have x91 : v91.toInt = v11.toInt + (-1) := ex_sub e91 i90 (⟨by decide, by decide⟩ : Iv 1 1 1) (by decide)
            refine o_iald cx hw ha1 (by decide) rfl (iv_in i91 (by decide)) dX5_reckon_55 (fun v92 e92 b92 => ?_)
            exact J_56 v92 σ_11 _ _ hw fr _ (lv_sub hl [1, 2, 3, 4, 0] rfl)
          · --
            have i93 : Iv v11 (-2147483648) 0 := iv_le1 (iv_nlt c89) i85 (⟨by decide, by decide⟩ : Iv 0 0 0) (by decide)
            refine lv_iload hx hb dX5_reckon_44 (lv_at hl 0 rfl) ?_
            refine lv_ineg hx hb dX5_reckon_46 ?_
            refine lv_topi (fun v94 e94 => ?_)
            refine lv_goto (tgt := 56) hx hb dX5_reckon_47 (by decide) ?_
            exact J_56 v94 σ_11 _ _ hw fr _ (lv_sub hl [1, 2, 3, 4, 0] rfl)
  exact J_11 _ 0 (iv_w (⟨by decide, by decide⟩ : Iv 0 0 0) (by decide)) 0 (iv_w (⟨by decide, by decide⟩ : Iv 0 0 0) (by decide)) (Nat.lt_succ_self _) σ2 _ _ hw fr (le_iv (⟨by decide, by decide⟩ : Iv 0 0 0) (⟨by decide, by decide⟩ : Iv 0 0 0) (by decide)) _ (lv_sub hl [2, 3, 1, 0] rfl)
abbrev fs_X9_weigh : List Nat := [517]
abbrev ts_X9_weigh : List Nat := [37, 38]
set_option maxHeartbeats 4000000 in
set_option maxRecDepth 100000 in
theorem c_X9_weigh (a0 : Nat) (ha0 : oA L τ a0 8) (a1 : Nat) (ha1 : oA L τ a1 5) (a2 : Int32) (ia2 : Iv a2 0 5) (a3 : Int32) (ia3 : Iv a3 0 63) : oMet l A L τ cy D K yX9_weigh cX9_weigh 4 (some .int) 1 26 [.ref a0, .ref a1, .int a2, .int a3] σ (va_Qi (fun r σ1 => oFr τ fs_X9_weigh ts_X9_weigh σ σ1) (oPo A L τ cy D) A) := by
  refine oMk (by decide) (Nat.le_of_ble_eq_true rfl) rfl ?_
  intro p e s m args below meth c ls cx rx hA hw hl
  generalize hQ : MQ below _ args s 0 0 A = Q
  have hx := cx.1.1
  have hb := cx.1.2.1
  have hml := cx.1.2.2.1
  have hown := cx.1.2.2.2.1
  have hts := cx.1.2.2.2.2
  have hl : lv_has ls 4 [(0, .ref a0), (1, .ref a1), (2, .int a2), (3, .int a3)] := hl
  have fr : oFr τ fs_X9_weigh ts_X9_weigh σ σ := oFr_rf
  refine lv_aload_n hx hb dX9_weigh_0 rfl (lv_at hl 0 rfl) ?_
  refine lv_dup hx hb dX9_weigh_1 rfl ?_
  refine g_517 cx hw ha0 k_f_X9_32 dX9_weigh_2 (fun v1 e1 => ?_)
  refine lv_iload_n hx hb dX9_weigh_5 rfl (lv_at hl 3 rfl) ?_
  refine o_cl hw (oRunS cx hA hw q_X0_bit k_m_X9_100 (As := [.int a3]) (c_X0_bit a3) (by decide) rfl hl.1 rfl (Nat.le_of_ble_eq_true rfl) dX9_weigh_6 (by decide)) (fun v3 σ2 H locs hp hw => ?_)
  have p3_0 := hp
  rw [p3_0] at hw
  refine lv_lor hx hb dX9_weigh_9 ?_
  refine lv_topl (fun v4 e4 => ?_)
  refine p_517 cx hw ha0 k_f_X9_32 dX9_weigh_10 (fun σ5 H locs eσ5 hw => ?_)
  have fr := oFr_l fr eσ5 (by decide)
  refine lv_aload_n hx hb dX9_weigh_13 rfl (lv_at hl 0 rfl) ?_
  refine g_516 cx hw ha0 k_f_X9_20 dX9_weigh_14 (fun v6 e6 h6 => ?_)
  refine lv_iconst (v := 0) hx hb dX9_weigh_17 (by decide) ?_
  refine lv_aload_n hx hb dX9_weigh_18 rfl (lv_at hl 1 rfl) ?_
  refine g_320 cx hw ha1 k_f_X9_103 dX9_weigh_19 (fun v7 e7 h7 => ?_)
  refine lv_iload_n hx hb dX9_weigh_22 rfl (lv_at hl 3 rfl) ?_
  refine o_iald cx hw h7 (by decide) rfl (iv_in ia3 (by decide)) dX9_weigh_23 (fun v8 e8 b8 => ?_)
  refine o_iast cx hw h6 (by decide) rfl (iv_in (⟨by decide, by decide⟩ : Iv 0 0 0) (by decide)) trivial dX9_weigh_24 (fun σ9 H locs eσ9 hw => ?_)
  have fr := oFr_p fr eσ9 h6 (by decide)
  refine lv_aload_n hx hb dX9_weigh_25 rfl (lv_at hl 0 rfl) ?_
  refine g_516 cx hw ha0 k_f_X9_20 dX9_weigh_26 (fun v10 e10 h10 => ?_)
  rw [show v10 = v6 from Option.some.inj (e10.symm.trans (((kr_p eσ9).trans e6)))]
  refine lv_iconst (v := 1) hx hb dX9_weigh_29 (by decide) ?_
  refine lv_aload_n hx hb dX9_weigh_30 rfl (lv_at hl 1 rfl) ?_
  refine g_321 cx hw ha1 k_f_X9_106 dX9_weigh_31 (fun v11 e11 h11 => ?_)
  refine lv_iload_n hx hb dX9_weigh_34 rfl (lv_at hl 3 rfl) ?_
  refine o_iald cx hw h11 (by decide) rfl (iv_in ia3 (by decide)) dX9_weigh_35 (fun v12 e12 b12 => ?_)
  refine o_iast cx hw h6 (by decide) rfl (iv_in (⟨by decide, by decide⟩ : Iv 1 1 1) (by decide)) trivial dX9_weigh_36 (fun σ13 H locs eσ13 hw => ?_)
  have fr := oFr_p fr eσ13 h6 (by decide)
  refine lv_aload_n hx hb dX9_weigh_37 rfl (lv_at hl 0 rfl) ?_
  refine g_516 cx hw ha0 k_f_X9_20 dX9_weigh_38 (fun v14 e14 h14 => ?_)
  rw [show v14 = v6 from Option.some.inj (e14.symm.trans (((kr_p eσ13).trans ((kr_p eσ9).trans e6))))]
  refine lv_iconst (v := 2) hx hb dX9_weigh_41 (by decide) ?_
  refine lv_aload_n hx hb dX9_weigh_42 rfl (lv_at hl 1 rfl) ?_
  refine g_322 cx hw ha1 k_f_X9_109 dX9_weigh_43 (fun v15 e15 h15 => ?_)
  refine lv_iload_n hx hb dX9_weigh_46 rfl (lv_at hl 3 rfl) ?_
  refine o_iald cx hw h15 (by decide) rfl (iv_in ia3 (by decide)) dX9_weigh_47 (fun v16 e16 b16 => ?_)
  refine o_iast cx hw h6 (by decide) rfl (iv_in (⟨by decide, by decide⟩ : Iv 2 2 2) (by decide)) trivial dX9_weigh_48 (fun σ17 H locs eσ17 hw => ?_)
  have fr := oFr_p fr eσ17 h6 (by decide)
  refine lv_aload_n hx hb dX9_weigh_49 rfl (lv_at hl 0 rfl) ?_
  refine g_516 cx hw ha0 k_f_X9_20 dX9_weigh_50 (fun v18 e18 h18 => ?_)
  rw [show v18 = v6 from Option.some.inj (e18.symm.trans (((kr_p eσ17).trans ((kr_p eσ13).trans ((kr_p eσ9).trans e6)))))]
  refine lv_iconst (v := 3) hx hb dX9_weigh_53 (by decide) ?_
  refine lv_aload_n hx hb dX9_weigh_54 rfl (lv_at hl 1 rfl) ?_
  refine lv_iload_n hx hb dX9_weigh_55 rfl (lv_at hl 3 rfl) ?_
  refine lv_aload_n hx hb dX9_weigh_56 rfl (lv_at hl 0 rfl) ?_
  refine g_514 cx hw ha0 k_f_X9_9 dX9_weigh_57 (fun v19 e19 => ?_)
  refine o_ci hw (oRunV cx hA hw q_X6_isRoad k_m_X9_112 rfl ha1 (by decide) (As := [.int a3, .int v19]) (c_X6_isRoad a1 ha1 a3 (iv_w ia3 (by decide)) v19) (by decide) rfl hl.1 rfl (Nat.le_of_ble_eq_true rfl) dX9_weigh_60 (by decide)) (fun v21 σ20 H locs hp hw => ?_)
  obtain ⟨p21_0, p21_1⟩ := hp
  rw [p21_0] at hw
  have J_71 : ∀ (k71_2 : Int32) (ik71_2 : Iv k71_2 0 1), ∀ (σ_71 : oSt) (H : Heap) (locs : List Loc), oI A L τ cy D s.heap σ_71 H locs → oFr τ fs_X9_weigh ts_X9_weigh σ σ_71 → ∀ (ls : Array Slot), lv_has ls 4 [(0, .ref a0), (1, .ref a1), (2, .int a2), (3, .int a3)] → W p l e ({ frames := 1, cells := 0, slots := 0, locals := 26 } : Room) s m args below meth c H locs 0 0 Q (F0 m 71 ls [.int k71_2, .int 3, .ref v6]) := by
    intro k71_2 ik71_2   σ_71 H locs hw fr   ls hl
    refine o_iast cx hw h6 (by decide) rfl (iv_in (⟨by decide, by decide⟩ : Iv 3 3 3) (by decide)) trivial dX9_weigh_71 (fun σ22 H locs eσ22 hw => ?_)
    have fr := oFr_p fr eσ22 h6 (by decide)
    refine lv_aload_n hx hb dX9_weigh_72 rfl (lv_at hl 0 rfl) ?_
    refine g_516 cx hw ha0 k_f_X9_20 dX9_weigh_73 (fun v23 e23 h23 => ?_)
    refine lv_iconst (v := 4) hx hb dX9_weigh_76 (by decide) ?_
    refine lv_aload_n hx hb dX9_weigh_77 rfl (lv_at hl 1 rfl) ?_
    refine g_325 cx hw ha1 k_f_X9_57 dX9_weigh_78 (fun v24 e24 h24 => ?_)
    refine lv_iload_n hx hb dX9_weigh_81 rfl (lv_at hl 2 rfl) ?_
    refine o_iald cx hw h24 (by decide) rfl (iv_in ia2 (by decide)) dX9_weigh_82 (fun v25 e25 b25 => ?_)
    have i25 : Iv v25 0 63 := b25
    refine lv_iload_n hx hb dX9_weigh_83 rfl (lv_at hl 3 rfl) ?_
    have J_92 : ∀ (k92_2 : Int32) (ik92_2 : Iv k92_2 0 1), ∀ (σ_92 : oSt) (H : Heap) (locs : List Loc), oI A L τ cy D s.heap σ_92 H locs → oFr τ fs_X9_weigh ts_X9_weigh σ σ_92 → ∀ (ls : Array Slot), lv_has ls 4 [(0, .ref a0), (1, .ref a1), (2, .int a2), (3, .int a3)] → W p l e ({ frames := 1, cells := 0, slots := 0, locals := 26 } : Room) s m args below meth c H locs 0 0 Q (F0 m 92 ls [.int k92_2, .int 4, .ref v23]) := by
      intro k92_2 ik92_2   σ_92 H locs hw fr   ls hl
      refine o_iast cx hw h23 (by decide) rfl (iv_in (⟨by decide, by decide⟩ : Iv 4 4 4) (by decide)) trivial dX9_weigh_92 (fun σ26 H locs eσ26 hw => ?_)
      have fr := oFr_p fr eσ26 h23 (by decide)
      refine lv_aload_n hx hb dX9_weigh_93 rfl (lv_at hl 0 rfl) ?_
      refine g_516 cx hw ha0 k_f_X9_20 dX9_weigh_94 (fun v27 e27 h27 => ?_)
      refine lv_iconst (v := 5) hx hb dX9_weigh_97 (by decide) ?_
      refine lv_aload_n hx hb dX9_weigh_98 rfl (lv_at hl 1 rfl) ?_
      refine lv_iload_n hx hb dX9_weigh_99 rfl (lv_at hl 3 rfl) ?_
      refine o_ci hw (oRunV cx hA hw q_X6_herdsAt k_m_X9_116 rfl ha1 (by decide) (As := [.int a3]) (c_X6_herdsAt a1 ha1 a3) (by decide) rfl hl.1 rfl (Nat.le_of_ble_eq_true rfl) dX9_weigh_100 (by decide)) (fun v29 σ28 H locs hp hw => ?_)
      obtain ⟨p29_0, p29_1⟩ := hp
      rw [p29_0] at hw
      refine lv_iconst (v := 1) hx hb dX9_weigh_103 (by decide) ?_
      refine lv_iload_n hx hb dX9_weigh_104 rfl (lv_at hl 2 rfl) ?_
      refine lv_ishl hx hb dX9_weigh_105 ?_
      refine lv_topi (fun v30 e30 => ?_)
      have i30 : Iv v30 1 32 := iv_shl1 e30 ia2 (by decide)
      refine lv_iconst (v := (-1)) hx hb dX9_weigh_106 (by decide) ?_
      refine lv_ixor hx hb dX9_weigh_107 ?_
      refine lv_topi (fun v31 e31 => ?_)
      refine lv_iand hx hb dX9_weigh_108 ?_
      refine lv_topi (fun v32 e32 => ?_)
      refine o_ci hw (oRunS cx hA hw q_J6_bitCount_0f7a4 k_m_X9_120 (As := [.int v32]) (c_J6_bitCount_0f7a4 v32) (by decide) rfl hl.1 rfl (Nat.le_of_ble_eq_true rfl) dX9_weigh_109 (by decide)) (fun v34 σ33 H locs hp hw => ?_)
      obtain ⟨p34_0, p34_1⟩ := hp
      rw [p34_0] at hw
      refine o_iast cx hw h27 (by decide) rfl (iv_in (⟨by decide, by decide⟩ : Iv 5 5 5) (by decide)) trivial dX9_weigh_112 (fun σ35 H locs eσ35 hw => ?_)
      have fr := oFr_p fr eσ35 h27 (by decide)
      refine lv_aload_n hx hb dX9_weigh_113 rfl (lv_at hl 0 rfl) ?_
      refine g_516 cx hw ha0 k_f_X9_20 dX9_weigh_114 (fun v36 e36 h36 => ?_)
      rw [show v36 = v27 from Option.some.inj (e36.symm.trans (((kr_p eσ35).trans e27)))]
      refine lv_bipush (v := 6) hx hb dX9_weigh_117 (by decide) ?_
      refine lv_aload_n hx hb dX9_weigh_119 rfl (lv_at hl 1 rfl) ?_
      refine g_326 cx hw ha1 k_f_X9_125 dX9_weigh_120 (fun v37 e37 h37 => ?_)
      refine lv_iload_n hx hb dX9_weigh_123 rfl (lv_at hl 2 rfl) ?_
      refine o_iald cx hw h37 (by decide) rfl (iv_in ia2 (by decide)) dX9_weigh_124 (fun v38 e38 b38 => ?_)
      refine o_iast cx hw h27 (by decide) rfl (iv_in (⟨by decide, by decide⟩ : Iv 6 6 6) (by decide)) trivial dX9_weigh_125 (fun σ39 H locs eσ39 hw => ?_)
      have fr := oFr_p fr eσ39 h27 (by decide)
      refine lv_aload_n hx hb dX9_weigh_126 rfl (lv_at hl 0 rfl) ?_
      refine g_516 cx hw ha0 k_f_X9_20 dX9_weigh_127 (fun v40 e40 h40 => ?_)
      rw [show v40 = v27 from Option.some.inj (e40.symm.trans (((kr_p eσ39).trans ((kr_p eσ35).trans e27))))]
      refine lv_bipush (v := 7) hx hb dX9_weigh_130 (by decide) ?_
      refine lv_iload_n hx hb dX9_weigh_132 rfl (lv_at hl 2 rfl) ?_
      refine o_iast cx hw h27 (by decide) rfl (iv_in (⟨by decide, by decide⟩ : Iv 7 7 7) (by decide)) trivial dX9_weigh_133 (fun σ41 H locs eσ41 hw => ?_)
      have fr := oFr_p fr eσ41 h27 (by decide)
      refine lv_aload_n hx hb dX9_weigh_134 rfl (lv_at hl 0 rfl) ?_
      refine g_516 cx hw ha0 k_f_X9_20 dX9_weigh_135 (fun v42 e42 h42 => ?_)
      rw [show v42 = v27 from Option.some.inj (e42.symm.trans (((kr_p eσ41).trans ((kr_p eσ39).trans ((kr_p eσ35).trans e27)))))]
      refine lv_bipush (v := 8) hx hb dX9_weigh_138 (by decide) ?_
      refine lv_aload_n hx hb dX9_weigh_140 rfl (lv_at hl 1 rfl) ?_
      refine g_331 cx hw ha1 k_f_X9_51 dX9_weigh_141 (fun v43 e43 => ?_)
      refine o_iast cx hw h27 (by decide) rfl (iv_in (⟨by decide, by decide⟩ : Iv 8 8 8) (by decide)) trivial dX9_weigh_144 (fun σ44 H locs eσ44 hw => ?_)
      have fr := oFr_p fr eσ44 h27 (by decide)
      refine lv_aload_n hx hb dX9_weigh_145 rfl (lv_at hl 0 rfl) ?_
      refine g_513 cx hw ha0 k_f_X9_28 dX9_weigh_146 (fun v45 e45 h45 => ?_)
      refine lv_aload_n hx hb dX9_weigh_149 rfl (lv_at hl 0 rfl) ?_
      refine g_516 cx hw ha0 k_f_X9_20 dX9_weigh_150 (fun v46 e46 h46 => ?_)
      rw [show v46 = v27 from Option.some.inj (e46.symm.trans (((kr_p eσ44).trans ((kr_p eσ41).trans ((kr_p eσ39).trans ((kr_p eσ35).trans e27))))))]
      refine o_ci hw (oRunV cx hA hw q_X5_reckon k_m_X9_128 rfl h45 (by decide) (As := [.ref v27]) (c_X5_reckon v45 h45 v27 h27) (by decide) rfl hl.1 rfl (Nat.le_of_ble_eq_true rfl) dX9_weigh_153 (by decide)) (fun v48 σ47 H locs hp hw => ?_)
      have p48_0 := hp
      have fr := oFr_tr fr p48_0 (by decide)
      rw [← hQ]
      exact o_ri cx rx hw dX9_weigh_156 fr
    refine lv_icmp_ne (tgt := 91) hx hb dX9_weigh_84 (by decide) (fun c49 => ?_) (fun c49 => ?_)
    · --
      refine lv_iconst (v := 1) hx hb dX9_weigh_91 (by decide) ?_
      exact J_92 1 (iv_w (⟨by decide, by decide⟩ : Iv 1 1 1) (by decide)) σ22 _ _ hw fr _ (lv_sub hl [0, 1, 2, 3] rfl)
    · --
      refine lv_iconst (v := 0) hx hb dX9_weigh_87 (by decide) ?_
      refine lv_goto (tgt := 92) hx hb dX9_weigh_88 (by decide) ?_
      exact J_92 0 (iv_w (⟨by decide, by decide⟩ : Iv 0 0 0) (by decide)) σ22 _ _ hw fr _ (lv_sub hl [0, 1, 2, 3] rfl)
  refine lv_if_eq (tgt := 70) hx hb dX9_weigh_63 (by decide) (fun c50 => ?_) (fun c50 => ?_)
  · --
    have i51 : Iv v21 0 0 := iv_eq1 c50 p21_1 (⟨by decide, by decide⟩ : Iv 0 0 0) (by decide)
    refine lv_iconst (v := 0) hx hb dX9_weigh_70 (by decide) ?_
    exact J_71 0 (iv_w (⟨by decide, by decide⟩ : Iv 0 0 0) (by decide)) σ17 _ _ hw fr _ (lv_sub hl [0, 1, 2, 3] rfl)
  · --
    have i52 : Iv v21 1 1 := iv_ne1 c50 p21_1 (⟨by decide, by decide⟩ : Iv 0 0 0) (by decide)
    refine lv_iconst (v := 1) hx hb dX9_weigh_66 (by decide) ?_
    refine lv_goto (tgt := 71) hx hb dX9_weigh_67 (by decide) ?_
    exact J_71 1 (iv_w (⟨by decide, by decide⟩ : Iv 1 1 1) (by decide)) σ17 _ _ hw fr _ (lv_sub hl [0, 1, 2, 3] rfl)
set_option maxHeartbeats 4000000 in
set_option maxRecDepth 100000 in
theorem c_X0_next (a0 : Int32) (ia0 : Iv a0 0 63) (a1 : Int32) : oMet l A L τ cy D K yX0_next cX0_next 3 (some .int) 0 0 [.int a0, .int a1] σ (va_Qi (fun r σ1 => σ1 = σ ∧ Iv r (-1) 63) (oPo A L τ cy D) A) := by
  refine oMk (by decide) (Nat.le_of_ble_eq_true rfl) rfl ?_
  intro p e s m args below meth c ls cx rx hA hw hl
  generalize hQ : MQ below _ args s 0 0 A = Q
  have hx := cx.1.1
  have hb := cx.1.2.1
  have hml := cx.1.2.2.1
  have hown := cx.1.2.2.2.1
  have hts := cx.1.2.2.2.2
  have hl : lv_has ls 3 [(0, .int a0), (1, .int a1)] := hl
  refine lv_iload_n hx hb dX0_next_0 rfl (lv_at hl 0 rfl) ?_
  refine lv_bipush (v := 8) hx hb dX0_next_1 (by decide) ?_
  refine lv_irem hx hb dX0_next_3 (iv_nz (⟨by decide, by decide⟩ : Iv 8 8 8) (by decide)) ?_
  refine lv_topi (fun v1 e1 => ?_)
  have i1 : Iv v1 0 7 := iv_rem e1 ia0 (⟨by decide, by decide⟩ : Iv 8 8 8) (by decide)
  refine lv_istore_n (lv' := [(2, .int v1), (0, .int a0), (1, .int a1)]) hx hb dX0_next_4 rfl hl (by decide) rfl (fun ls hl => ?_)
  refine lv_iload_n hx hb dX0_next_5 rfl (lv_at hl 2 rfl) ?_
  by_cases q2 : a1 = 0
  · --
    refine lv_tableIn (tgt := 32) hx hb dX0_next_6 (by rw [q2]; decide) (by rw [q2]; decide) (by rw [q2]; rfl) (by decide) ?_
    have i3 : Iv a1 0 0 := iv_eq1 q2 (iv_top a1) (⟨by decide, by decide⟩ : Iv 0 0 0) (by decide)
    refine lv_iload_n hx hb dX0_next_32 rfl (lv_at hl 1 rfl) ?_
    refine lv_bipush (v := 8) hx hb dX0_next_33 (by decide) ?_
    refine lv_icmp_lt (tgt := 45) hx hb dX0_next_35 (by decide) (fun c4 => ?_) (fun c4 => ?_)
    · --
      have i5 : Iv a0 0 7 := iv_lt1 c4 ia0 (⟨by decide, by decide⟩ : Iv 8 8 8) (by decide)
      refine lv_iconst (v := (-1)) hx hb dX0_next_45 (by decide) ?_
      rw [← hQ]
      exact o_ri cx rx hw dX0_next_46 ⟨rfl, (iv_w (⟨by decide, by decide⟩ : Iv (-1) (-1) (-1)) (by decide))⟩
    · --
      have i6 : Iv a0 8 63 := iv_le2 (iv_nlt c4) (⟨by decide, by decide⟩ : Iv 8 8 8) ia0 (by decide)
      refine lv_iload_n hx hb dX0_next_38 rfl (lv_at hl 1 rfl) ?_
      refine lv_bipush (v := 8) hx hb dX0_next_39 (by decide) ?_
      refine lv_isub hx hb dX0_next_41 ?_
      refine lv_topi (fun v7 e7 => ?_)
      have i7 : Iv v7 0 55 := iv_sub e7 i6 (⟨by decide, by decide⟩ : Iv 8 8 8) (by decide)
      have x7 : v7.toInt = a0.toInt + (-8) := ex_sub e7 i6 (⟨by decide, by decide⟩ : Iv 8 8 8) (by decide)
      refine lv_goto (tgt := 46) hx hb dX0_next_42 (by decide) ?_
      rw [← hQ]
      exact o_ri cx rx hw dX0_next_46 ⟨rfl, (iv_w i7 (by decide))⟩
  by_cases q8 : a1 = 1
  · --
    refine lv_tableIn (tgt := 47) hx hb dX0_next_6 (by rw [q8]; decide) (by rw [q8]; decide) (by rw [q8]; rfl) (by decide) ?_
    have i9 : Iv a1 1 1 := iv_eq1 q8 (iv_top a1) (⟨by decide, by decide⟩ : Iv 1 1 1) (by decide)
    refine lv_iload_n hx hb dX0_next_47 rfl (lv_at hl 0 rfl) ?_
    refine lv_bipush (v := 7) hx hb dX0_next_48 (by decide) ?_
    refine lv_icmp_ge (tgt := 59) hx hb dX0_next_50 (by decide) (fun c10 => ?_) (fun c10 => ?_)
    · --
      have i11 : Iv v1 7 7 := iv_le2 c10 (⟨by decide, by decide⟩ : Iv 7 7 7) i1 (by decide)
      have i12 : Iv a0 1 63 := rem8_lo e1 ia0 i11 (by decide)
      refine lv_iconst (v := (-1)) hx hb dX0_next_59 (by decide) ?_
      rw [← hQ]
      exact o_ri cx rx hw dX0_next_60 ⟨rfl, (iv_w (⟨by decide, by decide⟩ : Iv (-1) (-1) (-1)) (by decide))⟩
    · --
      have i13 : Iv v1 0 6 := iv_lt1 (iv_nle c10) i1 (⟨by decide, by decide⟩ : Iv 7 7 7) (by decide)
      have i14 : Iv a0 0 62 := rem8_hi e1 ia0 i13 (by decide)
      refine lv_iload_n hx hb dX0_next_53 rfl (lv_at hl 1 rfl) ?_
      refine lv_iconst (v := 1) hx hb dX0_next_54 (by decide) ?_
      refine lv_iadd hx hb dX0_next_55 ?_
      refine lv_topi (fun v15 e15 => ?_)
      have i15 : Iv v15 1 63 := iv_add e15 i14 (⟨by decide, by decide⟩ : Iv 1 1 1) (by decide)
      have x15 : v15.toInt = a0.toInt + 1 := ex_add e15 i14 (⟨by decide, by decide⟩ : Iv 1 1 1) (by decide)
      refine lv_goto (tgt := 60) hx hb dX0_next_56 (by decide) ?_
      rw [← hQ]
      exact o_ri cx rx hw dX0_next_60 ⟨rfl, (iv_w i15 (by decide))⟩
  by_cases q16 : a1 = 2
  · --
    refine lv_tableIn (tgt := 61) hx hb dX0_next_6 (by rw [q16]; decide) (by rw [q16]; decide) (by rw [q16]; rfl) (by decide) ?_
    have i17 : Iv a1 2 2 := iv_eq1 q16 (iv_top a1) (⟨by decide, by decide⟩ : Iv 2 2 2) (by decide)
    refine lv_iload_n hx hb dX0_next_61 rfl (lv_at hl 1 rfl) ?_
    refine lv_bipush (v := 56) hx hb dX0_next_62 (by decide) ?_
    refine lv_icmp_ge (tgt := 74) hx hb dX0_next_64 (by decide) (fun c18 => ?_) (fun c18 => ?_)
    · --
      have i19 : Iv a0 56 63 := iv_le2 c18 (⟨by decide, by decide⟩ : Iv 56 56 56) ia0 (by decide)
      refine lv_iconst (v := (-1)) hx hb dX0_next_74 (by decide) ?_
      rw [← hQ]
      exact o_ri cx rx hw dX0_next_75 ⟨rfl, (iv_w (⟨by decide, by decide⟩ : Iv (-1) (-1) (-1)) (by decide))⟩
    · --
      have i20 : Iv a0 0 55 := iv_lt1 (iv_nle c18) ia0 (⟨by decide, by decide⟩ : Iv 56 56 56) (by decide)
      refine lv_iload_n hx hb dX0_next_67 rfl (lv_at hl 1 rfl) ?_
      refine lv_bipush (v := 8) hx hb dX0_next_68 (by decide) ?_
      refine lv_iadd hx hb dX0_next_70 ?_
      refine lv_topi (fun v21 e21 => ?_)
      have i21 : Iv v21 8 63 := iv_add e21 i20 (⟨by decide, by decide⟩ : Iv 8 8 8) (by decide)
      have x21 : v21.toInt = a0.toInt + 8 := ex_add e21 i20 (⟨by decide, by decide⟩ : Iv 8 8 8) (by decide)
      refine lv_goto (tgt := 75) hx hb dX0_next_71 (by decide) ?_
      rw [← hQ]
      exact o_ri cx rx hw dX0_next_75 ⟨rfl, (iv_w i21 (by decide))⟩
  have q2 := iv_nt q2 (k := 0) (by decide)
  have q8 := iv_nt q8 (k := 1) (by decide)
  have q16 := iv_nt q16 (k := 2) (by decide)
  refine lv_tableOut (tgt := 76) hx hb dX0_next_6 (by omega) (by decide) ?_
  refine lv_iload_n hx hb dX0_next_76 rfl (lv_at hl 0 rfl) ?_
  refine lv_if_le (tgt := 86) hx hb dX0_next_77 (by decide) (fun c22 => ?_) (fun c22 => ?_)
  · --
    have i23 : Iv v1 0 0 := iv_le1 c22 i1 (⟨by decide, by decide⟩ : Iv 0 0 0) (by decide)
    have i24 : Iv a0 0 62 := rem8_hi e1 ia0 i23 (by decide)
    refine lv_iconst (v := (-1)) hx hb dX0_next_86 (by decide) ?_
    rw [← hQ]
    exact o_ri cx rx hw dX0_next_87 ⟨rfl, (iv_w (⟨by decide, by decide⟩ : Iv (-1) (-1) (-1)) (by decide))⟩
  · --
    have i25 : Iv v1 1 7 := iv_lt2 (iv_nle c22) (⟨by decide, by decide⟩ : Iv 0 0 0) i1 (by decide)
    have i26 : Iv a0 1 63 := rem8_lo e1 ia0 i25 (by decide)
    refine lv_iload_n hx hb dX0_next_80 rfl (lv_at hl 1 rfl) ?_
    refine lv_iconst (v := 1) hx hb dX0_next_81 (by decide) ?_
    refine lv_isub hx hb dX0_next_82 ?_
    refine lv_topi (fun v27 e27 => ?_)
    have i27 : Iv v27 0 62 := iv_sub e27 i26 (⟨by decide, by decide⟩ : Iv 1 1 1) (by decide)
    have x27 : v27.toInt = a0.toInt + (-1) := ex_sub e27 i26 (⟨by decide, by decide⟩ : Iv 1 1 1) (by decide)
    refine lv_goto (tgt := 87) hx hb dX0_next_83 (by decide) ?_
    rw [← hQ]
    exact o_ri cx rx hw dX0_next_87 ⟨rfl, (iv_w i27 (by decide))⟩
abbrev fs_X9_choose : List Nat := [517]
abbrev ts_X9_choose : List Nat := [37, 38]
set_option maxHeartbeats 4000000 in
set_option maxRecDepth 100000 in
theorem c_X9_choose (a0 : Nat) (ha0 : oA L τ a0 8) (a1 : Nat) (ha1 : oA L τ a1 5) (a2 : Int32) (ia2 : Iv a2 0 5) (a3 : Int64) : oMet l A L τ cy D K yX9_choose cX9_choose 11 (some .int) 2 49 [.ref a0, .ref a1, .int a2, .long a3] σ (va_Qi (fun r σ1 => oFr τ fs_X9_choose ts_X9_choose σ σ1 ∧ Iv r 0 63) (oPo A L τ cy D) A) := by
  refine oMk (by decide) (Nat.le_of_ble_eq_true rfl) rfl ?_
  intro p e s m args below meth c ls cx rx hA hw hl
  generalize hQ : MQ below _ args s 0 0 A = Q
  have hx := cx.1.1
  have hb := cx.1.2.1
  have hml := cx.1.2.2.1
  have hown := cx.1.2.2.2.1
  have hts := cx.1.2.2.2.2
  have hl : lv_has ls 11 [(0, .ref a0), (1, .ref a1), (2, .int a2), (3, .long a3)] := hl
  have fr : oFr τ fs_X9_choose ts_X9_choose σ σ := oFr_rf
  refine lv_aload_n hx hb dX9_choose_0 rfl (lv_at hl 1 rfl) ?_
  refine g_325 cx hw ha1 k_f_X9_57 dX9_choose_1 (fun v1 e1 h1 => ?_)
  refine lv_iload_n hx hb dX9_choose_4 rfl (lv_at hl 2 rfl) ?_
  refine o_iald cx hw h1 (by decide) rfl (iv_in ia2 (by decide)) dX9_choose_5 (fun v2 e2 b2 => ?_)
  have i2 : Iv v2 0 63 := b2
  refine lv_istore (lv' := [(5, .int v2), (0, .ref a0), (1, .ref a1), (2, .int a2), (3, .long a3)]) hx hb dX9_choose_6 hl (by decide) rfl (fun ls hl => ?_)
  refine lv_aload_n hx hb dX9_choose_8 rfl (lv_at hl 2 rfl) ?_
  refine g_328 cx hw ha1 k_f_X9_83 dX9_choose_9 (fun v3 e3 => ?_)
  refine lv_iload_n hx hb dX9_choose_12 rfl (lv_at hl 3 rfl) ?_
  refine lv_ishr hx hb dX9_choose_13 ?_
  refine lv_topi (fun v4 e4 => ?_)
  refine lv_iconst (v := 1) hx hb dX9_choose_14 (by decide) ?_
  refine lv_iand hx hb dX9_choose_15 ?_
  refine lv_topi (fun v5 e5 => ?_)
  have i5 : Iv v5 0 1 := iv_and e5 (⟨by decide, by decide⟩ : Iv 1 1 1) (by decide)
  have J_31 : ∀ (σ_31 : oSt) (H : Heap) (locs : List Loc), oI A L τ cy D s.heap σ_31 H locs → oFr τ fs_X9_choose ts_X9_choose σ σ_31 → ∀ (ls : Array Slot), lv_has ls 11 [(0, .ref a0), (1, .ref a1), (2, .int a2), (3, .long a3), (5, .int v2)] → W p l e ({ frames := 2, cells := 0, slots := 0, locals := 49 } : Room) s m args below meth c H locs 0 0 Q (F0 m 31 ls []) := by
    intro    σ_31 H locs hw fr   ls hl
    refine lv_iload hx hb dX9_choose_31 (lv_at hl 4 rfl) ?_
    refine lv_istore (lv' := [(6, .int v2), (0, .ref a0), (1, .ref a1), (2, .int a2), (3, .long a3), (5, .int v2)]) hx hb dX9_choose_33 hl (by decide) rfl (fun ls hl => ?_)
    refine lv_aload_n hx hb dX9_choose_35 rfl (lv_at hl 1 rfl) ?_
    refine lv_aload_n hx hb dX9_choose_36 rfl (lv_at hl 2 rfl) ?_
    refine lv_iload_n hx hb dX9_choose_37 rfl (lv_at hl 3 rfl) ?_
    refine lv_iload hx hb dX9_choose_38 (lv_at hl 5 rfl) ?_
    refine o_ci hw (oRunV cx hA hw q_X9_weigh k_m_X9_86 rfl ha0 (by decide) (As := [.ref a1, .int a2, .int v2]) (c_X9_weigh a0 ha0 a1 ha1 a2 (iv_w ia2 (by decide)) v2 (iv_w i2 (by decide))) (by decide) rfl hl.1 rfl (Nat.le_of_ble_eq_true rfl) dX9_choose_40 (by decide)) (fun v7 σ6 H locs hp hw => ?_)
    have p7_0 := hp
    have fr := oFr_tr fr p7_0 (by decide)
    refine lv_istore (lv' := [(7, .int v7), (6, .int v2), (0, .ref a0), (1, .ref a1), (2, .int a2), (3, .long a3), (5, .int v2)]) hx hb dX9_choose_43 hl (by decide) rfl (fun ls hl => ?_)
    refine lv_iconst (v := 0) hx hb dX9_choose_45 (by decide) ?_
    refine lv_istore (lv' := [(8, .int 0), (7, .int v7), (6, .int v2), (0, .ref a0), (1, .ref a1), (2, .int a2), (3, .long a3), (5, .int v2)]) hx hb dX9_choose_46 hl (by decide) rfl (fun ls hl => ?_)
    have J_48 : ∀ n : Nat, ∀ (j48_6 : Int32) (ij48_6 : Iv j48_6 0 63) (j48_7 : Int32) (j48_8 : Int32) (ij48_8 : Iv j48_8 0 4), (4 - j48_8.toInt).toNat < n → ∀ (σ_48 : oSt) (H : Heap) (locs : List Loc), oI A L τ cy D s.heap σ_48 H locs → oFr τ fs_X9_choose ts_X9_choose σ σ_48 → ∀ (ls : Array Slot), lv_has ls 11 [(0, .ref a0), (1, .ref a1), (2, .int a2), (3, .long a3), (5, .int v2), (6, .int j48_6), (7, .int j48_7), (8, .int j48_8)] → W p l e ({ frames := 2, cells := 0, slots := 0, locals := 49 } : Room) s m args below meth c H locs 0 0 Q (F0 m 48 ls []) := by
      intro n
      induction n with
      | zero => intro j48_6 ij48_6 j48_7 j48_8 ij48_8 hn_48  σ_48 H locs hw fr   ls hl; exact absurd hn_48 (Nat.not_lt_zero _)
      | succ n ih_48 =>
        intro j48_6 ij48_6 j48_7 j48_8 ij48_8 hn_48  σ_48 H locs hw fr   ls hl
        refine lv_iload hx hb dX9_choose_48 (lv_at hl 7 rfl) ?_
        refine lv_iconst (v := 3) hx hb dX9_choose_50 (by decide) ?_
        refine lv_icmp_gt (tgt := 103) hx hb dX9_choose_51 (by decide) (fun c8 => ?_) (fun c8 => ?_)
        · --
          have i9 : Iv j48_8 4 4 := iv_lt2 c8 (⟨by decide, by decide⟩ : Iv 3 3 3) ij48_8 (by decide)
          refine lv_iload hx hb dX9_choose_103 (lv_at hl 5 rfl) ?_
          rw [← hQ]
          exact o_ri cx rx hw dX9_choose_105 ⟨fr, (iv_w ij48_6 (by decide))⟩
        · --
          have i10 : Iv j48_8 0 3 := iv_le1 (iv_nlt c8) ij48_8 (⟨by decide, by decide⟩ : Iv 3 3 3) (by decide)
          refine lv_iload hx hb dX9_choose_54 (lv_at hl 4 rfl) ?_
          refine lv_iload hx hb dX9_choose_56 (lv_at hl 7 rfl) ?_
          refine o_ci hw (oRunS cx hA hw q_X0_next k_m_X9_92 (As := [.int v2, .int j48_8]) (c_X0_next v2 (iv_w i2 (by decide)) j48_8) (by decide) rfl hl.1 rfl (Nat.le_of_ble_eq_true rfl) dX9_choose_58 (by decide)) (fun v12 σ11 H locs hp hw => ?_)
          obtain ⟨p12_0, p12_1⟩ := hp
          rw [p12_0] at hw
          refine lv_istore (lv' := [(9, .int v12), (0, .ref a0), (1, .ref a1), (2, .int a2), (3, .long a3), (5, .int v2), (6, .int j48_6), (7, .int j48_7), (8, .int j48_8)]) hx hb dX9_choose_61 hl (by decide) rfl (fun ls hl => ?_)
          refine lv_lload_n hx hb dX9_choose_63 rfl (lv_at hl 4 rfl) ?_
          refine lv_iload hx hb dX9_choose_64 (lv_at hl 0 rfl) ?_
          refine o_ci hw (oRunS cx hA hw q_X0_has k_m_X9_96 (As := [.long a3, .int v12]) (c_X0_has a3 v12) (by decide) rfl hl.1 rfl (Nat.le_of_ble_eq_true rfl) dX9_choose_66 (by decide)) (fun v14 σ13 H locs hp hw => ?_)
          obtain ⟨p14_0, p14_1, p14_2⟩ := hp
          rw [p14_0] at hw
          have J_97 : ∀ (j97_6 : Int32) (ij97_6 : Iv j97_6 0 63) (j97_7 : Int32), ∀ (σ_97 : oSt) (H : Heap) (locs : List Loc), oI A L τ cy D s.heap σ_97 H locs → oFr τ fs_X9_choose ts_X9_choose σ σ_97 → ∀ (ls : Array Slot), lv_has ls 11 [(0, .ref a0), (1, .ref a1), (2, .int a2), (3, .long a3), (5, .int v2), (6, .int j97_6), (7, .int j97_7), (8, .int j48_8), (9, .int v12)] → W p l e ({ frames := 2, cells := 0, slots := 0, locals := 49 } : Room) s m args below meth c H locs 0 0 Q (F0 m 97 ls []) := by
            intro j97_6 ij97_6 j97_7   σ_97 H locs hw fr   ls hl
            obtain ⟨v15, e15⟩ : ∃ y : Int32, y = j48_8 + 1 := ⟨_, rfl⟩
            have i15 : Iv v15 1 4 := iv_add e15 i10 (⟨by decide, by decide⟩ : Iv 1 1 1) (by decide)
            have x15 : v15.toInt = j48_8.toInt + 1 := ex_add e15 i10 (⟨by decide, by decide⟩ : Iv 1 1 1) (by decide)
            refine lv_iinc (v := v15) (lv' := [(8, .int v15), (0, .ref a0), (1, .ref a1), (2, .int a2), (3, .long a3), (5, .int v2), (6, .int j97_6), (7, .int j97_7), (9, .int v12)]) hx hb dX9_choose_97 hl (k := 7) rfl (by rw [e15]; rfl) (by decide) rfl (fun ls hl => ?_)
            refine lv_goto (tgt := 48) hx hb dX9_choose_100 (by decide) ?_
            exact ih_48 j97_6 ij97_6 j97_7 v15 (iv_w i15 (by decide)) (ms_up x15 (by decide) (iv_w (a' := 0) (b' := 4) i15 (by decide)).2 hn_48) σ_97 _ _ hw fr _ (lv_sub hl [1, 2, 3, 4, 5, 6, 7, 0] rfl)
          refine lv_if_eq (tgt := 97) hx hb dX9_choose_69 (by decide) (fun c16 => ?_) (fun c16 => ?_)
          · --
            have i17 : Iv v14 0 0 := iv_eq1 c16 p14_1 (⟨by decide, by decide⟩ : Iv 0 0 0) (by decide)
            exact J_97 j48_6 ij48_6 j48_7 σ_48 _ _ hw fr _ (lv_sub hl [1, 2, 3, 4, 5, 6, 7, 8, 0] rfl)
          · --
            have i18 : Iv v14 1 1 := iv_ne1 c16 p14_1 (⟨by decide, by decide⟩ : Iv 0 0 0) (by decide)
            have i19 : Iv v12 0 63 := p14_2 c16
            refine lv_aload_n hx hb dX9_choose_72 rfl (lv_at hl 1 rfl) ?_
            refine lv_aload_n hx hb dX9_choose_73 rfl (lv_at hl 2 rfl) ?_
            refine lv_iload_n hx hb dX9_choose_74 rfl (lv_at hl 3 rfl) ?_
            refine lv_iload hx hb dX9_choose_75 (lv_at hl 0 rfl) ?_
            refine o_ci hw (oRunV cx hA hw q_X9_weigh k_m_X9_86 rfl ha0 (by decide) (As := [.ref a1, .int a2, .int v12]) (c_X9_weigh a0 ha0 a1 ha1 a2 (iv_w ia2 (by decide)) v12 (iv_w i19 (by decide))) (by decide) rfl hl.1 rfl (Nat.le_of_ble_eq_true rfl) dX9_choose_77 (by decide)) (fun v21 σ20 H locs hp hw => ?_)
            have p21_0 := hp
            have fr := oFr_tr fr p21_0 (by decide)
            refine lv_istore (lv' := [(10, .int v21), (9, .int v12), (0, .ref a0), (1, .ref a1), (2, .int a2), (3, .long a3), (5, .int v2), (6, .int j48_6), (7, .int j48_7), (8, .int j48_8)]) hx hb dX9_choose_80 hl (by decide) rfl (fun ls hl => ?_)
            refine lv_iload hx hb dX9_choose_82 (lv_at hl 0 rfl) ?_
            refine lv_iload hx hb dX9_choose_84 (lv_at hl 8 rfl) ?_
            refine lv_icmp_le (tgt := 97) hx hb dX9_choose_86 (by decide) (fun c22 => ?_) (fun c22 => ?_)
            · --
              exact J_97 j48_6 ij48_6 j48_7 σ20 _ _ hw fr _ (lv_sub hl [2, 3, 4, 5, 6, 7, 8, 9, 1] rfl)
            · --
              have i23 : Iv j48_7 (-2147483648) 2147483646 := iv_lt1 (iv_nle c22) (iv_top j48_7) (iv_top v21) (by decide)
              have i24 : Iv v21 (-2147483647) 2147483647 := iv_lt2 (iv_nle c22) (iv_top j48_7) (iv_top v21) (by decide)
              refine lv_iload hx hb dX9_choose_89 (lv_at hl 0 rfl) ?_
              refine lv_istore (lv' := [(7, .int v21), (10, .int v21), (9, .int v12), (0, .ref a0), (1, .ref a1), (2, .int a2), (3, .long a3), (5, .int v2), (6, .int j48_6), (8, .int j48_8)]) hx hb dX9_choose_91 hl (by decide) rfl (fun ls hl => ?_)
              refine lv_iload hx hb dX9_choose_93 (lv_at hl 2 rfl) ?_
              refine lv_istore (lv' := [(6, .int v12), (7, .int v21), (10, .int v21), (9, .int v12), (0, .ref a0), (1, .ref a1), (2, .int a2), (3, .long a3), (5, .int v2), (8, .int j48_8)]) hx hb dX9_choose_95 hl (by decide) rfl (fun ls hl => ?_)
              exact J_97 v12 i19 v21 σ20 _ _ hw fr _ (lv_sub hl [4, 5, 6, 7, 8, 0, 1, 9, 3] rfl)
    exact J_48 _ v2 i2 v7 0 (iv_w (⟨by decide, by decide⟩ : Iv 0 0 0) (by decide)) (Nat.lt_succ_self _) σ6 _ _ hw fr _ (lv_sub hl [3, 4, 5, 6, 7, 2, 1, 0] rfl)
  refine lv_if_eq (tgt := 31) hx hb dX9_choose_16 (by decide) (fun c25 => ?_) (fun c25 => ?_)
  · --
    have i26 : Iv v5 0 0 := iv_eq1 c25 i5 (⟨by decide, by decide⟩ : Iv 0 0 0) (by decide)
    exact J_31 σ _ _ hw fr _ (lv_sub hl [1, 2, 3, 4, 0] rfl)
  · --
    have i27 : Iv v5 1 1 := iv_ne1 c25 i5 (⟨by decide, by decide⟩ : Iv 0 0 0) (by decide)
    refine lv_aload_n hx hb dX9_choose_19 rfl (lv_at hl 2 rfl) ?_
    refine g_331 cx hw ha1 k_f_X9_51 dX9_choose_20 (fun v28 e28 => ?_)
    refine lv_iconst (v := 2) hx hb dX9_choose_23 (by decide) ?_
    refine lv_irem hx hb dX9_choose_24 (iv_nz (⟨by decide, by decide⟩ : Iv 2 2 2) (by decide)) ?_
    refine lv_topi (fun v29 e29 => ?_)
    have i29 : Iv v29 (-1) 1 := iv_remA e29 (⟨by decide, by decide⟩ : Iv 2 2 2) (by decide)
    refine lv_if_eq (tgt := 31) hx hb dX9_choose_25 (by decide) (fun c30 => ?_) (fun c30 => ?_)
    · --
      have i31 : Iv v29 0 0 := iv_eq1 c30 i29 (⟨by decide, by decide⟩ : Iv 0 0 0) (by decide)
      exact J_31 σ _ _ hw fr _ (lv_sub hl [1, 2, 3, 4, 0] rfl)
    · --
      refine lv_iload hx hb dX9_choose_28 (lv_at hl 0 rfl) ?_
      rw [← hQ]
      exact o_ri cx rx hw dX9_choose_30 ⟨fr, (iv_w i2 (by decide))⟩
abbrev fs_X10_set : List Nat := [514, 515]
abbrev ts_X10_set : List Nat := []
set_option maxHeartbeats 4000000 in
set_option maxRecDepth 100000 in
theorem c_X10_set (a0 : Nat) (ha0 : oA L τ a0 9) (a1 : Int32) (a2 : Int32) : oMet l A L τ cy D K yX10_set cX10_set 4 (some .int) 0 0 [.ref a0, .int a1, .int a2] σ (va_Qi (fun r σ1 => oFr τ fs_X10_set ts_X10_set σ σ1) (oPo A L τ cy D) A) := by
  refine oMk (by decide) (Nat.le_of_ble_eq_true rfl) rfl ?_
  intro p e s m args below meth c ls cx rx hA hw hl
  generalize hQ : MQ below _ args s 0 0 A = Q
  have hx := cx.1.1
  have hb := cx.1.2.1
  have hml := cx.1.2.2.1
  have hown := cx.1.2.2.2.1
  have hts := cx.1.2.2.2.2
  have hl : lv_has ls 4 [(0, .ref a0), (1, .int a1), (2, .int a2)] := hl
  have fr : oFr τ fs_X10_set ts_X10_set σ σ := oFr_rf
  refine lv_iconst (v := (-1)) hx hb dX10_set_0 (by decide) ?_
  refine lv_istore_n (lv' := [(3, .int (-1)), (0, .ref a0), (1, .int a1), (2, .int a2)]) hx hb dX10_set_1 rfl hl (by decide) rfl (fun ls hl => ?_)
  refine lv_iload_n hx hb dX10_set_2 rfl (lv_at hl 2 rfl) ?_
  have J_35 : ∀ (σ_35 : oSt) (H : Heap) (locs : List Loc), oI A L τ cy D s.heap σ_35 H locs → oFr τ fs_X10_set ts_X10_set σ σ_35 → ∀ (ls : Array Slot), lv_has ls 4 [(0, .ref a0), (1, .int a1), (2, .int a2), (3, .int (-1))] → W p l e ({ frames := 0, cells := 0, slots := 0, locals := 0 } : Room) s m args below meth c H locs 0 0 Q (F0 m 35 ls []) := by
    intro    σ_35 H locs hw fr   ls hl
    refine lv_iload_n hx hb dX10_set_35 rfl (lv_at hl 1 rfl) ?_
    refine lv_iconst (v := 1) hx hb dX10_set_36 (by decide) ?_
    refine lv_icmp_ne (tgt := 67) hx hb dX10_set_37 (by decide) (fun c1 => ?_) (fun c1 => ?_)
    · --
      refine lv_iload_n hx hb dX10_set_67 rfl (lv_at hl 3 rfl) ?_
      rw [← hQ]
      exact o_ri cx rx hw dX10_set_68 fr
    · --
      have i2 : Iv a1 1 1 := iv_eq1 c1 (iv_top a1) (⟨by decide, by decide⟩ : Iv 1 1 1) (by decide)
      refine lv_iload_n hx hb dX10_set_40 rfl (lv_at hl 2 rfl) ?_
      refine lv_iconst (v := 1) hx hb dX10_set_41 (by decide) ?_
      refine lv_icmp_lt (tgt := 67) hx hb dX10_set_42 (by decide) (fun c3 => ?_) (fun c3 => ?_)
      · --
        have i4 : Iv a2 (-2147483648) 0 := iv_lt1 c3 (iv_top a2) (⟨by decide, by decide⟩ : Iv 1 1 1) (by decide)
        refine lv_iload_n hx hb dX10_set_67 rfl (lv_at hl 3 rfl) ?_
        rw [← hQ]
        exact o_ri cx rx hw dX10_set_68 fr
      · --
        have i5 : Iv a2 1 2147483647 := iv_le2 (iv_nlt c3) (⟨by decide, by decide⟩ : Iv 1 1 1) (iv_top a2) (by decide)
        refine lv_iload_n hx hb dX10_set_45 rfl (lv_at hl 2 rfl) ?_
        refine lv_bipush (v := 99) hx hb dX10_set_46 (by decide) ?_
        refine lv_icmp_gt (tgt := 67) hx hb dX10_set_48 (by decide) (fun c6 => ?_) (fun c6 => ?_)
        · --
          have i7 : Iv a2 100 2147483647 := iv_lt2 c6 (⟨by decide, by decide⟩ : Iv 99 99 99) i5 (by decide)
          refine lv_iload_n hx hb dX10_set_67 rfl (lv_at hl 3 rfl) ?_
          rw [← hQ]
          exact o_ri cx rx hw dX10_set_68 fr
        · --
          have i8 : Iv a2 1 99 := iv_le1 (iv_nlt c6) i5 (⟨by decide, by decide⟩ : Iv 99 99 99) (by decide)
          refine lv_aload_n hx hb dX10_set_51 rfl (lv_at hl 0 rfl) ?_
          refine g_580 cx hw ha0 k_f_X10_42 dX10_set_52 (fun v9 e9 h9 => ?_)
          refine g_515 cx hw h9 k_f_X10_203 dX10_set_55 (fun v10 e10 => ?_)
          refine lv_istore_n (lv' := [(3, .int v10), (0, .ref a0), (1, .int a1), (2, .int a2)]) hx hb dX10_set_58 rfl hl (by decide) rfl (fun ls hl => ?_)
          refine lv_aload_n hx hb dX10_set_59 rfl (lv_at hl 1 rfl) ?_
          refine g_580 cx hw ha0 k_f_X10_42 dX10_set_60 (fun v11 e11 h11 => ?_)
          rw [show v11 = v9 from Option.some.inj (e11.symm.trans (e9))]
          refine lv_iload_n hx hb dX10_set_63 rfl (lv_at hl 3 rfl) ?_
          refine p_515 cx hw h9 k_f_X10_203 dX10_set_64 (fun σ12 H locs eσ12 hw => ?_)
          have fr := oFr_i fr eσ12 (by decide)
          refine lv_iload_n hx hb dX10_set_67 rfl (lv_at hl 0 rfl) ?_
          rw [← hQ]
          exact o_ri cx rx hw dX10_set_68 fr
  refine lv_if_ne (tgt := 35) hx hb dX10_set_3 (by decide) (fun c13 => ?_) (fun c13 => ?_)
  · --
    exact J_35 σ _ _ hw fr _ (lv_sub hl [1, 2, 3, 0] rfl)
  · --
    have i14 : Iv a1 0 0 := iv_eq1 c13 (iv_top a1) (⟨by decide, by decide⟩ : Iv 0 0 0) (by decide)
    refine lv_iload_n hx hb dX10_set_6 rfl (lv_at hl 3 rfl) ?_
    refine lv_if_lt (tgt := 35) hx hb dX10_set_7 (by decide) (fun c15 => ?_) (fun c15 => ?_)
    · --
      have i16 : Iv a2 (-2147483648) (-1) := iv_lt1 c15 (iv_top a2) (⟨by decide, by decide⟩ : Iv 0 0 0) (by decide)
      exact J_35 σ _ _ hw fr _ (lv_sub hl [1, 2, 3, 0] rfl)
    · --
      have i17 : Iv a2 0 2147483647 := iv_le2 (iv_nlt c15) (⟨by decide, by decide⟩ : Iv 0 0 0) (iv_top a2) (by decide)
      refine lv_iload_n hx hb dX10_set_10 rfl (lv_at hl 3 rfl) ?_
      refine lv_bipush (v := 99) hx hb dX10_set_11 (by decide) ?_
      refine lv_icmp_gt (tgt := 35) hx hb dX10_set_13 (by decide) (fun c18 => ?_) (fun c18 => ?_)
      · --
        have i19 : Iv a2 100 2147483647 := iv_lt2 c18 (⟨by decide, by decide⟩ : Iv 99 99 99) i17 (by decide)
        exact J_35 σ _ _ hw fr _ (lv_sub hl [1, 2, 3, 0] rfl)
      · --
        have i20 : Iv a2 0 99 := iv_le1 (iv_nlt c18) i17 (⟨by decide, by decide⟩ : Iv 99 99 99) (by decide)
        refine lv_aload_n hx hb dX10_set_16 rfl (lv_at hl 1 rfl) ?_
        refine g_580 cx hw ha0 k_f_X10_42 dX10_set_17 (fun v21 e21 h21 => ?_)
        refine g_514 cx hw h21 k_f_X10_167 dX10_set_20 (fun v22 e22 => ?_)
        refine lv_istore_n (lv' := [(3, .int v22), (0, .ref a0), (1, .int a1), (2, .int a2)]) hx hb dX10_set_23 rfl hl (by decide) rfl (fun ls hl => ?_)
        refine lv_aload_n hx hb dX10_set_24 rfl (lv_at hl 1 rfl) ?_
        refine g_580 cx hw ha0 k_f_X10_42 dX10_set_25 (fun v23 e23 h23 => ?_)
        rw [show v23 = v21 from Option.some.inj (e23.symm.trans (e21))]
        refine lv_iload_n hx hb dX10_set_28 rfl (lv_at hl 3 rfl) ?_
        refine p_514 cx hw h21 k_f_X10_167 dX10_set_29 (fun σ24 H locs eσ24 hw => ?_)
        have fr := oFr_i fr eσ24 (by decide)
        refine lv_goto (tgt := 67) hx hb dX10_set_32 (by decide) ?_
        refine lv_iload_n hx hb dX10_set_67 rfl (lv_at hl 0 rfl) ?_
        rw [← hQ]
        exact o_ri cx rx hw dX10_set_68 fr
set_option maxHeartbeats 4000000 in
set_option maxRecDepth 100000 in
theorem c_X10_greedOf (a0 : Int32) (a1 : Int32) : oMet l A L τ cy D K yX10_greedOf cX10_greedOf 3 (some .int) 1 40 [.int a0, .int a1] σ (va_Qi (fun r σ1 => σ1 = σ ∧ Iv r 0 9) (oPo A L τ cy D) A) := by
  refine oMk (by decide) (Nat.le_of_ble_eq_true rfl) rfl ?_
  intro p e s m args below meth c ls cx rx hA hw hl
  generalize hQ : MQ below _ args s 0 0 A = Q
  have hx := cx.1.1
  have hb := cx.1.2.1
  have hml := cx.1.2.2.1
  have hown := cx.1.2.2.2.1
  have hts := cx.1.2.2.2.2
  have hl : lv_has ls 3 [(0, .int a0), (1, .int a1)] := hl
  refine lv_iload_n hx hb dX10_greedOf_0 rfl (lv_at hl 1 rfl) ?_
  refine lv_istore_n (lv' := [(2, .int a1), (0, .int a0), (1, .int a1)]) hx hb dX10_greedOf_1 rfl hl (by decide) rfl (fun ls hl => ?_)
  refine lv_iload_n hx hb dX10_greedOf_2 rfl (lv_at hl 1 rfl) ?_
  have J_20 : ∀ (j20_2 : Int32), ∀ (H : Heap) (locs : List Loc), oI A L τ cy D s.heap σ H locs → ∀ (ls : Array Slot), lv_has ls 3 [(0, .int a0), (1, .int a1), (2, .int j20_2)] → W p l e ({ frames := 1, cells := 0, slots := 0, locals := 40 } : Room) s m args below meth c H locs 0 0 Q (F0 m 20 ls []) := by
    intro j20_2   H locs hw  ls hl
    refine lv_iconst (v := 0) hx hb dX10_greedOf_20 (by decide) ?_
    refine lv_bipush (v := 9) hx hb dX10_greedOf_21 (by decide) ?_
    refine lv_iload_n hx hb dX10_greedOf_23 rfl (lv_at hl 2 rfl) ?_
    refine va_mmin hx hb (hml.trans hl.1.symm) hown (hts _ k_m_X10_212) (hts _ k_s_J9_min_7cf53) (hts _ k_i_J9) (hts _ k_code_J9_min_7cf53) (by decide) (Nat.le_of_ble_eq_true rfl) (by decide) (by decide) dX10_greedOf_24 ?_
    refine lv_topi (fun v1 e1 => ?_)
    have i1 : Iv v1 (-2147483648) 9 := iv_min e1 (⟨by decide, by decide⟩ : Iv 9 9 9) (iv_top j20_2) (by decide)
    refine va_mmax hx hb (hml.trans hl.1.symm) hown (hts _ k_m_X10_217) (hts _ k_s_J9_max_7cf53) (hts _ k_i_J9) (hts _ k_code_J9_max_7cf53) (by decide) (Nat.le_of_ble_eq_true rfl) (by decide) (by decide) dX10_greedOf_27 ?_
    refine lv_topi (fun v2 e2 => ?_)
    have i2 : Iv v2 0 9 := iv_max e2 (⟨by decide, by decide⟩ : Iv 0 0 0) i1 (by decide)
    rw [← hQ]
    exact o_ri cx rx hw dX10_greedOf_30 ⟨rfl, (iv_w i2 (by decide))⟩
  refine lv_if_ne (tgt := 12) hx hb dX10_greedOf_3 (by decide) (fun c3 => ?_) (fun c3 => ?_)
  · --
    refine lv_iload_n hx hb dX10_greedOf_12 rfl (lv_at hl 1 rfl) ?_
    refine lv_iconst (v := 1) hx hb dX10_greedOf_13 (by decide) ?_
    refine lv_icmp_ne (tgt := 20) hx hb dX10_greedOf_14 (by decide) (fun c4 => ?_) (fun c4 => ?_)
    · --
      exact J_20 a1 _ _ hw _ (lv_sub hl [1, 2, 0] rfl)
    · --
      have i5 : Iv a0 1 1 := iv_eq1 c4 (iv_top a0) (⟨by decide, by decide⟩ : Iv 1 1 1) (by decide)
      refine lv_iload_n hx hb dX10_greedOf_17 rfl (lv_at hl 2 rfl) ?_
      refine lv_i2s hx hb dX10_greedOf_18 rfl ?_
      refine lv_topi (fun v6 e6 => ?_)
      refine lv_istore_n (lv' := [(2, .int v6), (0, .int a0), (1, .int a1)]) hx hb dX10_greedOf_19 rfl hl (by decide) rfl (fun ls hl => ?_)
      exact J_20 v6 _ _ hw _ (lv_sub hl [1, 2, 0] rfl)
  · --
    have i7 : Iv a0 0 0 := iv_eq1 c3 (iv_top a0) (⟨by decide, by decide⟩ : Iv 0 0 0) (by decide)
    refine lv_iload_n hx hb dX10_greedOf_6 rfl (lv_at hl 2 rfl) ?_
    refine lv_i2b hx hb dX10_greedOf_7 rfl ?_
    refine lv_topi (fun v8 e8 => ?_)
    refine lv_istore_n (lv' := [(2, .int v8), (0, .int a0), (1, .int a1)]) hx hb dX10_greedOf_8 rfl hl (by decide) rfl (fun ls hl => ?_)
    refine lv_goto (tgt := 20) hx hb dX10_greedOf_9 (by decide) ?_
    exact J_20 v8 _ _ hw _ (lv_sub hl [1, 2, 0] rfl)
abbrev fs_X10_sheet : List Nat := []
abbrev ts_X10_sheet : List Nat := [34]
set_option maxHeartbeats 4000000 in
set_option maxRecDepth 100000 in
theorem c_X10_sheet (a0 : Nat) (ha0 : oA L τ a0 9) (a1 : Int32) (a2 : Int32) (a3 : Int32) (a4 : Int32) : oMet l A L τ cy D K yX10_sheet cX10_sheet 8 (some .int) 2 62 [.ref a0, .int a1, .int a2, .int a3, .int a4] σ (va_Qi (fun r σ1 => oFr τ fs_X10_sheet ts_X10_sheet σ σ1) (oPo A L τ cy D) A) := by
  refine oMk (by decide) (Nat.le_of_ble_eq_true rfl) rfl ?_
  intro p e s m args below meth c ls cx rx hA hw hl
  generalize hQ : MQ below _ args s 0 0 A = Q
  have hx := cx.1.1
  have hb := cx.1.2.1
  have hml := cx.1.2.2.1
  have hown := cx.1.2.2.2.1
  have hts := cx.1.2.2.2.2
  have hl : lv_has ls 8 [(0, .ref a0), (1, .int a1), (2, .int a2), (3, .int a3), (4, .int a4)] := hl
  have fr : oFr τ fs_X10_sheet ts_X10_sheet σ σ := oFr_rf
  refine lv_iload_n hx hb dX10_sheet_0 rfl (lv_at hl 1 rfl) ?_
  refine lv_if_lt (tgt := 15) hx hb dX10_sheet_1 (by decide) (fun c1 => ?_) (fun c1 => ?_)
  · --
    have i2 : Iv a1 (-2147483648) (-1) := iv_lt1 c1 (iv_top a1) (⟨by decide, by decide⟩ : Iv 0 0 0) (by decide)
    refine lv_iconst (v := (-1)) hx hb dX10_sheet_15 (by decide) ?_
    rw [← hQ]
    exact o_ri cx rx hw dX10_sheet_16 fr
  · --
    have i3 : Iv a1 0 2147483647 := iv_le2 (iv_nlt c1) (⟨by decide, by decide⟩ : Iv 0 0 0) (iv_top a1) (by decide)
    refine lv_iload_n hx hb dX10_sheet_4 rfl (lv_at hl 1 rfl) ?_
    refine lv_iconst (v := 3) hx hb dX10_sheet_5 (by decide) ?_
    refine lv_icmp_gt (tgt := 15) hx hb dX10_sheet_6 (by decide) (fun c4 => ?_) (fun c4 => ?_)
    · --
      have i5 : Iv a1 4 2147483647 := iv_lt2 c4 (⟨by decide, by decide⟩ : Iv 3 3 3) i3 (by decide)
      refine lv_iconst (v := (-1)) hx hb dX10_sheet_15 (by decide) ?_
      rw [← hQ]
      exact o_ri cx rx hw dX10_sheet_16 fr
    · --
      have i6 : Iv a1 0 3 := iv_le1 (iv_nlt c4) i3 (⟨by decide, by decide⟩ : Iv 3 3 3) (by decide)
      refine lv_iload_n hx hb dX10_sheet_9 rfl (lv_at hl 2 rfl) ?_
      refine lv_bipush (v := 6) hx hb dX10_sheet_10 (by decide) ?_
      refine lv_icmp_le (tgt := 17) hx hb dX10_sheet_12 (by decide) (fun c7 => ?_) (fun c7 => ?_)
      · --
        have i8 : Iv a2 (-2147483648) 6 := iv_le1 c7 (iv_top a2) (⟨by decide, by decide⟩ : Iv 6 6 6) (by decide)
        refine lv_iload_n hx hb dX10_sheet_17 rfl (lv_at hl 1 rfl) ?_
        refine lv_iconst (v := 3) hx hb dX10_sheet_18 (by decide) ?_
        have J_29 : ∀ (σ_29 : oSt) (H : Heap) (locs : List Loc), oI A L τ cy D s.heap σ_29 H locs → oFr τ fs_X10_sheet ts_X10_sheet σ σ_29 → ∀ (ls : Array Slot), lv_has ls 8 [(0, .ref a0), (1, .int a1), (2, .int a2), (3, .int a3), (4, .int a4)] → W p l e ({ frames := 2, cells := 0, slots := 0, locals := 62 } : Room) s m args below meth c H locs 0 0 Q (F0 m 29 ls []) := by
          intro    σ_29 H locs hw fr   ls hl
          refine lv_iconst (v := 0) hx hb dX10_sheet_29 (by decide) ?_
          refine lv_istore (lv' := [(5, .int 0), (0, .ref a0), (1, .int a1), (2, .int a2), (3, .int a3), (4, .int a4)]) hx hb dX10_sheet_30 hl (by decide) rfl (fun ls hl => ?_)
          refine lv_iconst (v := 0) hx hb dX10_sheet_32 (by decide) ?_
          refine lv_istore (lv' := [(6, .int 0), (5, .int 0), (0, .ref a0), (1, .int a1), (2, .int a2), (3, .int a3), (4, .int a4)]) hx hb dX10_sheet_33 hl (by decide) rfl (fun ls hl => ?_)
          have J_35 : ∀ n : Nat, ∀ (j35_5 : Int32) (j35_6 : Int32) (ij35_6 : Iv j35_6 0 6), (6 - j35_6.toInt).toNat < n → ∀ (σ_35 : oSt) (H : Heap) (locs : List Loc), oI A L τ cy D s.heap σ_35 H locs → oFr τ fs_X10_sheet ts_X10_sheet σ σ_35 → ∀ (ls : Array Slot), lv_has ls 8 [(0, .ref a0), (1, .int a1), (2, .int a2), (3, .int a3), (4, .int a4), (5, .int j35_5), (6, .int j35_6)] → W p l e ({ frames := 2, cells := 0, slots := 0, locals := 62 } : Room) s m args below meth c H locs 0 0 Q (F0 m 35 ls []) := by
            intro n
            induction n with
            | zero => intro j35_5 j35_6 ij35_6 hn_35  σ_35 H locs hw fr   ls hl; exact absurd hn_35 (Nat.not_lt_zero _)
            | succ n ih_35 =>
              intro j35_5 j35_6 ij35_6 hn_35  σ_35 H locs hw fr   ls hl
              refine lv_iload hx hb dX10_sheet_35 (lv_at hl 6 rfl) ?_
              refine lv_aload_n hx hb dX10_sheet_37 rfl (lv_at hl 0 rfl) ?_
              refine g_581 cx hw ha0 k_f_X10_49 dX10_sheet_38 (fun v9 e9 h9 => ?_)
              refine g_327 cx hw h9 k_f_X10_206 dX10_sheet_41 (fun v10 e10 i10 => ?_)
              refine lv_icmp_ge (tgt := 116) hx hb dX10_sheet_44 (by decide) (fun c11 => ?_) (fun c11 => ?_)
              · --
                refine lv_iload_n hx hb dX10_sheet_116 rfl (lv_at hl 1 rfl) ?_
                refine lv_iconst (v := 3) hx hb dX10_sheet_117 (by decide) ?_
                refine lv_icmp_ne (tgt := 126) hx hb dX10_sheet_118 (by decide) (fun c12 => ?_) (fun c12 => ?_)
                · --
                  have i13 : Iv a1 0 2 := iv_ne2 c12 i6 (⟨by decide, by decide⟩ : Iv 3 3 3) (by decide)
                  refine lv_iload hx hb dX10_sheet_126 (lv_at hl 5 rfl) ?_
                  rw [← hQ]
                  exact o_ri cx rx hw dX10_sheet_128 fr
                · --
                  have i14 : Iv a1 3 3 := iv_eq1 c12 i6 (⟨by decide, by decide⟩ : Iv 3 3 3) (by decide)
                  refine lv_bipush (v := (-3)) hx hb dX10_sheet_121 (by decide) ?_
                  refine lv_goto (tgt := 128) hx hb dX10_sheet_123 (by decide) ?_
                  rw [← hQ]
                  exact o_ri cx rx hw dX10_sheet_128 fr
              · --
                have i15 : Iv j35_6 0 5 := iv_lt1 (iv_nle c11) ij35_6 i10 (by decide)
                have i16 : Iv v10 1 6 := iv_lt2 (iv_nle c11) ij35_6 i10 (by decide)
                refine lv_iload_n hx hb dX10_sheet_47 rfl (lv_at hl 1 rfl) ?_
                refine lv_iconst (v := 3) hx hb dX10_sheet_48 (by decide) ?_
                have J_63 : ∀ (k63_0 : Int32) (ik63_0 : Iv k63_0 0 1), ∀ (σ_63 : oSt) (H : Heap) (locs : List Loc), oI A L τ cy D s.heap σ_63 H locs → oFr τ fs_X10_sheet ts_X10_sheet σ σ_63 → ∀ (ls : Array Slot), lv_has ls 8 [(0, .ref a0), (1, .int a1), (2, .int a2), (3, .int a3), (4, .int a4), (5, .int j35_5), (6, .int j35_6)] → W p l e ({ frames := 2, cells := 0, slots := 0, locals := 62 } : Room) s m args below meth c H locs 0 0 Q (F0 m 63 ls [.int k63_0]) := by
                  intro k63_0 ik63_0   σ_63 H locs hw fr   ls hl
                  refine lv_istore (lv' := [(7, .int k63_0), (0, .ref a0), (1, .int a1), (2, .int a2), (3, .int a3), (4, .int a4), (5, .int j35_5), (6, .int j35_6)]) hx hb dX10_sheet_63 hl (by decide) rfl (fun ls hl => ?_)
                  refine lv_aload_n hx hb dX10_sheet_65 rfl (lv_at hl 1 rfl) ?_
                  refine g_581 cx hw ha0 k_f_X10_49 dX10_sheet_66 (fun v17 e17 h17 => ?_)
                  refine g_326 cx hw h17 k_f_X10_186 dX10_sheet_69 (fun v18 e18 h18 => ?_)
                  refine lv_iload hx hb dX10_sheet_72 (lv_at hl 7 rfl) ?_
                  refine lv_iload hx hb dX10_sheet_74 (lv_at hl 0 rfl) ?_
                  have J_94 : ∀ (k94_2 : Int32) (ik94_2 : Iv k94_2 0 9), ∀ (σ_94 : oSt) (H : Heap) (locs : List Loc), oI A L τ cy D s.heap σ_94 H locs → oFr τ fs_X10_sheet ts_X10_sheet σ σ_94 → ∀ (ls : Array Slot), lv_has ls 8 [(0, .ref a0), (1, .int a1), (2, .int a2), (3, .int a3), (4, .int a4), (5, .int j35_5), (6, .int j35_6), (7, .int k63_0)] → W p l e ({ frames := 2, cells := 0, slots := 0, locals := 62 } : Room) s m args below meth c H locs 0 0 Q (F0 m 94 ls [.int k94_2, .int j35_6, .ref v18]) := by
                    intro k94_2 ik94_2   σ_94 H locs hw fr   ls hl
                    refine o_iast cx hw h18 (by decide) rfl (iv_in i15 (by decide)) trivial dX10_sheet_94 (fun σ19 H locs eσ19 hw => ?_)
                    have fr := oFr_p fr eσ19 h18 (by decide)
                    refine lv_iload hx hb dX10_sheet_95 (lv_at hl 5 rfl) ?_
                    refine lv_aload_n hx hb dX10_sheet_97 rfl (lv_at hl 0 rfl) ?_
                    refine g_581 cx hw ha0 k_f_X10_49 dX10_sheet_98 (fun v20 e20 h20 => ?_)
                    refine g_326 cx hw h20 k_f_X10_186 dX10_sheet_101 (fun v21 e21 h21 => ?_)
                    refine lv_iload hx hb dX10_sheet_104 (lv_at hl 6 rfl) ?_
                    refine o_iald cx hw h21 (by decide) rfl (iv_in i15 (by decide)) dX10_sheet_106 (fun v22 e22 b22 => ?_)
                    refine lv_iadd hx hb dX10_sheet_107 ?_
                    refine lv_topi (fun v23 e23 => ?_)
                    refine lv_istore (lv' := [(5, .int v23), (0, .ref a0), (1, .int a1), (2, .int a2), (3, .int a3), (4, .int a4), (6, .int j35_6), (7, .int k63_0)]) hx hb dX10_sheet_108 hl (by decide) rfl (fun ls hl => ?_)
                    obtain ⟨v24, e24⟩ : ∃ y : Int32, y = j35_6 + 1 := ⟨_, rfl⟩
                    have i24 : Iv v24 1 6 := iv_add e24 i15 (⟨by decide, by decide⟩ : Iv 1 1 1) (by decide)
                    have x24 : v24.toInt = j35_6.toInt + 1 := ex_add e24 i15 (⟨by decide, by decide⟩ : Iv 1 1 1) (by decide)
                    refine lv_iinc (v := v24) (lv' := [(6, .int v24), (5, .int v23), (0, .ref a0), (1, .int a1), (2, .int a2), (3, .int a3), (4, .int a4), (7, .int k63_0)]) hx hb dX10_sheet_110 hl (k := 6) rfl (by rw [e24]; rfl) (by decide) rfl (fun ls hl => ?_)
                    refine lv_goto (tgt := 35) hx hb dX10_sheet_113 (by decide) ?_
                    exact ih_35 v23 v24 (iv_w i24 (by decide)) (ms_up x24 (by decide) (iv_w (a' := 0) (b' := 6) i24 (by decide)).2 hn_35) σ19 _ _ hw fr _ (lv_sub hl [2, 3, 4, 5, 6, 1, 0] rfl)
                  refine lv_if_eq (tgt := 93) hx hb dX10_sheet_76 (by decide) (fun c25 => ?_) (fun c25 => ?_)
                  · --
                    have i26 : Iv k63_0 0 0 := iv_eq1 c25 ik63_0 (⟨by decide, by decide⟩ : Iv 0 0 0) (by decide)
                    refine lv_iconst (v := 0) hx hb dX10_sheet_93 (by decide) ?_
                    exact J_94 0 (iv_w (⟨by decide, by decide⟩ : Iv 0 0 0) (by decide)) σ_63 _ _ hw fr _ (lv_sub hl [1, 2, 3, 4, 5, 6, 7, 0] rfl)
                  · --
                    have i27 : Iv k63_0 1 1 := iv_ne1 c25 ik63_0 (⟨by decide, by decide⟩ : Iv 0 0 0) (by decide)
                    refine lv_iload_n hx hb dX10_sheet_79 rfl (lv_at hl 2 rfl) ?_
                    refine lv_iload_n hx hb dX10_sheet_80 rfl (lv_at hl 4 rfl) ?_
                    refine lv_iload hx hb dX10_sheet_81 (lv_at hl 7 rfl) ?_
                    refine lv_iload hx hb dX10_sheet_83 (lv_at hl 5 rfl) ?_
                    refine lv_imul hx hb dX10_sheet_85 ?_
                    refine lv_topi (fun v28 e28 => ?_)
                    refine lv_iadd hx hb dX10_sheet_86 ?_
                    refine lv_topi (fun v29 e29 => ?_)
                    refine o_ci hw (oRunS cx hA hw q_X10_greedOf k_m_X10_209 (As := [.int a1, .int v29]) (c_X10_greedOf a1 v29) (by decide) rfl hl.1 rfl (Nat.le_of_ble_eq_true rfl) dX10_sheet_87 (by decide)) (fun v31 σ30 H locs hp hw => ?_)
                    obtain ⟨p31_0, p31_1⟩ := hp
                    rw [p31_0] at hw
                    refine lv_goto (tgt := 94) hx hb dX10_sheet_90 (by decide) ?_
                    exact J_94 v31 p31_1 σ_63 _ _ hw fr _ (lv_sub hl [1, 2, 3, 4, 5, 6, 7, 0] rfl)
                have J_62 : ∀ (σ_62 : oSt) (H : Heap) (locs : List Loc), oI A L τ cy D s.heap σ_62 H locs → oFr τ fs_X10_sheet ts_X10_sheet σ σ_62 → ∀ (ls : Array Slot), lv_has ls 8 [(0, .ref a0), (1, .int a1), (2, .int a2), (3, .int a3), (4, .int a4), (5, .int j35_5), (6, .int j35_6)] → W p l e ({ frames := 2, cells := 0, slots := 0, locals := 62 } : Room) s m args below meth c H locs 0 0 Q (F0 m 62 ls []) := by
                  intro    σ_62 H locs hw fr   ls hl
                  refine lv_iconst (v := 0) hx hb dX10_sheet_62 (by decide) ?_
                  exact J_63 0 (iv_w (⟨by decide, by decide⟩ : Iv 0 0 0) (by decide)) σ_62 _ _ hw fr _ (lv_sub hl [0, 1, 2, 3, 4, 5, 6] rfl)
                refine lv_icmp_eq (tgt := 62) hx hb dX10_sheet_49 (by decide) (fun c32 => ?_) (fun c32 => ?_)
                · --
                  have i33 : Iv a1 3 3 := iv_eq1 c32 i6 (⟨by decide, by decide⟩ : Iv 3 3 3) (by decide)
                  exact J_62 σ_35 _ _ hw fr _ (lv_sub hl [0, 1, 2, 3, 4, 5, 6] rfl)
                · --
                  have i34 : Iv a1 0 2 := iv_ne2 c32 i6 (⟨by decide, by decide⟩ : Iv 3 3 3) (by decide)
                  refine lv_iload hx hb dX10_sheet_52 (lv_at hl 6 rfl) ?_
                  refine lv_iload_n hx hb dX10_sheet_54 rfl (lv_at hl 2 rfl) ?_
                  refine lv_icmp_ge (tgt := 62) hx hb dX10_sheet_55 (by decide) (fun c35 => ?_) (fun c35 => ?_)
                  · --
                    have i36 : Iv a2 (-2147483648) 5 := iv_le1 c35 i8 i15 (by decide)
                    exact J_62 σ_35 _ _ hw fr _ (lv_sub hl [0, 1, 2, 3, 4, 5, 6] rfl)
                  · --
                    have i37 : Iv a2 1 6 := iv_lt2 (iv_nle c35) i15 i8 (by decide)
                    refine lv_iconst (v := 1) hx hb dX10_sheet_58 (by decide) ?_
                    refine lv_goto (tgt := 63) hx hb dX10_sheet_59 (by decide) ?_
                    exact J_63 1 (iv_w (⟨by decide, by decide⟩ : Iv 1 1 1) (by decide)) σ_35 _ _ hw fr _ (lv_sub hl [0, 1, 2, 3, 4, 5, 6] rfl)
          exact J_35 _ 0 0 (iv_w (⟨by decide, by decide⟩ : Iv 0 0 0) (by decide)) (Nat.lt_succ_self _) σ_29 _ _ hw fr _ (lv_sub hl [2, 3, 4, 5, 6, 1, 0] rfl)
        refine lv_icmp_eq (tgt := 29) hx hb dX10_sheet_19 (by decide) (fun c38 => ?_) (fun c38 => ?_)
        · --
          have i39 : Iv a1 3 3 := iv_eq1 c38 i6 (⟨by decide, by decide⟩ : Iv 3 3 3) (by decide)
          exact J_29 σ _ _ hw fr _ (lv_sub hl [0, 1, 2, 3, 4] rfl)
        · --
          have i40 : Iv a1 0 2 := iv_ne2 c38 i6 (⟨by decide, by decide⟩ : Iv 3 3 3) (by decide)
          refine lv_iload_n hx hb dX10_sheet_22 rfl (lv_at hl 2 rfl) ?_
          refine lv_if_ge (tgt := 29) hx hb dX10_sheet_23 (by decide) (fun c41 => ?_) (fun c41 => ?_)
          · --
            have i42 : Iv a2 0 6 := iv_le2 c41 (⟨by decide, by decide⟩ : Iv 0 0 0) i8 (by decide)
            exact J_29 σ _ _ hw fr _ (lv_sub hl [0, 1, 2, 3, 4] rfl)
          · --
            have i43 : Iv a2 (-2147483648) (-1) := iv_lt1 (iv_nle c41) i8 (⟨by decide, by decide⟩ : Iv 0 0 0) (by decide)
            refine lv_bipush (v := (-2)) hx hb dX10_sheet_26 (by decide) ?_
            rw [← hQ]
            exact o_ri cx rx hw dX10_sheet_28 fr
      · --
        have i44 : Iv a2 7 2147483647 := iv_lt2 (iv_nle c7) (⟨by decide, by decide⟩ : Iv 6 6 6) (iv_top a2) (by decide)
        refine lv_iconst (v := (-1)) hx hb dX10_sheet_15 (by decide) ?_
        rw [← hQ]
        exact o_ri cx rx hw dX10_sheet_16 fr
abbrev fs_X10_lay : List Nat := []
abbrev ts_X10_lay : List Nat := [32]
set_option maxHeartbeats 4000000 in
set_option maxRecDepth 100000 in
theorem c_X10_lay (a0 : Nat) (ha0 : oA L τ a0 9) (a1 : Nat) (ha1 : oA L τ a1 32) (a2 : Int32) (a3 : Int32) : oMet l A L τ cy D K yX10_lay cX10_lay 5 (some .int) 2 43 [.ref a0, .ref a1, .int a2, .int a3] σ (va_Qi (fun r σ1 => oFr τ fs_X10_lay ts_X10_lay σ σ1) (oPo A L τ cy D) A) := by
  refine oMk (by decide) (Nat.le_of_ble_eq_true rfl) rfl ?_
  intro p e s m args below meth c ls cx rx hA hw hl
  generalize hQ : MQ below _ args s 0 0 A = Q
  have hx := cx.1.1
  have hb := cx.1.2.1
  have hml := cx.1.2.2.1
  have hown := cx.1.2.2.2.1
  have hts := cx.1.2.2.2.2
  have hl : lv_has ls 5 [(0, .ref a0), (1, .ref a1), (2, .int a2), (3, .int a3)] := hl
  have fr : oFr τ fs_X10_lay ts_X10_lay σ σ := oFr_rf
  refine lv_aload_n hx hb dX10_lay_0 rfl (lv_at hl 0 rfl) ?_
  refine g_578 cx hw ha0 k_f_X10_26 dX10_lay_1 (fun v1 e1 h1 => ?_)
  refine lv_iload_n hx hb dX10_lay_4 rfl (lv_at hl 2 rfl) ?_
  refine o_ci hw (oRunV cx hA hw q_X2_isThere k_m_X10_135 rfl h1 (by decide) (As := [.int a2]) (c_X2_isThere v1 h1 a2) (by decide) rfl hl.1 rfl (Nat.le_of_ble_eq_true rfl) dX10_lay_5 (by decide)) (fun v3 σ2 H locs hp hw => ?_)
  obtain ⟨p3_0, p3_1, p3_2⟩ := hp
  rw [p3_0] at hw
  refine lv_if_ne (tgt := 13) hx hb dX10_lay_8 (by decide) (fun c4 => ?_) (fun c4 => ?_)
  · --
    have i5 : Iv v3 1 1 := iv_ne1 c4 p3_1 (⟨by decide, by decide⟩ : Iv 0 0 0) (by decide)
    have i6 : Iv a2 0 63 := p3_2 c4
    refine lv_aload_n hx hb dX10_lay_13 rfl (lv_at hl 0 rfl) ?_
    refine g_578 cx hw ha0 k_f_X10_26 dX10_lay_14 (fun v7 e7 h7 => ?_)
    rw [show v7 = v1 from Option.some.inj (e7.symm.trans (e1))]
    refine lv_iload_n hx hb dX10_lay_17 rfl (lv_at hl 2 rfl) ?_
    refine o_ci hw (oRunV cx hA hw q_X2_isPlain k_m_X10_241 rfl h1 (by decide) (As := [.int a2]) (c_X2_isPlain v1 h1 a2) (by decide) rfl hl.1 rfl (Nat.le_of_ble_eq_true rfl) dX10_lay_18 (by decide)) (fun v9 σ8 H locs hp hw => ?_)
    obtain ⟨p9_0, p9_1, p9_2⟩ := hp
    rw [p9_0] at hw
    refine lv_if_ne (tgt := 27) hx hb dX10_lay_21 (by decide) (fun c10 => ?_) (fun c10 => ?_)
    · --
      have i11 : Iv v9 1 1 := iv_ne1 c10 p9_1 (⟨by decide, by decide⟩ : Iv 0 0 0) (by decide)
      have i12 : Iv a2 0 63 := p9_2 c10
      refine lv_iload_n hx hb dX10_lay_27 rfl (lv_at hl 3 rfl) ?_
      refine lv_if_lt (tgt := 37) hx hb dX10_lay_28 (by decide) (fun c13 => ?_) (fun c13 => ?_)
      · --
        have i14 : Iv a3 (-2147483648) (-1) := iv_lt1 c13 (iv_top a3) (⟨by decide, by decide⟩ : Iv 0 0 0) (by decide)
        refine lv_iconst (v := (-1)) hx hb dX10_lay_37 (by decide) ?_
        rw [← hQ]
        exact o_ri cx rx hw dX10_lay_38 fr
      · --
        have i15 : Iv a3 0 2147483647 := iv_le2 (iv_nlt c13) (⟨by decide, by decide⟩ : Iv 0 0 0) (iv_top a3) (by decide)
        refine lv_iload_n hx hb dX10_lay_31 rfl (lv_at hl 3 rfl) ?_
        refine lv_bipush (v := 9) hx hb dX10_lay_32 (by decide) ?_
        refine lv_icmp_le (tgt := 39) hx hb dX10_lay_34 (by decide) (fun c16 => ?_) (fun c16 => ?_)
        · --
          have i17 : Iv a3 0 9 := iv_le1 c16 i15 (⟨by decide, by decide⟩ : Iv 9 9 9) (by decide)
          refine lv_aload_n hx hb dX10_lay_39 rfl (lv_at hl 1 rfl) ?_
          refine lv_iload_n hx hb dX10_lay_40 rfl (lv_at hl 2 rfl) ?_
          refine o_iald cx hw ha1 (by decide) rfl (iv_in i12 (by decide)) dX10_lay_41 (fun v18 e18 b18 => ?_)
          refine lv_istore (lv' := [(4, .int v18), (0, .ref a0), (1, .ref a1), (2, .int a2), (3, .int a3)]) hx hb dX10_lay_42 hl (by decide) rfl (fun ls hl => ?_)
          refine lv_aload_n hx hb dX10_lay_44 rfl (lv_at hl 2 rfl) ?_
          refine lv_iload_n hx hb dX10_lay_45 rfl (lv_at hl 3 rfl) ?_
          refine lv_iload_n hx hb dX10_lay_46 rfl (lv_at hl 4 rfl) ?_
          refine o_iast cx hw ha1 (by decide) rfl (iv_in i12 (by decide)) trivial dX10_lay_47 (fun σ19 H locs eσ19 hw => ?_)
          have fr := oFr_p fr eσ19 ha1 (by decide)
          refine lv_iload hx hb dX10_lay_48 (lv_at hl 0 rfl) ?_
          rw [← hQ]
          exact o_ri cx rx hw dX10_lay_50 fr
        · --
          have i20 : Iv a3 10 2147483647 := iv_lt2 (iv_nle c16) (⟨by decide, by decide⟩ : Iv 9 9 9) i15 (by decide)
          refine lv_iconst (v := (-1)) hx hb dX10_lay_37 (by decide) ?_
          rw [← hQ]
          exact o_ri cx rx hw dX10_lay_38 fr
    · --
      have i21 : Iv v9 0 0 := iv_eq1 c10 p9_1 (⟨by decide, by decide⟩ : Iv 0 0 0) (by decide)
      refine lv_bipush (v := (-2)) hx hb dX10_lay_24 (by decide) ?_
      rw [← hQ]
      exact o_ri cx rx hw dX10_lay_26 fr
  · --
    have i22 : Iv v3 0 0 := iv_eq1 c4 p3_1 (⟨by decide, by decide⟩ : Iv 0 0 0) (by decide)
    refine lv_iconst (v := (-1)) hx hb dX10_lay_11 (by decide) ?_
    rw [← hQ]
    exact o_ri cx rx hw dX10_lay_12 fr
abbrev fs_X3_add : List Nat := [129, 130, 327, 328, 329, 330, 331]
abbrev ts_X3_add : List Nat := [32, 33, 34]
set_option maxHeartbeats 4000000 in
set_option maxRecDepth 100000 in
theorem c_X3_add (a0 : Nat) (ha0 : oA L τ a0 2) (a1 : Nat) (ha1 : oA L τ a1 5) : oMet l A L τ cy D K yX3_add cX3_add 2 none 2 81 [.ref a0, .ref a1] σ (va_Qv (fun σ1 => oFr τ fs_X3_add ts_X3_add σ σ1) (oPo A L τ cy D) A) := by
  refine oMk (by decide) (Nat.le_of_ble_eq_true rfl) rfl ?_
  intro p e s m args below meth c ls cx rx hA hw hl
  generalize hQ : MQ below _ args s 0 0 A = Q
  have hx := cx.1.1
  have hb := cx.1.2.1
  have hml := cx.1.2.2.1
  have hown := cx.1.2.2.2.1
  have hts := cx.1.2.2.2.2
  have hl : lv_has ls 2 [(0, .ref a0), (1, .ref a1)] := hl
  have fr : oFr τ fs_X3_add ts_X3_add σ σ := oFr_rf
  refine lv_aload_n hx hb dX3_add_0 rfl (lv_at hl 0 rfl) ?_
  refine g_128 cx hw ha0 k_f_X3_11 dX3_add_1 (fun v1 e1 h1 => ?_)
  refine lv_aload_n hx hb dX3_add_4 rfl (lv_at hl 0 rfl) ?_
  refine g_129 cx hw ha0 k_f_X3_20 dX3_add_5 (fun v2 e2 i2 => ?_)
  refine o_aald cx hw h1 (by decide) rfl (iv_in i2 (by decide)) (by decide) dX3_add_8 (fun v3 e3 h3 => ?_)
  refine lv_aload_n hx hb dX3_add_9 rfl (lv_at hl 1 rfl) ?_
  refine o_cv hw (oRunV cx hA hw q_X6_copyFrom k_m_X3_23 rfl h3 (by decide) (As := [.ref a1]) (c_X6_copyFrom v3 h3 a1 ha1) (by decide) rfl hl.1 rfl (Nat.le_of_ble_eq_true rfl) dX3_add_10 (by decide)) (fun σ4 H locs hp hw => ?_)
  have p5_0 := hp
  have fr := oFr_tr fr p5_0 (by decide)
  refine lv_aload_n hx hb dX3_add_13 rfl (lv_at hl 0 rfl) ?_
  refine lv_aload_n hx hb dX3_add_14 rfl (lv_at hl 0 rfl) ?_
  refine g_129 cx hw ha0 k_f_X3_20 dX3_add_15 (fun v6 e6 i6 => ?_)
  rw [show v6 = v2 from e6.trans ((kp_c p5_0 (by decide)).trans e2.symm)]
  refine lv_iconst (v := 1) hx hb dX3_add_18 (by decide) ?_
  refine lv_iadd hx hb dX3_add_19 ?_
  refine lv_topi (fun v7 e7 => ?_)
  have i7 : Iv v7 1 10 := iv_add e7 i2 (⟨by decide, by decide⟩ : Iv 1 1 1) (by decide)
  have x7 : v7.toInt = v2.toInt + 1 := ex_add e7 i2 (⟨by decide, by decide⟩ : Iv 1 1 1) (by decide)
  refine lv_bipush (v := 10) hx hb dX3_add_20 (by decide) ?_
  refine lv_irem hx hb dX3_add_22 (iv_nz (⟨by decide, by decide⟩ : Iv 10 10 10) (by decide)) ?_
  refine lv_topi (fun v8 e8 => ?_)
  have i8 : Iv v8 0 9 := iv_rem e8 i7 (⟨by decide, by decide⟩ : Iv 10 10 10) (by decide)
  refine p_129 cx hw ha0 (iv_w i8 (by decide)) k_f_X3_20 dX3_add_23 (fun σ9 H locs eσ9 hw => ?_)
  have fr := oFr_i fr eσ9 (by decide)
  refine lv_aload_n hx hb dX3_add_26 rfl (lv_at hl 0 rfl) ?_
  refine lv_bipush (v := 10) hx hb dX3_add_27 (by decide) ?_
  refine lv_aload_n hx hb dX3_add_29 rfl (lv_at hl 0 rfl) ?_
  refine g_130 cx hw ha0 k_f_X3_16 dX3_add_30 (fun v10 e10 i10 => ?_)
  refine lv_iconst (v := 1) hx hb dX3_add_33 (by decide) ?_
  refine lv_iadd hx hb dX3_add_34 ?_
  refine lv_topi (fun v11 e11 => ?_)
  have i11 : Iv v11 1 11 := iv_add e11 i10 (⟨by decide, by decide⟩ : Iv 1 1 1) (by decide)
  have x11 : v11.toInt = v10.toInt + 1 := ex_add e11 i10 (⟨by decide, by decide⟩ : Iv 1 1 1) (by decide)
  refine va_mmin hx hb (hml.trans hl.1.symm) hown (hts _ k_m_X3_27) (hts _ k_s_J9_min_7cf53) (hts _ k_i_J9) (hts _ k_code_J9_min_7cf53) (by decide) (Nat.le_of_ble_eq_true rfl) (by decide) (by decide) dX3_add_35 ?_
  refine lv_topi (fun v12 e12 => ?_)
  have i12 : Iv v12 1 10 := iv_min e12 (⟨by decide, by decide⟩ : Iv 10 10 10) i11 (by decide)
  refine p_130 cx hw ha0 (iv_w i12 (by decide)) k_f_X3_16 dX3_add_38 (fun σ13 H locs eσ13 hw => ?_)
  have fr := oFr_i fr eσ13 (by decide)
  rw [← hQ]
  exact o_rv cx rx hw dX3_add_41 fr
abbrev fs_X10_remembered : List Nat := [129, 130, 327, 328, 329, 330, 331]
abbrev ts_X10_remembered : List Nat := [32, 33, 34]
set_option maxHeartbeats 4000000 in
set_option maxRecDepth 100000 in
theorem c_X10_remembered (a0 : Nat) (ha0 : oA L τ a0 9) (a1 : Int32) : oMet l A L τ cy D K yX10_remembered cX10_remembered 2 (some .int) 3 102 [.ref a0, .int a1] σ (va_Qi (fun r σ1 => oFr τ fs_X10_remembered ts_X10_remembered σ σ1) (oPo A L τ cy D) A) := by
  refine oMk (by decide) (Nat.le_of_ble_eq_true rfl) rfl ?_
  intro p e s m args below meth c ls cx rx hA hw hl
  generalize hQ : MQ below _ args s 0 0 A = Q
  have hx := cx.1.1
  have hb := cx.1.2.1
  have hml := cx.1.2.2.1
  have hown := cx.1.2.2.2.1
  have hts := cx.1.2.2.2.2
  have hl : lv_has ls 2 [(0, .ref a0), (1, .int a1)] := hl
  have fr : oFr τ fs_X10_remembered ts_X10_remembered σ σ := oFr_rf
  refine lv_iload_n hx hb dX10_remembered_0 rfl (lv_at hl 1 rfl) ?_
  refine lv_if_lt (tgt := 15) hx hb dX10_remembered_1 (by decide) (fun c1 => ?_) (fun c1 => ?_)
  · --
    have i2 : Iv a1 (-2147483648) (-1) := iv_lt1 c1 (iv_top a1) (⟨by decide, by decide⟩ : Iv 0 0 0) (by decide)
    refine lv_iload_n hx hb dX10_remembered_15 rfl (lv_at hl 1 rfl) ?_
    rw [← hQ]
    exact o_ri cx rx hw dX10_remembered_16 fr
  · --
    have i3 : Iv a1 0 2147483647 := iv_le2 (iv_nlt c1) (⟨by decide, by decide⟩ : Iv 0 0 0) (iv_top a1) (by decide)
    refine lv_aload_n hx hb dX10_remembered_4 rfl (lv_at hl 0 rfl) ?_
    refine g_585 cx hw ha0 k_f_X10_75 dX10_remembered_5 (fun v4 e4 h4 => ?_)
    refine lv_aload_n hx hb dX10_remembered_8 rfl (lv_at hl 0 rfl) ?_
    refine g_582 cx hw ha0 k_f_X10_53 dX10_remembered_9 (fun v5 e5 h5 => ?_)
    refine o_cv hw (oRunV cx hA hw q_X3_add k_m_X10_289 rfl h4 (by decide) (As := [.ref v5]) (c_X3_add v4 h4 v5 h5) (by decide) rfl hl.1 rfl (Nat.le_of_ble_eq_true rfl) dX10_remembered_12 (by decide)) (fun σ6 H locs hp hw => ?_)
    have p7_0 := hp
    have fr := oFr_tr fr p7_0 (by decide)
    refine lv_iload_n hx hb dX10_remembered_15 rfl (lv_at hl 1 rfl) ?_
    rw [← hQ]
    exact o_ri cx rx hw dX10_remembered_16 fr
abbrev fs_X10_salt : List Nat := [129, 130, 327, 328, 329, 330, 331]
abbrev ts_X10_salt : List Nat := [32, 33, 34]
set_option maxHeartbeats 4000000 in
set_option maxRecDepth 100000 in
theorem c_X10_salt (a0 : Nat) (ha0 : oA L τ a0 9) (a1 : Int32) (a2 : Int32) : oMet l A L τ cy D K yX10_salt cX10_salt 3 (some .int) 4 123 [.ref a0, .int a1, .int a2] σ (va_Qi (fun r σ1 => oFr τ fs_X10_salt ts_X10_salt σ σ1) (oPo A L τ cy D) A) := by
  refine oMk (by decide) (Nat.le_of_ble_eq_true rfl) rfl ?_
  intro p e s m args below meth c ls cx rx hA hw hl
  generalize hQ : MQ below _ args s 0 0 A = Q
  have hx := cx.1.1
  have hb := cx.1.2.1
  have hml := cx.1.2.2.1
  have hown := cx.1.2.2.2.1
  have hts := cx.1.2.2.2.2
  have hl : lv_has ls 3 [(0, .ref a0), (1, .int a1), (2, .int a2)] := hl
  have fr : oFr τ fs_X10_salt ts_X10_salt σ σ := oFr_rf
  refine lv_aload_n hx hb dX10_salt_0 rfl (lv_at hl 0 rfl) ?_
  refine g_582 cx hw ha0 k_f_X10_53 dX10_salt_1 (fun v1 e1 h1 => ?_)
  refine lv_aload_n hx hb dX10_salt_4 rfl (lv_at hl 0 rfl) ?_
  refine g_581 cx hw ha0 k_f_X10_49 dX10_salt_5 (fun v2 e2 h2 => ?_)
  refine o_cv hw (oRunV cx hA hw q_X6_copyFrom k_m_X10_131 rfl h1 (by decide) (As := [.ref v2]) (c_X6_copyFrom v1 h1 v2 h2) (by decide) rfl hl.1 rfl (Nat.le_of_ble_eq_true rfl) dX10_salt_8 (by decide)) (fun σ3 H locs hp hw => ?_)
  have p4_0 := hp
  have fr := oFr_tr fr p4_0 (by decide)
  refine lv_aload_n hx hb dX10_salt_11 rfl (lv_at hl 0 rfl) ?_
  refine lv_aload_n hx hb dX10_salt_12 rfl (lv_at hl 0 rfl) ?_
  refine lv_aload_n hx hb dX10_salt_13 rfl (lv_at hl 0 rfl) ?_
  refine g_581 cx hw ha0 k_f_X10_49 dX10_salt_14 (fun v5 e5 h5 => ?_)
  rw [show v5 = v2 from Option.some.inj (e5.symm.trans (((kr_c p4_0 (by decide)).trans e2)))]
  refine g_321 cx hw h2 k_f_X10_148 dX10_salt_17 (fun v6 e6 h6 => ?_)
  refine lv_iload_n hx hb dX10_salt_20 rfl (lv_at hl 1 rfl) ?_
  refine lv_iload_n hx hb dX10_salt_21 rfl (lv_at hl 2 rfl) ?_
  refine o_ci hw (oRunV cx hA hw q_X10_lay k_m_X10_257 rfl ha0 (by decide) (As := [.ref v6, .int a1, .int a2]) (c_X10_lay a0 ha0 v6 h6 a1 a2) (by decide) rfl hl.1 rfl (Nat.le_of_ble_eq_true rfl) dX10_salt_22 (by decide)) (fun v8 σ7 H locs hp hw => ?_)
  have p8_0 := hp
  have fr := oFr_tr fr p8_0 (by decide)
  refine o_ci hw (oRunV cx hA hw q_X10_remembered k_m_X10_260 rfl ha0 (by decide) (As := [.int v8]) (c_X10_remembered a0 ha0 v8) (by decide) rfl hl.1 rfl (Nat.le_of_ble_eq_true rfl) dX10_salt_25 (by decide)) (fun v10 σ9 H locs hp hw => ?_)
  have p10_0 := hp
  have fr := oFr_tr fr p10_0 (by decide)
  rw [← hQ]
  exact o_ri cx rx hw dX10_salt_28 fr
abbrev fs_X10_thistles : List Nat := [129, 130, 327, 328, 329, 330, 331]
abbrev ts_X10_thistles : List Nat := [32, 33, 34]
set_option maxHeartbeats 4000000 in
set_option maxRecDepth 100000 in
theorem c_X10_thistles (a0 : Nat) (ha0 : oA L τ a0 9) (a1 : Int32) (a2 : Int32) : oMet l A L τ cy D K yX10_thistles cX10_thistles 3 (some .int) 4 123 [.ref a0, .int a1, .int a2] σ (va_Qi (fun r σ1 => oFr τ fs_X10_thistles ts_X10_thistles σ σ1) (oPo A L τ cy D) A) := by
  refine oMk (by decide) (Nat.le_of_ble_eq_true rfl) rfl ?_
  intro p e s m args below meth c ls cx rx hA hw hl
  generalize hQ : MQ below _ args s 0 0 A = Q
  have hx := cx.1.1
  have hb := cx.1.2.1
  have hml := cx.1.2.2.1
  have hown := cx.1.2.2.2.1
  have hts := cx.1.2.2.2.2
  have hl : lv_has ls 3 [(0, .ref a0), (1, .int a1), (2, .int a2)] := hl
  have fr : oFr τ fs_X10_thistles ts_X10_thistles σ σ := oFr_rf
  refine lv_aload_n hx hb dX10_thistles_0 rfl (lv_at hl 0 rfl) ?_
  refine g_582 cx hw ha0 k_f_X10_53 dX10_thistles_1 (fun v1 e1 h1 => ?_)
  refine lv_aload_n hx hb dX10_thistles_4 rfl (lv_at hl 0 rfl) ?_
  refine g_581 cx hw ha0 k_f_X10_49 dX10_thistles_5 (fun v2 e2 h2 => ?_)
  refine o_cv hw (oRunV cx hA hw q_X6_copyFrom k_m_X10_131 rfl h1 (by decide) (As := [.ref v2]) (c_X6_copyFrom v1 h1 v2 h2) (by decide) rfl hl.1 rfl (Nat.le_of_ble_eq_true rfl) dX10_thistles_8 (by decide)) (fun σ3 H locs hp hw => ?_)
  have p4_0 := hp
  have fr := oFr_tr fr p4_0 (by decide)
  refine lv_aload_n hx hb dX10_thistles_11 rfl (lv_at hl 0 rfl) ?_
  refine lv_aload_n hx hb dX10_thistles_12 rfl (lv_at hl 0 rfl) ?_
  refine lv_aload_n hx hb dX10_thistles_13 rfl (lv_at hl 0 rfl) ?_
  refine g_581 cx hw ha0 k_f_X10_49 dX10_thistles_14 (fun v5 e5 h5 => ?_)
  rw [show v5 = v2 from Option.some.inj (e5.symm.trans (((kr_c p4_0 (by decide)).trans e2)))]
  refine g_322 cx hw h2 k_f_X10_151 dX10_thistles_17 (fun v6 e6 h6 => ?_)
  refine lv_iload_n hx hb dX10_thistles_20 rfl (lv_at hl 1 rfl) ?_
  refine lv_iload_n hx hb dX10_thistles_21 rfl (lv_at hl 2 rfl) ?_
  refine o_ci hw (oRunV cx hA hw q_X10_lay k_m_X10_257 rfl ha0 (by decide) (As := [.ref v6, .int a1, .int a2]) (c_X10_lay a0 ha0 v6 h6 a1 a2) (by decide) rfl hl.1 rfl (Nat.le_of_ble_eq_true rfl) dX10_thistles_22 (by decide)) (fun v8 σ7 H locs hp hw => ?_)
  have p8_0 := hp
  have fr := oFr_tr fr p8_0 (by decide)
  refine o_ci hw (oRunV cx hA hw q_X10_remembered k_m_X10_260 rfl ha0 (by decide) (As := [.int v8]) (c_X10_remembered a0 ha0 v8) (by decide) rfl hl.1 rfl (Nat.le_of_ble_eq_true rfl) dX10_thistles_25 (by decide)) (fun v10 σ9 H locs hp hw => ?_)
  have p10_0 := hp
  have fr := oFr_tr fr p10_0 (by decide)
  rw [← hQ]
  exact o_ri cx rx hw dX10_thistles_28 fr
abbrev fs_X10_turn : List Nat := [330]
abbrev ts_X10_turn : List Nat := []
set_option maxHeartbeats 4000000 in
set_option maxRecDepth 100000 in
theorem c_X10_turn (a0 : Nat) (ha0 : oA L τ a0 9) (a1 : Int32) (a2 : Int32) : oMet l A L τ cy D K yX10_turn cX10_turn 4 (some .int) 1 23 [.ref a0, .int a1, .int a2] σ (va_Qi (fun r σ1 => oFr τ fs_X10_turn ts_X10_turn σ σ1 ∧ Iv r (-2) 1) (oPo A L τ cy D) A) := by
  refine oMk (by decide) (Nat.le_of_ble_eq_true rfl) rfl ?_
  intro p e s m args below meth c ls cx rx hA hw hl
  generalize hQ : MQ below _ args s 0 0 A = Q
  have hx := cx.1.1
  have hb := cx.1.2.1
  have hml := cx.1.2.2.1
  have hown := cx.1.2.2.2.1
  have hts := cx.1.2.2.2.2
  have hl : lv_has ls 4 [(0, .ref a0), (1, .int a1), (2, .int a2)] := hl
  have fr : oFr τ fs_X10_turn ts_X10_turn σ σ := oFr_rf
  refine lv_iload_n hx hb dX10_turn_0 rfl (lv_at hl 1 rfl) ?_
  refine lv_if_lt (tgt := 15) hx hb dX10_turn_1 (by decide) (fun c1 => ?_) (fun c1 => ?_)
  · --
    have i2 : Iv a1 (-2147483648) (-1) := iv_lt1 c1 (iv_top a1) (⟨by decide, by decide⟩ : Iv 0 0 0) (by decide)
    refine lv_iconst (v := (-1)) hx hb dX10_turn_15 (by decide) ?_
    rw [← hQ]
    exact o_ri cx rx hw dX10_turn_16 ⟨fr, (iv_w (⟨by decide, by decide⟩ : Iv (-1) (-1) (-1)) (by decide))⟩
  · --
    have i3 : Iv a1 0 2147483647 := iv_le2 (iv_nlt c1) (⟨by decide, by decide⟩ : Iv 0 0 0) (iv_top a1) (by decide)
    refine lv_iload_n hx hb dX10_turn_4 rfl (lv_at hl 1 rfl) ?_
    refine lv_aload_n hx hb dX10_turn_5 rfl (lv_at hl 0 rfl) ?_
    refine g_578 cx hw ha0 k_f_X10_26 dX10_turn_6 (fun v4 e4 h4 => ?_)
    refine g_66 cx hw h4 k_f_X10_306 dX10_turn_9 (fun v5 e5 i5 => ?_)
    refine lv_icmp_lt (tgt := 17) hx hb dX10_turn_12 (by decide) (fun c6 => ?_) (fun c6 => ?_)
    · --
      have i7 : Iv a1 0 5 := iv_lt1 c6 i3 i5 (by decide)
      have i8 : Iv v5 1 6 := iv_lt2 c6 i3 i5 (by decide)
      refine lv_aload_n hx hb dX10_turn_17 rfl (lv_at hl 0 rfl) ?_
      refine g_581 cx hw ha0 k_f_X10_49 dX10_turn_18 (fun v9 e9 h9 => ?_)
      refine lv_aload_n hx hb dX10_turn_21 rfl (lv_at hl 0 rfl) ?_
      refine g_578 cx hw ha0 k_f_X10_26 dX10_turn_22 (fun v10 e10 h10 => ?_)
      rw [show v10 = v4 from Option.some.inj (e10.symm.trans (e4))]
      refine g_67 cx hw h4 k_f_X10_309 dX10_turn_25 (fun v11 e11 h11 => ?_)
      refine lv_iload_n hx hb dX10_turn_28 rfl (lv_at hl 1 rfl) ?_
      refine o_iald cx hw h11 (by decide) rfl (iv_in i7 (by decide)) dX10_turn_29 (fun v12 e12 b12 => ?_)
      refine o_ci hw (oRunV cx hA hw q_X6_herdsAt k_m_X10_174 rfl h9 (by decide) (As := [.int v12]) (c_X6_herdsAt v9 h9 v12) (by decide) rfl hl.1 rfl (Nat.le_of_ble_eq_true rfl) dX10_turn_30 (by decide)) (fun v14 σ13 H locs hp hw => ?_)
      obtain ⟨p14_0, p14_1⟩ := hp
      rw [p14_0] at hw
      refine lv_if_eq (tgt := 39) hx hb dX10_turn_33 (by decide) (fun c15 => ?_) (fun c15 => ?_)
      · --
        have i16 : Iv v14 0 0 := iv_eq1 c15 p14_1 (⟨by decide, by decide⟩ : Iv 0 0 0) (by decide)
        refine lv_iload_n hx hb dX10_turn_39 rfl (lv_at hl 2 rfl) ?_
        have J_50 : ∀ (σ_50 : oSt) (H : Heap) (locs : List Loc), oI A L τ cy D s.heap σ_50 H locs → oFr τ fs_X10_turn ts_X10_turn σ σ_50 → ∀ (ls : Array Slot), lv_has ls 4 [(0, .ref a0), (1, .int a1), (2, .int a2)] → W p l e ({ frames := 1, cells := 0, slots := 0, locals := 23 } : Room) s m args below meth c H locs 0 0 Q (F0 m 50 ls []) := by
          intro    σ_50 H locs hw fr   ls hl
          refine lv_aload_n hx hb dX10_turn_50 rfl (lv_at hl 0 rfl) ?_
          refine g_581 cx hw ha0 k_f_X10_49 dX10_turn_51 (fun v17 e17 h17 => ?_)
          refine g_330 cx hw h17 k_f_X10_154 dX10_turn_54 (fun v18 e18 => ?_)
          refine lv_iload_n hx hb dX10_turn_57 rfl (lv_at hl 1 rfl) ?_
          refine lv_ishr hx hb dX10_turn_58 ?_
          refine lv_topi (fun v19 e19 => ?_)
          refine lv_iconst (v := 1) hx hb dX10_turn_59 (by decide) ?_
          refine lv_iand hx hb dX10_turn_60 ?_
          refine lv_topi (fun v20 e20 => ?_)
          have i20 : Iv v20 0 1 := iv_and e20 (⟨by decide, by decide⟩ : Iv 1 1 1) (by decide)
          refine lv_istore_n (lv' := [(3, .int v20), (0, .ref a0), (1, .int a1), (2, .int a2)]) hx hb dX10_turn_61 rfl hl (by decide) rfl (fun ls hl => ?_)
          refine lv_aload_n hx hb dX10_turn_62 rfl (lv_at hl 1 rfl) ?_
          refine g_581 cx hw ha0 k_f_X10_49 dX10_turn_63 (fun v21 e21 h21 => ?_)
          rw [show v21 = v17 from Option.some.inj (e21.symm.trans (e17))]
          refine lv_aload_n hx hb dX10_turn_66 rfl (lv_at hl 1 rfl) ?_
          refine g_581 cx hw ha0 k_f_X10_49 dX10_turn_67 (fun v22 e22 h22 => ?_)
          rw [show v22 = v17 from Option.some.inj (e22.symm.trans (e17))]
          refine g_330 cx hw h17 k_f_X10_154 dX10_turn_70 (fun v23 e23 => ?_)
          rw [show v23 = v18 from e23.trans e18.symm]
          refine lv_iconst (v := 1) hx hb dX10_turn_73 (by decide) ?_
          refine lv_iload_n hx hb dX10_turn_74 rfl (lv_at hl 2 rfl) ?_
          refine lv_ishl hx hb dX10_turn_75 ?_
          refine lv_topi (fun v24 e24 => ?_)
          have i24 : Iv v24 1 32 := iv_shl1 e24 i7 (by decide)
          refine lv_iconst (v := (-1)) hx hb dX10_turn_76 (by decide) ?_
          refine lv_ixor hx hb dX10_turn_77 ?_
          refine lv_topi (fun v25 e25 => ?_)
          refine lv_iand hx hb dX10_turn_78 ?_
          refine lv_topi (fun v26 e26 => ?_)
          refine lv_iload_n hx hb dX10_turn_79 rfl (lv_at hl 3 rfl) ?_
          refine lv_iload_n hx hb dX10_turn_80 rfl (lv_at hl 2 rfl) ?_
          refine lv_ishl hx hb dX10_turn_81 ?_
          refine lv_topi (fun v27 e27 => ?_)
          refine lv_ior hx hb dX10_turn_82 ?_
          refine lv_topi (fun v28 e28 => ?_)
          refine p_330 cx hw h17 k_f_X10_154 dX10_turn_83 (fun σ29 H locs eσ29 hw => ?_)
          have fr := oFr_i fr eσ29 (by decide)
          refine lv_iload_n hx hb dX10_turn_86 rfl (lv_at hl 0 rfl) ?_
          rw [← hQ]
          exact o_ri cx rx hw dX10_turn_87 ⟨fr, (iv_w i20 (by decide))⟩
        refine lv_if_eq (tgt := 50) hx hb dX10_turn_40 (by decide) (fun c30 => ?_) (fun c30 => ?_)
        · --
          have i31 : Iv a2 0 0 := iv_eq1 c30 (iv_top a2) (⟨by decide, by decide⟩ : Iv 0 0 0) (by decide)
          exact J_50 σ _ _ hw fr _ (lv_sub hl [0, 1, 2] rfl)
        · --
          refine lv_iload_n hx hb dX10_turn_43 rfl (lv_at hl 2 rfl) ?_
          refine lv_iconst (v := 1) hx hb dX10_turn_44 (by decide) ?_
          refine lv_icmp_eq (tgt := 50) hx hb dX10_turn_45 (by decide) (fun c32 => ?_) (fun c32 => ?_)
          · --
            have i33 : Iv a2 1 1 := iv_eq1 c32 (iv_top a2) (⟨by decide, by decide⟩ : Iv 1 1 1) (by decide)
            exact J_50 σ _ _ hw fr _ (lv_sub hl [0, 1, 2] rfl)
          · --
            refine lv_iconst (v := (-1)) hx hb dX10_turn_48 (by decide) ?_
            rw [← hQ]
            exact o_ri cx rx hw dX10_turn_49 ⟨fr, (iv_w (⟨by decide, by decide⟩ : Iv (-1) (-1) (-1)) (by decide))⟩
      · --
        have i34 : Iv v14 1 63 := iv_ne1 c15 p14_1 (⟨by decide, by decide⟩ : Iv 0 0 0) (by decide)
        refine lv_bipush (v := (-2)) hx hb dX10_turn_36 (by decide) ?_
        rw [← hQ]
        exact o_ri cx rx hw dX10_turn_38 ⟨fr, (iv_w (⟨by decide, by decide⟩ : Iv (-2) (-2) (-2)) (by decide))⟩
    · --
      refine lv_iconst (v := (-1)) hx hb dX10_turn_15 (by decide) ?_
      rw [← hQ]
      exact o_ri cx rx hw dX10_turn_16 ⟨fr, (iv_w (⟨by decide, by decide⟩ : Iv (-1) (-1) (-1)) (by decide))⟩
end OM
