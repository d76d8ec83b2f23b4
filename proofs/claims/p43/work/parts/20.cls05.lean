section OM
variable {l : Launch} {A : Nat → Prop} {L : List Nat} {τ : Nat → Nat} {cy : Nat → ClassId} {D : va_G} {K : (Nat → Nat) × (Nat → Nat)} {σ : oSt}
abbrev fs_X10_readAct : List Nat := [386]
abbrev ts_X10_readAct : List Nat := []
set_option maxHeartbeats 4000000 in
set_option maxRecDepth 100000 in
theorem c_X10_readAct (a0 : Nat) (ha0 : oA L τ a0 9) : oMet l A L τ cy D K yX10_readAct cX10_readAct 4 (some .int) 5 128 [.ref a0] σ (va_Qi (fun r σ1 => oFr τ fs_X10_readAct ts_X10_readAct σ σ1) (oPo A L τ cy D) A) := by
  refine oMk (by decide) (Nat.le_of_ble_eq_true rfl) rfl ?_
  intro p e s m args below meth c ls cx rx hA hw hl
  generalize hQ : MQ below _ args s 0 0 A = Q
  have hx := cx.1.1
  have hb := cx.1.2.1
  have hml := cx.1.2.2.1
  have hown := cx.1.2.2.2.1
  have hts := cx.1.2.2.2.2
  have hl : lv_has ls 4 [(0, .ref a0)] := hl
  have fr : oFr τ fs_X10_readAct ts_X10_readAct σ σ := oFr_rf
  refine lv_aload_n hx hb dX10_readAct_0 rfl (lv_at hl 0 rfl) ?_
  refine g_576 cx hw ha0 k_f_X10_10 dX10_readAct_1 (fun v1 e1 h1 => ?_)
  refine va_ldcSw hx hb hown cx.2.2.2.1.2.2.2.1 dX10_readAct_4 ?_
  have i2 : Iv (σ.1 385 v1) 0 80 := o_fb (j := 385) hw h1 rfl
  refine o_ci hw (oRunV cx hA hw q_X7_takeOneOf k_m_X10_331 rfl h1 (by decide) (As := [.ref (K.1 3)]) (c_X7_takeOneOf_3 v1 h1) (by decide) rfl hl.1 rfl (Nat.le_of_ble_eq_true rfl) dX10_readAct_7 (by decide)) (fun v4 σ3 H locs hp hw => ?_)
  obtain ⟨p4_0, p4_1, p4_2⟩ := hp
  have fr := oFr_tr fr p4_0 (by decide)
  refine lv_istore_n (lv' := [(1, .int v4), (0, .ref a0)]) hx hb dX10_readAct_10 rfl hl (by decide) rfl (fun ls hl => ?_)
  refine lv_iconst (v := 0) hx hb dX10_readAct_11 (by decide) ?_
  refine lv_istore_n (lv' := [(2, .int 0), (1, .int v4), (0, .ref a0)]) hx hb dX10_readAct_12 rfl hl (by decide) rfl (fun ls hl => ?_)
  refine lv_iconst (v := 0) hx hb dX10_readAct_13 (by decide) ?_
  refine lv_istore_n (lv' := [(3, .int 0), (2, .int 0), (1, .int v4), (0, .ref a0)]) hx hb dX10_readAct_14 rfl hl (by decide) rfl (fun ls hl => ?_)
  refine lv_iload_n hx hb dX10_readAct_15 rfl (lv_at hl 2 rfl) ?_
  have frE_209 := fr
  have J_209 : ∀ (j209_2 : Int32) (ij209_2 : Iv j209_2 (-1) 65487) (j209_3 : Int32) (ij209_3 : Iv j209_3 (-1) 63), ∀ (σ_209 : oSt) (H : Heap) (locs : List Loc), oI A L τ cy D s.heap σ_209 H locs → oFr τ fs_X10_readAct ts_X10_readAct σ σ_209 → ∀ (ls : Array Slot), lv_has ls 4 [(0, .ref a0), (1, .int v4), (2, .int j209_2), (3, .int j209_3)] → W p l e ({ frames := 5, cells := 0, slots := 0, locals := 128 } : Room) s m args below meth c H locs 0 0 Q (F0 m 209 ls []) := by
    intro j209_2 ij209_2 j209_3 ij209_3 σ_209 H locs hw fr      ls hl
    have fr_209 := fr
    refine lv_iload_n hx hb dX10_readAct_209 rfl (lv_at hl 2 rfl) ?_
    refine lv_iconst (v := (-1)) hx hb dX10_readAct_210 (by decide) ?_
    have J_219 : ∀ (H : Heap) (locs : List Loc), oI A L τ cy D s.heap σ_209 H locs → ∀ (ls : Array Slot), lv_has ls 4 [(0, .ref a0), (1, .int v4), (2, .int j209_2), (3, .int j209_3)] → W p l e ({ frames := 5, cells := 0, slots := 0, locals := 128 } : Room) s m args below meth c H locs 0 0 Q (F0 m 219 ls []) := by
      intro  H locs hw     ls hl
      refine lv_iconst (v := (-1)) hx hb dX10_readAct_219 (by decide) ?_
      refine lv_goto (tgt := 234) hx hb dX10_readAct_220 (by decide) ?_
      rw [← hQ]
      exact o_ri cx rx hw dX10_readAct_234 fr
    refine lv_icmp_eq (tgt := 219) hx hb dX10_readAct_211 (by decide) (fun c5 => ?_) (fun c5 => ?_)
    · --
      have i6 : Iv j209_2 (-1) (-1) := iv_eq1 c5 ij209_2 (⟨by decide, by decide⟩ : Iv (-1) (-1) (-1)) (by decide)
      exact J_219 _ _ hw _ (lv_sub hl [0, 1, 2, 3] rfl)
    · --
      have i7 : Iv j209_2 0 65487 := iv_ne1 c5 ij209_2 (⟨by decide, by decide⟩ : Iv (-1) (-1) (-1)) (by decide)
      refine lv_iload_n hx hb dX10_readAct_214 rfl (lv_at hl 3 rfl) ?_
      refine lv_iconst (v := (-1)) hx hb dX10_readAct_215 (by decide) ?_
      refine lv_icmp_ne (tgt := 223) hx hb dX10_readAct_216 (by decide) (fun c8 => ?_) (fun c8 => ?_)
      · --
        have i9 : Iv j209_3 0 63 := iv_ne1 c8 ij209_3 (⟨by decide, by decide⟩ : Iv (-1) (-1) (-1)) (by decide)
        refine lv_iload_n hx hb dX10_readAct_223 rfl (lv_at hl 1 rfl) ?_
        refine lv_bipush (v := 10) hx hb dX10_readAct_224 (by decide) ?_
        refine lv_ishl hx hb dX10_readAct_226 ?_
        refine lv_topi (fun v10 e10 => ?_)
        refine lv_iload_n hx hb dX10_readAct_227 rfl (lv_at hl 2 rfl) ?_
        refine lv_bipush (v := 6) hx hb dX10_readAct_228 (by decide) ?_
        refine lv_ishl hx hb dX10_readAct_230 ?_
        refine lv_topi (fun v11 e11 => ?_)
        refine lv_ior hx hb dX10_readAct_231 ?_
        refine lv_topi (fun v12 e12 => ?_)
        refine lv_iload_n hx hb dX10_readAct_232 rfl (lv_at hl 3 rfl) ?_
        refine lv_ior hx hb dX10_readAct_233 ?_
        refine lv_topi (fun v13 e13 => ?_)
        rw [← hQ]
        exact o_ri cx rx hw dX10_readAct_234 fr
      · --
        have i14 : Iv j209_3 (-1) (-1) := iv_eq1 c8 ij209_3 (⟨by decide, by decide⟩ : Iv (-1) (-1) (-1)) (by decide)
        exact J_219 _ _ hw _ (lv_sub hl [0, 1, 2, 3] rfl)
  by_cases q15 : v4 = 99
  · --
    refine lv_tableIn (tgt := 161) hx hb dX10_readAct_16 (by rw [q15]; decide) (by rw [q15]; decide) (by rw [q15]; rfl) (by decide) ?_
    have i16 : Iv v4 99 99 := iv_eq1 q15 p4_1 (⟨by decide, by decide⟩ : Iv 99 99 99) (by decide)
    refine lv_aload_n hx hb dX10_readAct_161 rfl (lv_at hl 3 rfl) ?_
    refine g_576 cx hw ha0 k_f_X10_10 dX10_readAct_162 (fun v17 e17 h17 => ?_)
    rw [show v17 = v1 from Option.some.inj (e17.symm.trans (((kr_c p4_0 (by decide)).trans e1)))]
    refine lv_iconst (v := 0) hx hb dX10_readAct_165 (by decide) ?_
    refine lv_bipush (v := 9) hx hb dX10_readAct_166 (by decide) ?_
    have z18 : (σ3.1 385 v1).toInt = ((σ.1 385 v1) : Int32).toInt := congrArg Int32.toInt (show σ3.1 385 v1 = (σ.1 385 v1) from ((kp_c p4_0 (by decide)).trans rfl))
    have z19 : (σ3.1 387 v1).toInt = ((σ.1 387 v1) : Int32).toInt := congrArg Int32.toInt (show σ3.1 387 v1 = (σ.1 387 v1) from ((kp_c p4_0 (by decide)).trans rfl))
    refine o_ci hw (oRunV cx hA hw q_X7_digit k_m_X10_247 rfl h1 (by decide) (As := [.int 0, .int 9]) (c_X7_digit v1 h1 0 (iv_w (⟨by decide, by decide⟩ : Iv 0 0 0) (by decide)) 9) (by decide) rfl hl.1 rfl (Nat.le_of_ble_eq_true rfl) dX10_readAct_168 (by decide)) (fun v21 σ20 H locs hp hw => ?_)
    obtain ⟨p21_0, p21_1, p21_2⟩ := hp
    have fr := oFr_tr fr p21_0 (by decide)
    refine lv_istore_n (lv' := [(2, .int v21), (3, .int 0), (1, .int v4), (0, .ref a0)]) hx hb dX10_readAct_171 rfl hl (by decide) rfl (fun ls hl => ?_)
    refine lv_goto (tgt := 209) hx hb dX10_readAct_172 (by decide) ?_
    exact J_209 v21 p21_1 0 (iv_w (⟨by decide, by decide⟩ : Iv 0 0 0) (by decide)) σ20 _ _ hw fr _ (lv_sub hl [3, 2, 0, 1] rfl)
  by_cases q22 : v4 = 100
  · --
    refine lv_tableIn (tgt := 175) hx hb dX10_readAct_16 (by rw [q22]; decide) (by rw [q22]; decide) (by rw [q22]; rfl) (by decide) ?_
    have i23 : Iv v4 100 100 := iv_eq1 q22 p4_1 (⟨by decide, by decide⟩ : Iv 100 100 100) (by decide)
    refine lv_aload_n hx hb dX10_readAct_175 rfl (lv_at hl 3 rfl) ?_
    refine g_576 cx hw ha0 k_f_X10_10 dX10_readAct_176 (fun v24 e24 h24 => ?_)
    rw [show v24 = v1 from Option.some.inj (e24.symm.trans (((kr_c p4_0 (by decide)).trans e1)))]
    refine lv_iconst (v := 0) hx hb dX10_readAct_179 (by decide) ?_
    refine lv_bipush (v := 9) hx hb dX10_readAct_180 (by decide) ?_
    have z25 : (σ3.1 385 v1).toInt = ((σ.1 385 v1) : Int32).toInt := congrArg Int32.toInt (show σ3.1 385 v1 = (σ.1 385 v1) from ((kp_c p4_0 (by decide)).trans rfl))
    have z26 : (σ3.1 387 v1).toInt = ((σ.1 387 v1) : Int32).toInt := congrArg Int32.toInt (show σ3.1 387 v1 = (σ.1 387 v1) from ((kp_c p4_0 (by decide)).trans rfl))
    refine o_ci hw (oRunV cx hA hw q_X7_digit k_m_X10_247 rfl h1 (by decide) (As := [.int 0, .int 9]) (c_X7_digit v1 h1 0 (iv_w (⟨by decide, by decide⟩ : Iv 0 0 0) (by decide)) 9) (by decide) rfl hl.1 rfl (Nat.le_of_ble_eq_true rfl) dX10_readAct_182 (by decide)) (fun v28 σ27 H locs hp hw => ?_)
    obtain ⟨p28_0, p28_1, p28_2⟩ := hp
    have fr := oFr_tr fr p28_0 (by decide)
    refine lv_istore_n (lv' := [(2, .int v28), (3, .int 0), (1, .int v4), (0, .ref a0)]) hx hb dX10_readAct_185 rfl hl (by decide) rfl (fun ls hl => ?_)
    refine lv_iload_n hx hb dX10_readAct_186 rfl (lv_at hl 0 rfl) ?_
    refine lv_iconst (v := (-1)) hx hb dX10_readAct_187 (by decide) ?_
    have frE_203 := fr
    have J_203 : ∀ (k203_0 : Int32) (ik203_0 : Iv k203_0 (-1) 63), ∀ (σ_203 : oSt) (H : Heap) (locs : List Loc), oI A L τ cy D s.heap σ_203 H locs → oFr τ fs_X10_readAct ts_X10_readAct σ σ_203 → ∀ (ls : Array Slot), lv_has ls 4 [(0, .ref a0), (1, .int v4), (2, .int v28), (3, .int 0)] → W p l e ({ frames := 5, cells := 0, slots := 0, locals := 128 } : Room) s m args below meth c H locs 0 0 Q (F0 m 203 ls [.int k203_0]) := by
      intro k203_0 ik203_0 σ_203 H locs hw fr      ls hl
      have fr_203 := fr
      refine lv_istore_n (lv' := [(3, .int k203_0), (0, .ref a0), (1, .int v4), (2, .int v28)]) hx hb dX10_readAct_203 rfl hl (by decide) rfl (fun ls hl => ?_)
      refine lv_goto (tgt := 209) hx hb dX10_readAct_204 (by decide) ?_
      exact J_209 v28 p28_1 k203_0 ik203_0 σ_203 _ _ hw fr _ (lv_sub hl [1, 2, 3, 0] rfl)
    refine lv_icmp_ne (tgt := 195) hx hb dX10_readAct_188 (by decide) (fun c29 => ?_) (fun c29 => ?_)
    · --
      have i30 : Iv v28 0 65487 := iv_ne1 c29 p28_1 (⟨by decide, by decide⟩ : Iv (-1) (-1) (-1)) (by decide)
      refine lv_aload_n hx hb dX10_readAct_195 rfl (lv_at hl 3 rfl) ?_
      refine lv_bipush (v := 8) hx hb dX10_readAct_196 (by decide) ?_
      refine lv_bipush (v := 8) hx hb dX10_readAct_198 (by decide) ?_
      refine o_ci hw (oRunV cx hA hw q_X10_readCell k_m_X10_238 rfl ha0 (by decide) (As := [.int 8, .int 8]) (c_X10_readCell a0 ha0 8 (iv_w (⟨by decide, by decide⟩ : Iv 8 8 8) (by decide)) 8 (iv_w (⟨by decide, by decide⟩ : Iv 8 8 8) (by decide))) (by decide) rfl hl.1 rfl (Nat.le_of_ble_eq_true rfl) dX10_readAct_200 (by decide)) (fun v32 σ31 H locs hp hw => ?_)
      obtain ⟨p32_0, p32_1, p32_2⟩ := hp
      have fr := oFr_tr fr p32_0 (by decide)
      exact J_203 v32 p32_1 σ31 _ _ hw fr _ (lv_sub hl [3, 2, 0, 1] rfl)
    · --
      have i33 : Iv v28 (-1) (-1) := iv_eq1 c29 p28_1 (⟨by decide, by decide⟩ : Iv (-1) (-1) (-1)) (by decide)
      refine lv_iconst (v := (-1)) hx hb dX10_readAct_191 (by decide) ?_
      refine lv_goto (tgt := 203) hx hb dX10_readAct_192 (by decide) ?_
      exact J_203 (-1) (iv_w (⟨by decide, by decide⟩ : Iv (-1) (-1) (-1)) (by decide)) σ27 _ _ hw fr _ (lv_sub hl [3, 2, 0, 1] rfl)
  by_cases q34 : v4 = 101
  · --
    refine lv_tableIn (tgt := 207) hx hb dX10_readAct_16 (by rw [q34]; decide) (by rw [q34]; decide) (by rw [q34]; rfl) (by decide) ?_
    have i35 : Iv v4 101 101 := iv_eq1 q34 p4_1 (⟨by decide, by decide⟩ : Iv 101 101 101) (by decide)
    refine lv_iconst (v := (-1)) hx hb dX10_readAct_207 (by decide) ?_
    rw [← hQ]
    exact o_ri cx rx hw dX10_readAct_208 fr
  by_cases q36 : v4 = 102
  · --
    refine lv_tableIn (tgt := 207) hx hb dX10_readAct_16 (by rw [q36]; decide) (by rw [q36]; decide) (by rw [q36]; rfl) (by decide) ?_
    have i37 : Iv v4 102 102 := iv_eq1 q36 p4_1 (⟨by decide, by decide⟩ : Iv 102 102 102) (by decide)
    refine lv_iconst (v := (-1)) hx hb dX10_readAct_207 (by decide) ?_
    rw [← hQ]
    exact o_ri cx rx hw dX10_readAct_208 fr
  by_cases q38 : v4 = 103
  · --
    refine lv_tableIn (tgt := 207) hx hb dX10_readAct_16 (by rw [q38]; decide) (by rw [q38]; decide) (by rw [q38]; rfl) (by decide) ?_
    have i39 : Iv v4 103 103 := iv_eq1 q38 p4_1 (⟨by decide, by decide⟩ : Iv 103 103 103) (by decide)
    refine lv_iconst (v := (-1)) hx hb dX10_readAct_207 (by decide) ?_
    rw [← hQ]
    exact o_ri cx rx hw dX10_readAct_208 fr
  by_cases q40 : v4 = 104
  · --
    refine lv_tableIn (tgt := 104) hx hb dX10_readAct_16 (by rw [q40]; decide) (by rw [q40]; decide) (by rw [q40]; rfl) (by decide) ?_
    have i41 : Iv v4 104 104 := iv_eq1 q40 p4_1 (⟨by decide, by decide⟩ : Iv 104 104 104) (by decide)
    refine lv_aload_n hx hb dX10_readAct_104 rfl (lv_at hl 3 rfl) ?_
    refine g_576 cx hw ha0 k_f_X10_10 dX10_readAct_105 (fun v42 e42 h42 => ?_)
    rw [show v42 = v1 from Option.some.inj (e42.symm.trans (((kr_c p4_0 (by decide)).trans e1)))]
    refine lv_iconst (v := 1) hx hb dX10_readAct_108 (by decide) ?_
    refine lv_bipush (v := 9) hx hb dX10_readAct_109 (by decide) ?_
    have z43 : (σ3.1 385 v1).toInt = ((σ.1 385 v1) : Int32).toInt := congrArg Int32.toInt (show σ3.1 385 v1 = (σ.1 385 v1) from ((kp_c p4_0 (by decide)).trans rfl))
    have z44 : (σ3.1 387 v1).toInt = ((σ.1 387 v1) : Int32).toInt := congrArg Int32.toInt (show σ3.1 387 v1 = (σ.1 387 v1) from ((kp_c p4_0 (by decide)).trans rfl))
    refine o_ci hw (oRunV cx hA hw q_X7_digit k_m_X10_247 rfl h1 (by decide) (As := [.int 1, .int 9]) (c_X7_digit v1 h1 1 (iv_w (⟨by decide, by decide⟩ : Iv 1 1 1) (by decide)) 9) (by decide) rfl hl.1 rfl (Nat.le_of_ble_eq_true rfl) dX10_readAct_111 (by decide)) (fun v46 σ45 H locs hp hw => ?_)
    obtain ⟨p46_0, p46_1, p46_2⟩ := hp
    have fr := oFr_tr fr p46_0 (by decide)
    refine lv_istore_n (lv' := [(2, .int v46), (3, .int 0), (1, .int v4), (0, .ref a0)]) hx hb dX10_readAct_114 rfl hl (by decide) rfl (fun ls hl => ?_)
    refine lv_iload_n hx hb dX10_readAct_115 rfl (lv_at hl 0 rfl) ?_
    refine lv_iconst (v := (-1)) hx hb dX10_readAct_116 (by decide) ?_
    have J_125 : ∀ (k125_0 : Int32) (ik125_0 : Iv k125_0 0 65487), ∀ (H : Heap) (locs : List Loc), oI A L τ cy D s.heap σ45 H locs → ∀ (ls : Array Slot), lv_has ls 4 [(0, .ref a0), (1, .int v4), (2, .int v46), (3, .int 0)] → W p l e ({ frames := 5, cells := 0, slots := 0, locals := 128 } : Room) s m args below meth c H locs 0 0 Q (F0 m 125 ls [.int k125_0]) := by
      intro k125_0 ik125_0 H locs hw     ls hl
      refine lv_istore_n (lv' := [(2, .int k125_0), (0, .ref a0), (1, .int v4), (3, .int 0)]) hx hb dX10_readAct_125 rfl hl (by decide) rfl (fun ls hl => ?_)
      refine lv_goto (tgt := 209) hx hb dX10_readAct_126 (by decide) ?_
      exact J_209 k125_0 (iv_w ik125_0 (by decide)) 0 (iv_w (⟨by decide, by decide⟩ : Iv 0 0 0) (by decide)) σ45 _ _ hw fr _ (lv_sub hl [1, 2, 0, 3] rfl)
    refine lv_icmp_ne (tgt := 124) hx hb dX10_readAct_117 (by decide) (fun c47 => ?_) (fun c47 => ?_)
    · --
      have i48 : Iv v46 0 65487 := iv_ne1 c47 p46_1 (⟨by decide, by decide⟩ : Iv (-1) (-1) (-1)) (by decide)
      refine lv_iload_n hx hb dX10_readAct_124 rfl (lv_at hl 0 rfl) ?_
      exact J_125 v46 i48 _ _ hw _ (lv_sub hl [3, 2, 0, 1] rfl)
    · --
      have i49 : Iv v46 (-1) (-1) := iv_eq1 c47 p46_1 (⟨by decide, by decide⟩ : Iv (-1) (-1) (-1)) (by decide)
      refine lv_iconst (v := 1) hx hb dX10_readAct_120 (by decide) ?_
      refine lv_goto (tgt := 125) hx hb dX10_readAct_121 (by decide) ?_
      exact J_125 1 (iv_w (⟨by decide, by decide⟩ : Iv 1 1 1) (by decide)) _ _ hw _ (lv_sub hl [3, 2, 0, 1] rfl)
  by_cases q50 : v4 = 105
  · --
    refine lv_tableIn (tgt := 207) hx hb dX10_readAct_16 (by rw [q50]; decide) (by rw [q50]; decide) (by rw [q50]; rfl) (by decide) ?_
    have i51 : Iv v4 105 105 := iv_eq1 q50 p4_1 (⟨by decide, by decide⟩ : Iv 105 105 105) (by decide)
    refine lv_iconst (v := (-1)) hx hb dX10_readAct_207 (by decide) ?_
    rw [← hQ]
    exact o_ri cx rx hw dX10_readAct_208 fr
  by_cases q52 : v4 = 106
  · --
    refine lv_tableIn (tgt := 207) hx hb dX10_readAct_16 (by rw [q52]; decide) (by rw [q52]; decide) (by rw [q52]; rfl) (by decide) ?_
    have i53 : Iv v4 106 106 := iv_eq1 q52 p4_1 (⟨by decide, by decide⟩ : Iv 106 106 106) (by decide)
    refine lv_iconst (v := (-1)) hx hb dX10_readAct_207 (by decide) ?_
    rw [← hQ]
    exact o_ri cx rx hw dX10_readAct_208 fr
  by_cases q54 : v4 = 107
  · --
    refine lv_tableIn (tgt := 207) hx hb dX10_readAct_16 (by rw [q54]; decide) (by rw [q54]; decide) (by rw [q54]; rfl) (by decide) ?_
    have i55 : Iv v4 107 107 := iv_eq1 q54 p4_1 (⟨by decide, by decide⟩ : Iv 107 107 107) (by decide)
    refine lv_iconst (v := (-1)) hx hb dX10_readAct_207 (by decide) ?_
    rw [← hQ]
    exact o_ri cx rx hw dX10_readAct_208 fr
  by_cases q56 : v4 = 108
  · --
    refine lv_tableIn (tgt := 207) hx hb dX10_readAct_16 (by rw [q56]; decide) (by rw [q56]; decide) (by rw [q56]; rfl) (by decide) ?_
    have i57 : Iv v4 108 108 := iv_eq1 q56 p4_1 (⟨by decide, by decide⟩ : Iv 108 108 108) (by decide)
    refine lv_iconst (v := (-1)) hx hb dX10_readAct_207 (by decide) ?_
    rw [← hQ]
    exact o_ri cx rx hw dX10_readAct_208 fr
  by_cases q58 : v4 = 109
  · --
    refine lv_tableIn (tgt := 207) hx hb dX10_readAct_16 (by rw [q58]; decide) (by rw [q58]; decide) (by rw [q58]; rfl) (by decide) ?_
    have i59 : Iv v4 109 109 := iv_eq1 q58 p4_1 (⟨by decide, by decide⟩ : Iv 109 109 109) (by decide)
    refine lv_iconst (v := (-1)) hx hb dX10_readAct_207 (by decide) ?_
    rw [← hQ]
    exact o_ri cx rx hw dX10_readAct_208 fr
  by_cases q60 : v4 = 110
  · --
    refine lv_tableIn (tgt := 207) hx hb dX10_readAct_16 (by rw [q60]; decide) (by rw [q60]; decide) (by rw [q60]; rfl) (by decide) ?_
    have i61 : Iv v4 110 110 := iv_eq1 q60 p4_1 (⟨by decide, by decide⟩ : Iv 110 110 110) (by decide)
    refine lv_iconst (v := (-1)) hx hb dX10_readAct_207 (by decide) ?_
    rw [← hQ]
    exact o_ri cx rx hw dX10_readAct_208 fr
  by_cases q62 : v4 = 111
  · --
    refine lv_tableIn (tgt := 161) hx hb dX10_readAct_16 (by rw [q62]; decide) (by rw [q62]; decide) (by rw [q62]; rfl) (by decide) ?_
    have i63 : Iv v4 111 111 := iv_eq1 q62 p4_1 (⟨by decide, by decide⟩ : Iv 111 111 111) (by decide)
    refine lv_aload_n hx hb dX10_readAct_161 rfl (lv_at hl 3 rfl) ?_
    refine g_576 cx hw ha0 k_f_X10_10 dX10_readAct_162 (fun v64 e64 h64 => ?_)
    rw [show v64 = v1 from Option.some.inj (e64.symm.trans (((kr_c p4_0 (by decide)).trans e1)))]
    refine lv_iconst (v := 0) hx hb dX10_readAct_165 (by decide) ?_
    refine lv_bipush (v := 9) hx hb dX10_readAct_166 (by decide) ?_
    have z65 : (σ3.1 385 v1).toInt = ((σ.1 385 v1) : Int32).toInt := congrArg Int32.toInt (show σ3.1 385 v1 = (σ.1 385 v1) from ((kp_c p4_0 (by decide)).trans rfl))
    have z66 : (σ3.1 387 v1).toInt = ((σ.1 387 v1) : Int32).toInt := congrArg Int32.toInt (show σ3.1 387 v1 = (σ.1 387 v1) from ((kp_c p4_0 (by decide)).trans rfl))
    refine o_ci hw (oRunV cx hA hw q_X7_digit k_m_X10_247 rfl h1 (by decide) (As := [.int 0, .int 9]) (c_X7_digit v1 h1 0 (iv_w (⟨by decide, by decide⟩ : Iv 0 0 0) (by decide)) 9) (by decide) rfl hl.1 rfl (Nat.le_of_ble_eq_true rfl) dX10_readAct_168 (by decide)) (fun v68 σ67 H locs hp hw => ?_)
    obtain ⟨p68_0, p68_1, p68_2⟩ := hp
    have fr := oFr_tr fr p68_0 (by decide)
    refine lv_istore_n (lv' := [(2, .int v68), (3, .int 0), (1, .int v4), (0, .ref a0)]) hx hb dX10_readAct_171 rfl hl (by decide) rfl (fun ls hl => ?_)
    refine lv_goto (tgt := 209) hx hb dX10_readAct_172 (by decide) ?_
    exact J_209 v68 p68_1 0 (iv_w (⟨by decide, by decide⟩ : Iv 0 0 0) (by decide)) σ67 _ _ hw fr _ (lv_sub hl [3, 2, 0, 1] rfl)
  by_cases q69 : v4 = 112
  · --
    refine lv_tableIn (tgt := 207) hx hb dX10_readAct_16 (by rw [q69]; decide) (by rw [q69]; decide) (by rw [q69]; rfl) (by decide) ?_
    have i70 : Iv v4 112 112 := iv_eq1 q69 p4_1 (⟨by decide, by decide⟩ : Iv 112 112 112) (by decide)
    refine lv_iconst (v := (-1)) hx hb dX10_readAct_207 (by decide) ?_
    rw [← hQ]
    exact o_ri cx rx hw dX10_readAct_208 fr
  by_cases q71 : v4 = 113
  · --
    refine lv_tableIn (tgt := 207) hx hb dX10_readAct_16 (by rw [q71]; decide) (by rw [q71]; decide) (by rw [q71]; rfl) (by decide) ?_
    have i72 : Iv v4 113 113 := iv_eq1 q71 p4_1 (⟨by decide, by decide⟩ : Iv 113 113 113) (by decide)
    refine lv_iconst (v := (-1)) hx hb dX10_readAct_207 (by decide) ?_
    rw [← hQ]
    exact o_ri cx rx hw dX10_readAct_208 fr
  by_cases q73 : v4 = 114
  · --
    refine lv_tableIn (tgt := 207) hx hb dX10_readAct_16 (by rw [q73]; decide) (by rw [q73]; decide) (by rw [q73]; rfl) (by decide) ?_
    have i74 : Iv v4 114 114 := iv_eq1 q73 p4_1 (⟨by decide, by decide⟩ : Iv 114 114 114) (by decide)
    refine lv_iconst (v := (-1)) hx hb dX10_readAct_207 (by decide) ?_
    rw [← hQ]
    exact o_ri cx rx hw dX10_readAct_208 fr
  by_cases q75 : v4 = 115
  · --
    refine lv_tableIn (tgt := 129) hx hb dX10_readAct_16 (by rw [q75]; decide) (by rw [q75]; decide) (by rw [q75]; rfl) (by decide) ?_
    have i76 : Iv v4 115 115 := iv_eq1 q75 p4_1 (⟨by decide, by decide⟩ : Iv 115 115 115) (by decide)
    refine lv_aload_n hx hb dX10_readAct_129 rfl (lv_at hl 3 rfl) ?_
    refine lv_bipush (v := 8) hx hb dX10_readAct_130 (by decide) ?_
    refine lv_bipush (v := 8) hx hb dX10_readAct_132 (by decide) ?_
    refine o_ci hw (oRunV cx hA hw q_X10_readCell k_m_X10_238 rfl ha0 (by decide) (As := [.int 8, .int 8]) (c_X10_readCell a0 ha0 8 (iv_w (⟨by decide, by decide⟩ : Iv 8 8 8) (by decide)) 8 (iv_w (⟨by decide, by decide⟩ : Iv 8 8 8) (by decide))) (by decide) rfl hl.1 rfl (Nat.le_of_ble_eq_true rfl) dX10_readAct_134 (by decide)) (fun v78 σ77 H locs hp hw => ?_)
    obtain ⟨p78_0, p78_1, p78_2⟩ := hp
    have fr := oFr_tr fr p78_0 (by decide)
    refine lv_istore_n (lv' := [(3, .int v78), (2, .int 0), (1, .int v4), (0, .ref a0)]) hx hb dX10_readAct_137 rfl hl (by decide) rfl (fun ls hl => ?_)
    refine lv_iload_n hx hb dX10_readAct_138 rfl (lv_at hl 0 rfl) ?_
    refine lv_iconst (v := (-1)) hx hb dX10_readAct_139 (by decide) ?_
    have frE_157 := fr
    have J_157 : ∀ (k157_0 : Int32) (ik157_0 : Iv k157_0 (-1) 65487), ∀ (σ_157 : oSt) (H : Heap) (locs : List Loc), oI A L τ cy D s.heap σ_157 H locs → oFr τ fs_X10_readAct ts_X10_readAct σ σ_157 → ∀ (ls : Array Slot), lv_has ls 4 [(0, .ref a0), (1, .int v4), (2, .int 0), (3, .int v78)] → W p l e ({ frames := 5, cells := 0, slots := 0, locals := 128 } : Room) s m args below meth c H locs 0 0 Q (F0 m 157 ls [.int k157_0]) := by
      intro k157_0 ik157_0 σ_157 H locs hw fr      ls hl
      have fr_157 := fr
      refine lv_istore_n (lv' := [(2, .int k157_0), (0, .ref a0), (1, .int v4), (3, .int v78)]) hx hb dX10_readAct_157 rfl hl (by decide) rfl (fun ls hl => ?_)
      refine lv_goto (tgt := 209) hx hb dX10_readAct_158 (by decide) ?_
      exact J_209 k157_0 ik157_0 v78 p78_1 σ_157 _ _ hw fr _ (lv_sub hl [1, 2, 0, 3] rfl)
    refine lv_icmp_ne (tgt := 147) hx hb dX10_readAct_140 (by decide) (fun c79 => ?_) (fun c79 => ?_)
    · --
      have i80 : Iv v78 0 63 := iv_ne1 c79 p78_1 (⟨by decide, by decide⟩ : Iv (-1) (-1) (-1)) (by decide)
      refine lv_aload_n hx hb dX10_readAct_147 rfl (lv_at hl 3 rfl) ?_
      refine g_576 cx hw ha0 k_f_X10_10 dX10_readAct_148 (fun v81 e81 h81 => ?_)
      rw [show v81 = v1 from Option.some.inj (e81.symm.trans (((kr_c p78_0 (by decide)).trans ((kr_c p4_0 (by decide)).trans e1))))]
      refine lv_iconst (v := 0) hx hb dX10_readAct_151 (by decide) ?_
      refine lv_bipush (v := 9) hx hb dX10_readAct_152 (by decide) ?_
      have z82 : (σ77.1 385 v1).toInt = ((σ.1 385 v1) : Int32).toInt := congrArg Int32.toInt (show σ77.1 385 v1 = (σ.1 385 v1) from ((kp_c p78_0 (by decide)).trans ((kp_c p4_0 (by decide)).trans rfl)))
      have z83 : (σ77.1 387 v1).toInt = ((σ.1 387 v1) : Int32).toInt := congrArg Int32.toInt (show σ77.1 387 v1 = (σ.1 387 v1) from ((kp_c p78_0 (by decide)).trans ((kp_c p4_0 (by decide)).trans rfl)))
      refine o_ci hw (oRunV cx hA hw q_X7_digit k_m_X10_247 rfl h1 (by decide) (As := [.int 0, .int 9]) (c_X7_digit v1 h1 0 (iv_w (⟨by decide, by decide⟩ : Iv 0 0 0) (by decide)) 9) (by decide) rfl hl.1 rfl (Nat.le_of_ble_eq_true rfl) dX10_readAct_154 (by decide)) (fun v85 σ84 H locs hp hw => ?_)
      obtain ⟨p85_0, p85_1, p85_2⟩ := hp
      have fr := oFr_tr fr p85_0 (by decide)
      exact J_157 v85 p85_1 σ84 _ _ hw fr _ (lv_sub hl [3, 2, 1, 0] rfl)
    · --
      have i86 : Iv v78 (-1) (-1) := iv_eq1 c79 p78_1 (⟨by decide, by decide⟩ : Iv (-1) (-1) (-1)) (by decide)
      refine lv_iconst (v := (-1)) hx hb dX10_readAct_143 (by decide) ?_
      refine lv_goto (tgt := 157) hx hb dX10_readAct_144 (by decide) ?_
      exact J_157 (-1) (iv_w (⟨by decide, by decide⟩ : Iv (-1) (-1) (-1)) (by decide)) σ77 _ _ hw fr _ (lv_sub hl [3, 2, 1, 0] rfl)
  by_cases q87 : v4 = 116
  · --
    refine lv_tableIn (tgt := 129) hx hb dX10_readAct_16 (by rw [q87]; decide) (by rw [q87]; decide) (by rw [q87]; rfl) (by decide) ?_
    have i88 : Iv v4 116 116 := iv_eq1 q87 p4_1 (⟨by decide, by decide⟩ : Iv 116 116 116) (by decide)
    refine lv_aload_n hx hb dX10_readAct_129 rfl (lv_at hl 3 rfl) ?_
    refine lv_bipush (v := 8) hx hb dX10_readAct_130 (by decide) ?_
    refine lv_bipush (v := 8) hx hb dX10_readAct_132 (by decide) ?_
    refine o_ci hw (oRunV cx hA hw q_X10_readCell k_m_X10_238 rfl ha0 (by decide) (As := [.int 8, .int 8]) (c_X10_readCell a0 ha0 8 (iv_w (⟨by decide, by decide⟩ : Iv 8 8 8) (by decide)) 8 (iv_w (⟨by decide, by decide⟩ : Iv 8 8 8) (by decide))) (by decide) rfl hl.1 rfl (Nat.le_of_ble_eq_true rfl) dX10_readAct_134 (by decide)) (fun v90 σ89 H locs hp hw => ?_)
    obtain ⟨p90_0, p90_1, p90_2⟩ := hp
    have fr := oFr_tr fr p90_0 (by decide)
    refine lv_istore_n (lv' := [(3, .int v90), (2, .int 0), (1, .int v4), (0, .ref a0)]) hx hb dX10_readAct_137 rfl hl (by decide) rfl (fun ls hl => ?_)
    refine lv_iload_n hx hb dX10_readAct_138 rfl (lv_at hl 0 rfl) ?_
    refine lv_iconst (v := (-1)) hx hb dX10_readAct_139 (by decide) ?_
    have frE_157 := fr
    have J_157 : ∀ (k157_0 : Int32) (ik157_0 : Iv k157_0 (-1) 65487), ∀ (σ_157 : oSt) (H : Heap) (locs : List Loc), oI A L τ cy D s.heap σ_157 H locs → oFr τ fs_X10_readAct ts_X10_readAct σ σ_157 → ∀ (ls : Array Slot), lv_has ls 4 [(0, .ref a0), (1, .int v4), (2, .int 0), (3, .int v90)] → W p l e ({ frames := 5, cells := 0, slots := 0, locals := 128 } : Room) s m args below meth c H locs 0 0 Q (F0 m 157 ls [.int k157_0]) := by
      intro k157_0 ik157_0 σ_157 H locs hw fr      ls hl
      have fr_157 := fr
      refine lv_istore_n (lv' := [(2, .int k157_0), (0, .ref a0), (1, .int v4), (3, .int v90)]) hx hb dX10_readAct_157 rfl hl (by decide) rfl (fun ls hl => ?_)
      refine lv_goto (tgt := 209) hx hb dX10_readAct_158 (by decide) ?_
      exact J_209 k157_0 ik157_0 v90 p90_1 σ_157 _ _ hw fr _ (lv_sub hl [1, 2, 0, 3] rfl)
    refine lv_icmp_ne (tgt := 147) hx hb dX10_readAct_140 (by decide) (fun c91 => ?_) (fun c91 => ?_)
    · --
      have i92 : Iv v90 0 63 := iv_ne1 c91 p90_1 (⟨by decide, by decide⟩ : Iv (-1) (-1) (-1)) (by decide)
      refine lv_aload_n hx hb dX10_readAct_147 rfl (lv_at hl 3 rfl) ?_
      refine g_576 cx hw ha0 k_f_X10_10 dX10_readAct_148 (fun v93 e93 h93 => ?_)
      rw [show v93 = v1 from Option.some.inj (e93.symm.trans (((kr_c p90_0 (by decide)).trans ((kr_c p4_0 (by decide)).trans e1))))]
      refine lv_iconst (v := 0) hx hb dX10_readAct_151 (by decide) ?_
      refine lv_bipush (v := 9) hx hb dX10_readAct_152 (by decide) ?_
      have z94 : (σ89.1 385 v1).toInt = ((σ.1 385 v1) : Int32).toInt := congrArg Int32.toInt (show σ89.1 385 v1 = (σ.1 385 v1) from ((kp_c p90_0 (by decide)).trans ((kp_c p4_0 (by decide)).trans rfl)))
      have z95 : (σ89.1 387 v1).toInt = ((σ.1 387 v1) : Int32).toInt := congrArg Int32.toInt (show σ89.1 387 v1 = (σ.1 387 v1) from ((kp_c p90_0 (by decide)).trans ((kp_c p4_0 (by decide)).trans rfl)))
      refine o_ci hw (oRunV cx hA hw q_X7_digit k_m_X10_247 rfl h1 (by decide) (As := [.int 0, .int 9]) (c_X7_digit v1 h1 0 (iv_w (⟨by decide, by decide⟩ : Iv 0 0 0) (by decide)) 9) (by decide) rfl hl.1 rfl (Nat.le_of_ble_eq_true rfl) dX10_readAct_154 (by decide)) (fun v97 σ96 H locs hp hw => ?_)
      obtain ⟨p97_0, p97_1, p97_2⟩ := hp
      have fr := oFr_tr fr p97_0 (by decide)
      exact J_157 v97 p97_1 σ96 _ _ hw fr _ (lv_sub hl [3, 2, 1, 0] rfl)
    · --
      have i98 : Iv v90 (-1) (-1) := iv_eq1 c91 p90_1 (⟨by decide, by decide⟩ : Iv (-1) (-1) (-1)) (by decide)
      refine lv_iconst (v := (-1)) hx hb dX10_readAct_143 (by decide) ?_
      refine lv_goto (tgt := 157) hx hb dX10_readAct_144 (by decide) ?_
      exact J_157 (-1) (iv_w (⟨by decide, by decide⟩ : Iv (-1) (-1) (-1)) (by decide)) σ89 _ _ hw fr _ (lv_sub hl [3, 2, 1, 0] rfl)
  have q15 := iv_nt q15 (k := 99) (by decide)
  have q22 := iv_nt q22 (k := 100) (by decide)
  have q34 := iv_nt q34 (k := 101) (by decide)
  have q36 := iv_nt q36 (k := 102) (by decide)
  have q38 := iv_nt q38 (k := 103) (by decide)
  have q40 := iv_nt q40 (k := 104) (by decide)
  have q50 := iv_nt q50 (k := 105) (by decide)
  have q52 := iv_nt q52 (k := 106) (by decide)
  have q54 := iv_nt q54 (k := 107) (by decide)
  have q56 := iv_nt q56 (k := 108) (by decide)
  have q58 := iv_nt q58 (k := 109) (by decide)
  have q60 := iv_nt q60 (k := 110) (by decide)
  have q62 := iv_nt q62 (k := 111) (by decide)
  have q69 := iv_nt q69 (k := 112) (by decide)
  have q71 := iv_nt q71 (k := 113) (by decide)
  have q73 := iv_nt q73 (k := 114) (by decide)
  have q75 := iv_nt q75 (k := 115) (by decide)
  have q87 := iv_nt q87 (k := 116) (by decide)
  refine lv_tableOut (tgt := 207) hx hb dX10_readAct_16 (by omega) (by decide) ?_
  refine lv_iconst (v := (-1)) hx hb dX10_readAct_207 (by decide) ?_
  rw [← hQ]
  exact o_ri cx rx hw dX10_readAct_208 fr
abbrev fs_X10_faultOfDay : List Nat := [386, 387]
abbrev ts_X10_faultOfDay : List Nat := []
set_option maxHeartbeats 4000000 in
set_option maxRecDepth 100000 in
theorem c_X10_faultOfDay (a0 : Nat) (ha0 : oA L τ a0 9) : oMet l A L τ cy D K yX10_faultOfDay cX10_faultOfDay 2 (some .int) 6 151 [.ref a0] σ (va_Qi (fun r σ1 => oFr τ fs_X10_faultOfDay ts_X10_faultOfDay σ σ1) (oPo A L τ cy D) A) := by
  refine oMk (by decide) (Nat.le_of_ble_eq_true rfl) rfl ?_
  intro p e s m args below meth c ls cx rx hA hw hl
  generalize hQ : MQ below _ args s 0 0 A = Q
  have hx := cx.1.1
  have hb := cx.1.2.1
  have hml := cx.1.2.2.1
  have hown := cx.1.2.2.2.1
  have hts := cx.1.2.2.2.2
  have hl : lv_has ls 2 [(0, .ref a0)] := hl
  have fr : oFr τ fs_X10_faultOfDay ts_X10_faultOfDay σ σ := oFr_rf
  refine lv_aload_n hx hb dX10_faultOfDay_0 rfl (lv_at hl 0 rfl) ?_
  refine g_576 cx hw ha0 k_f_X10_10 dX10_faultOfDay_1 (fun v1 e1 h1 => ?_)
  refine lv_bipush (v := 60) hx hb dX10_faultOfDay_4 (by decide) ?_
  refine o_cv hw (oRunV cx hA hw q_X7_begin k_m_X10_220 rfl h1 (by decide) (As := [.int 60]) (c_X7_begin v1 h1 60) (by decide) rfl hl.1 rfl (Nat.le_of_ble_eq_true rfl) dX10_faultOfDay_6 (by decide)) (fun σ2 H locs hp hw => ?_)
  obtain ⟨p3_0, p3_1⟩ := hp
  have fr := oFr_tr fr p3_0 (by decide)
  refine lv_aload_n hx hb dX10_faultOfDay_9 rfl (lv_at hl 0 rfl) ?_
  refine g_576 cx hw ha0 k_f_X10_10 dX10_faultOfDay_10 (fun v4 e4 h4 => ?_)
  rw [show v4 = v1 from Option.some.inj (e4.symm.trans (((kr_c p3_0 (by decide)).trans e1)))]
  have i5 : Iv (σ2.1 385 v1) 0 80 := o_fb (j := 385) hw h1 rfl
  refine o_ci hw (oRunV cx hA hw q_X7_isAtEnd k_m_X10_224 rfl h1 (by decide) (As := []) (c_X7_isAtEnd v1 h1) (by decide) rfl hl.1 rfl (Nat.le_of_ble_eq_true rfl) dX10_faultOfDay_13 (by decide)) (fun v7 σ6 H locs hp hw => ?_)
  obtain ⟨p7_0, p7_1, p7_2⟩ := hp
  rw [p7_0] at hw
  refine lv_if_eq (tgt := 21) hx hb dX10_faultOfDay_16 (by decide) (fun c8 => ?_) (fun c8 => ?_)
  · --
    have i9 : Iv v7 0 0 := iv_eq1 c8 p7_1 (⟨by decide, by decide⟩ : Iv 0 0 0) (by decide)
    refine lv_iconst (v := 0) hx hb dX10_faultOfDay_21 (by decide) ?_
    refine lv_istore_n (lv' := [(1, .int 0), (0, .ref a0)]) hx hb dX10_faultOfDay_22 rfl hl (by decide) rfl (fun ls hl => ?_)
    have frE_23 := fr
    have J_23 : ∀ n23 : Nat, ∀ (j23_1 : Int32) (ij23_1 : Iv j23_1 0 60), ∀ (σ_23 : oSt) (H : Heap) (locs : List Loc), oI A L τ cy D s.heap σ_23 H locs → oFr τ fs_X10_faultOfDay ts_X10_faultOfDay σ σ_23 → (60 - j23_1.toInt).toNat < n23 → ∀ (ls : Array Slot), lv_has ls 2 [(0, .ref a0), (1, .int j23_1)] → W p l e ({ frames := 6, cells := 0, slots := 0, locals := 151 } : Room) s m args below meth c H locs 0 0 Q (F0 m 23 ls []) := by
      intro n23
      induction n23 with
      | zero => intro j23_1 ij23_1 σ_23 H locs hw fr   hn_23   ls hl; exact absurd hn_23 (Nat.not_lt_zero _)
      | succ n23 ih_23 =>
        intro j23_1 ij23_1 σ_23 H locs hw fr   hn_23   ls hl
        have fr_23 := fr
        refine lv_iload_n hx hb dX10_faultOfDay_23 rfl (lv_at hl 1 rfl) ?_
        refine lv_bipush (v := 60) hx hb dX10_faultOfDay_24 (by decide) ?_
        refine lv_icmp_ge (tgt := 83) hx hb dX10_faultOfDay_26 (by decide) (fun c10 => ?_) (fun c10 => ?_)
        · --
          have i11 : Iv j23_1 60 60 := iv_le2 c10 (⟨by decide, by decide⟩ : Iv 60 60 60) ij23_1 (by decide)
          refine lv_aload_n hx hb dX10_faultOfDay_83 rfl (lv_at hl 0 rfl) ?_
          refine g_576 cx hw ha0 k_f_X10_10 dX10_faultOfDay_84 (fun v12 e12 h12 => ?_)
          rw [show v12 = v1 from Option.some.inj (e12.symm.trans (((kr_c fr_23 (by decide)).trans ((kr_c frE_23 (by decide)).symm.trans (((kr_c p3_0 (by decide)).trans e1))))))]
          refine o_ci hw (oRunV cx hA hw q_X7_fault k_m_X10_231 rfl h1 (by decide) (As := []) (c_X7_fault v1 h1) (by decide) rfl hl.1 rfl (Nat.le_of_ble_eq_true rfl) dX10_faultOfDay_87 (by decide)) (fun v14 σ13 H locs hp hw => ?_)
          obtain ⟨p14_0, p14_1⟩ := hp
          rw [p14_0] at hw
          rw [← hQ]
          exact o_ri cx rx hw dX10_faultOfDay_90 fr
        · --
          have i15 : Iv j23_1 0 59 := iv_lt1 (iv_nle c10) ij23_1 (⟨by decide, by decide⟩ : Iv 60 60 60) (by decide)
          refine lv_aload_n hx hb dX10_faultOfDay_29 rfl (lv_at hl 0 rfl) ?_
          refine o_ci hw (oRunV cx hA hw q_X10_readAct k_m_X10_283 rfl ha0 (by decide) (As := []) (c_X10_readAct a0 ha0) (by decide) rfl hl.1 rfl (Nat.le_of_ble_eq_true rfl) dX10_faultOfDay_30 (by decide)) (fun v17 σ16 H locs hp hw => ?_)
          have p17_0 := hp
          have fr := oFr_tr fr p17_0 (by decide)
          refine lv_iconst (v := (-1)) hx hb dX10_faultOfDay_33 (by decide) ?_
          refine lv_icmp_ne (tgt := 45) hx hb dX10_faultOfDay_34 (by decide) (fun c18 => ?_) (fun c18 => ?_)
          · --
            refine lv_aload_n hx hb dX10_faultOfDay_45 rfl (lv_at hl 0 rfl) ?_
            refine g_576 cx hw ha0 k_f_X10_10 dX10_faultOfDay_46 (fun v19 e19 h19 => ?_)
            rw [show v19 = v1 from Option.some.inj (e19.symm.trans (((kr_c p17_0 (by decide)).trans ((kr_c fr_23 (by decide)).trans ((kr_c frE_23 (by decide)).symm.trans (((kr_c p3_0 (by decide)).trans e1)))))))]
            have z20 : (σ16.1 385 v1).toInt = ((σ2.1 385 v1) : Int32).toInt := congrArg Int32.toInt (show σ16.1 385 v1 = (σ2.1 385 v1) from ((kp_c p17_0 (by decide)).trans ((kp_c fr_23 (by decide)).trans ((kp_c frE_23 (by decide)).symm.trans (rfl)))))
            refine o_ci hw (oRunV cx hA hw q_X7_isAtEnd k_m_X10_224 rfl h1 (by decide) (As := []) (c_X7_isAtEnd v1 h1) (by decide) rfl hl.1 rfl (Nat.le_of_ble_eq_true rfl) dX10_faultOfDay_49 (by decide)) (fun v22 σ21 H locs hp hw => ?_)
            obtain ⟨p22_0, p22_1, p22_2⟩ := hp
            rw [p22_0] at hw
            refine lv_if_eq (tgt := 57) hx hb dX10_faultOfDay_52 (by decide) (fun c23 => ?_) (fun c23 => ?_)
            · --
              have i24 : Iv v22 0 0 := iv_eq1 c23 p22_1 (⟨by decide, by decide⟩ : Iv 0 0 0) (by decide)
              refine lv_aload_n hx hb dX10_faultOfDay_57 rfl (lv_at hl 0 rfl) ?_
              refine g_576 cx hw ha0 k_f_X10_10 dX10_faultOfDay_58 (fun v25 e25 h25 => ?_)
              rw [show v25 = v1 from Option.some.inj (e25.symm.trans (((kr_c p17_0 (by decide)).trans ((kr_c fr_23 (by decide)).trans ((kr_c frE_23 (by decide)).symm.trans (((kr_c p3_0 (by decide)).trans e1)))))))]
              refine lv_bipush (v := 59) hx hb dX10_faultOfDay_61 (by decide) ?_
              have z26 : (σ16.1 385 v1).toInt = ((σ2.1 385 v1) : Int32).toInt := congrArg Int32.toInt (show σ16.1 385 v1 = (σ2.1 385 v1) from ((kp_c p17_0 (by decide)).trans ((kp_c fr_23 (by decide)).trans ((kp_c frE_23 (by decide)).symm.trans (rfl)))))
              refine o_ci hw (oRunV cx hA hw q_X7_take k_m_X10_234 rfl h1 (by decide) (As := [.int 59]) (c_X7_take v1 h1 59 (iv_w (⟨by decide, by decide⟩ : Iv 59 59 59) (by decide))) (by decide) rfl hl.1 rfl (Nat.le_of_ble_eq_true rfl) dX10_faultOfDay_63 (by decide)) (fun v28 σ27 H locs hp hw => ?_)
              obtain ⟨p28_0, p28_1, p28_2⟩ := hp
              have fr := oFr_tr fr p28_0 (by decide)
              refine lv_if_ne (tgt := 77) hx hb dX10_faultOfDay_66 (by decide) (fun c29 => ?_) (fun c29 => ?_)
              · --
                have i30 : Iv v28 1 1 := iv_ne1 c29 p28_1 (⟨by decide, by decide⟩ : Iv 0 0 0) (by decide)
                obtain ⟨v31, e31⟩ : ∃ y : Int32, y = j23_1 + 1 := ⟨_, rfl⟩
                have i31 : Iv v31 1 60 := iv_add e31 i15 (⟨by decide, by decide⟩ : Iv 1 1 1) (by decide)
                have x31 : v31.toInt = j23_1.toInt + 1 := ex_add e31 i15 (⟨by decide, by decide⟩ : Iv 1 1 1) (by decide)
                refine lv_iinc (v := v31) (lv' := [(1, .int v31), (0, .ref a0)]) hx hb dX10_faultOfDay_77 hl (k := 1) rfl (by rw [e31]; rfl) (by decide) rfl (fun ls hl => ?_)
                refine lv_goto (tgt := 23) hx hb dX10_faultOfDay_80 (by decide) ?_
                exact ih_23 v31 (iv_w i31 (by decide)) σ27 _ _ hw fr (ms_up x31 (by decide) (iv_w (a' := 0) (b' := 60) i31 (by decide)).2 hn_23) _ (lv_sub hl [1, 0] rfl)
              · --
                have i32 : Iv v28 0 0 := iv_eq1 c29 p28_1 (⟨by decide, by decide⟩ : Iv 0 0 0) (by decide)
                refine lv_aload_n hx hb dX10_faultOfDay_69 rfl (lv_at hl 0 rfl) ?_
                refine g_576 cx hw ha0 k_f_X10_10 dX10_faultOfDay_70 (fun v33 e33 h33 => ?_)
                rw [show v33 = v1 from Option.some.inj (e33.symm.trans (((kr_c p28_0 (by decide)).trans ((kr_c p17_0 (by decide)).trans ((kr_c fr_23 (by decide)).trans ((kr_c frE_23 (by decide)).symm.trans (((kr_c p3_0 (by decide)).trans e1))))))))]
                refine o_ci hw (oRunV cx hA hw q_X7_fault k_m_X10_231 rfl h1 (by decide) (As := []) (c_X7_fault v1 h1) (by decide) rfl hl.1 rfl (Nat.le_of_ble_eq_true rfl) dX10_faultOfDay_73 (by decide)) (fun v35 σ34 H locs hp hw => ?_)
                obtain ⟨p35_0, p35_1⟩ := hp
                rw [p35_0] at hw
                rw [← hQ]
                exact o_ri cx rx hw dX10_faultOfDay_76 fr
            · --
              have i36 : Iv v22 1 1 := iv_ne1 c23 p22_1 (⟨by decide, by decide⟩ : Iv 0 0 0) (by decide)
              refine lv_iconst (v := 0) hx hb dX10_faultOfDay_55 (by decide) ?_
              rw [← hQ]
              exact o_ri cx rx hw dX10_faultOfDay_56 fr
          · --
            have i37 : Iv v17 (-1) (-1) := iv_eq1 c18 (iv_top v17) (⟨by decide, by decide⟩ : Iv (-1) (-1) (-1)) (by decide)
            refine lv_aload_n hx hb dX10_faultOfDay_37 rfl (lv_at hl 0 rfl) ?_
            refine g_576 cx hw ha0 k_f_X10_10 dX10_faultOfDay_38 (fun v38 e38 h38 => ?_)
            rw [show v38 = v1 from Option.some.inj (e38.symm.trans (((kr_c p17_0 (by decide)).trans ((kr_c fr_23 (by decide)).trans ((kr_c frE_23 (by decide)).symm.trans (((kr_c p3_0 (by decide)).trans e1)))))))]
            refine o_ci hw (oRunV cx hA hw q_X7_fault k_m_X10_231 rfl h1 (by decide) (As := []) (c_X7_fault v1 h1) (by decide) rfl hl.1 rfl (Nat.le_of_ble_eq_true rfl) dX10_faultOfDay_41 (by decide)) (fun v40 σ39 H locs hp hw => ?_)
            obtain ⟨p40_0, p40_1⟩ := hp
            rw [p40_0] at hw
            rw [← hQ]
            exact o_ri cx rx hw dX10_faultOfDay_44 fr
    exact J_23 _ 0 (iv_w (⟨by decide, by decide⟩ : Iv 0 0 0) (by decide)) σ2 _ _ hw fr (Nat.lt_succ_self _) _ (lv_sub hl [1, 0] rfl)
  · --
    have i41 : Iv v7 1 1 := iv_ne1 c8 p7_1 (⟨by decide, by decide⟩ : Iv 0 0 0) (by decide)
    refine lv_iconst (v := 0) hx hb dX10_faultOfDay_19 (by decide) ?_
    rw [← hQ]
    exact o_ri cx rx hw dX10_faultOfDay_20 fr
abbrev fs_X10_perform : List Nat := [329, 330, 331, 517]
abbrev ts_X10_perform : List Nat := [32, 33, 37, 38]
set_option maxHeartbeats 4000000 in
set_option maxRecDepth 100000 in
theorem c_X10_perform (a0 : Nat) (ha0 : oA L τ a0 9) (a1 : Int32) : oMet l A L τ cy D K yX10_perform cX10_perform 4 (some .int) 5 130 [.ref a0, .int a1] σ (va_Qi (fun r σ1 => oFr τ fs_X10_perform ts_X10_perform σ σ1) (oPo A L τ cy D) A) := by
  refine oMk (by decide) (Nat.le_of_ble_eq_true rfl) rfl ?_
  intro p e s m args below meth c ls cx rx hA hw hl
  generalize hQ : MQ below _ args s 0 0 A = Q
  have hx := cx.1.1
  have hb := cx.1.2.1
  have hml := cx.1.2.2.1
  have hown := cx.1.2.2.2.1
  have hts := cx.1.2.2.2.2
  have hl : lv_has ls 4 [(0, .ref a0), (1, .int a1)] := hl
  have fr : oFr τ fs_X10_perform ts_X10_perform σ σ := oFr_rf
  refine lv_iload_n hx hb dX10_perform_0 rfl (lv_at hl 1 rfl) ?_
  refine lv_bipush (v := 6) hx hb dX10_perform_1 (by decide) ?_
  refine lv_ishr hx hb dX10_perform_3 ?_
  refine lv_topi (fun v1 e1 => ?_)
  refine lv_bipush (v := 15) hx hb dX10_perform_4 (by decide) ?_
  refine lv_iand hx hb dX10_perform_6 ?_
  refine lv_topi (fun v2 e2 => ?_)
  have i2 : Iv v2 0 15 := iv_and e2 (⟨by decide, by decide⟩ : Iv 15 15 15) (by decide)
  refine lv_istore_n (lv' := [(2, .int v2), (0, .ref a0), (1, .int a1)]) hx hb dX10_perform_7 rfl hl (by decide) rfl (fun ls hl => ?_)
  refine lv_iload_n hx hb dX10_perform_8 rfl (lv_at hl 2 rfl) ?_
  refine lv_bipush (v := 63) hx hb dX10_perform_9 (by decide) ?_
  refine lv_iand hx hb dX10_perform_11 ?_
  refine lv_topi (fun v3 e3 => ?_)
  have i3 : Iv v3 0 63 := iv_and e3 (⟨by decide, by decide⟩ : Iv 63 63 63) (by decide)
  refine lv_istore_n (lv' := [(3, .int v3), (2, .int v2), (0, .ref a0), (1, .int a1)]) hx hb dX10_perform_12 rfl hl (by decide) rfl (fun ls hl => ?_)
  refine lv_iload_n hx hb dX10_perform_13 rfl (lv_at hl 3 rfl) ?_
  refine lv_bipush (v := 10) hx hb dX10_perform_14 (by decide) ?_
  refine lv_ishr hx hb dX10_perform_16 ?_
  refine lv_topi (fun v4 e4 => ?_)
  by_cases q5 : v4 = 99
  · --
    refine lv_tableIn (tgt := 164) hx hb dX10_perform_17 (by rw [q5]; decide) (by rw [q5]; decide) (by rw [q5]; rfl) (by decide) ?_
    have i6 : Iv v4 99 99 := iv_eq1 q5 (iv_top v4) (⟨by decide, by decide⟩ : Iv 99 99 99) (by decide)
    refine lv_iconst (v := 0) hx hb dX10_perform_164 (by decide) ?_
    refine lv_aload_n hx hb dX10_perform_165 rfl (lv_at hl 2 rfl) ?_
    refine lv_iload_n hx hb dX10_perform_166 rfl (lv_at hl 1 rfl) ?_
    refine lv_iconst (v := 0) hx hb dX10_perform_167 (by decide) ?_
    refine o_ci hw (oRunV cx hA hw q_X10_turn k_m_X10_263 rfl ha0 (by decide) (As := [.int v2, .int 0]) (c_X10_turn a0 ha0 v2 0) (by decide) rfl hl.1 rfl (Nat.le_of_ble_eq_true rfl) dX10_perform_168 (by decide)) (fun v8 σ7 H locs hp hw => ?_)
    obtain ⟨p8_0, p8_1⟩ := hp
    have fr := oFr_tr fr p8_0 (by decide)
    refine va_mmin hx hb (hml.trans hl.1.symm) hown (hts _ k_m_X10_212) (hts _ k_s_J9_min_7cf53) (hts _ k_i_J9) (hts _ k_code_J9_min_7cf53) (by decide) (Nat.le_of_ble_eq_true rfl) (by decide) (by decide) dX10_perform_171 ?_
    refine lv_topi (fun v9 e9 => ?_)
    have i9 : Iv v9 (-2) 0 := iv_min e9 (⟨by decide, by decide⟩ : Iv 0 0 0) p8_1 (by decide)
    rw [← hQ]
    exact o_ri cx rx hw dX10_perform_174 fr
  by_cases q10 : v4 = 100
  · --
    refine lv_tableIn (tgt := 175) hx hb dX10_perform_17 (by rw [q10]; decide) (by rw [q10]; decide) (by rw [q10]; rfl) (by decide) ?_
    have i11 : Iv v4 100 100 := iv_eq1 q10 (iv_top v4) (⟨by decide, by decide⟩ : Iv 100 100 100) (by decide)
    refine lv_iconst (v := 0) hx hb dX10_perform_175 (by decide) ?_
    refine lv_aload_n hx hb dX10_perform_176 rfl (lv_at hl 2 rfl) ?_
    refine lv_iload_n hx hb dX10_perform_177 rfl (lv_at hl 1 rfl) ?_
    refine lv_iload_n hx hb dX10_perform_178 rfl (lv_at hl 0 rfl) ?_
    refine o_ci hw (oRunV cx hA hw q_X10_chase k_m_X10_266 rfl ha0 (by decide) (As := [.int v2, .int v3]) (c_X10_chase a0 ha0 v2 v3) (by decide) rfl hl.1 rfl (Nat.le_of_ble_eq_true rfl) dX10_perform_179 (by decide)) (fun v13 σ12 H locs hp hw => ?_)
    obtain ⟨p13_0, p13_1⟩ := hp
    have fr := oFr_tr fr p13_0 (by decide)
    refine va_mmin hx hb (hml.trans hl.1.symm) hown (hts _ k_m_X10_212) (hts _ k_s_J9_min_7cf53) (hts _ k_i_J9) (hts _ k_code_J9_min_7cf53) (by decide) (Nat.le_of_ble_eq_true rfl) (by decide) (by decide) dX10_perform_182 ?_
    refine lv_topi (fun v14 e14 => ?_)
    have i14 : Iv v14 (-2) 0 := iv_min e14 (⟨by decide, by decide⟩ : Iv 0 0 0) p13_1 (by decide)
    rw [← hQ]
    exact o_ri cx rx hw dX10_perform_185 fr
  by_cases q15 : v4 = 101
  · --
    refine lv_tableIn (tgt := 186) hx hb dX10_perform_17 (by rw [q15]; decide) (by rw [q15]; decide) (by rw [q15]; rfl) (by decide) ?_
    have i16 : Iv v4 101 101 := iv_eq1 q15 (iv_top v4) (⟨by decide, by decide⟩ : Iv 101 101 101) (by decide)
    refine lv_iconst (v := (-1)) hx hb dX10_perform_186 (by decide) ?_
    rw [← hQ]
    exact o_ri cx rx hw dX10_perform_187 fr
  by_cases q17 : v4 = 102
  · --
    refine lv_tableIn (tgt := 186) hx hb dX10_perform_17 (by rw [q17]; decide) (by rw [q17]; decide) (by rw [q17]; rfl) (by decide) ?_
    have i18 : Iv v4 102 102 := iv_eq1 q17 (iv_top v4) (⟨by decide, by decide⟩ : Iv 102 102 102) (by decide)
    refine lv_iconst (v := (-1)) hx hb dX10_perform_186 (by decide) ?_
    rw [← hQ]
    exact o_ri cx rx hw dX10_perform_187 fr
  by_cases q19 : v4 = 103
  · --
    refine lv_tableIn (tgt := 186) hx hb dX10_perform_17 (by rw [q19]; decide) (by rw [q19]; decide) (by rw [q19]; rfl) (by decide) ?_
    have i20 : Iv v4 103 103 := iv_eq1 q19 (iv_top v4) (⟨by decide, by decide⟩ : Iv 103 103 103) (by decide)
    refine lv_iconst (v := (-1)) hx hb dX10_perform_186 (by decide) ?_
    rw [← hQ]
    exact o_ri cx rx hw dX10_perform_187 fr
  by_cases q21 : v4 = 104
  · --
    refine lv_tableIn (tgt := 104) hx hb dX10_perform_17 (by rw [q21]; decide) (by rw [q21]; decide) (by rw [q21]; rfl) (by decide) ?_
    have i22 : Iv v4 104 104 := iv_eq1 q21 (iv_top v4) (⟨by decide, by decide⟩ : Iv 104 104 104) (by decide)
    refine lv_aload_n hx hb dX10_perform_104 rfl (lv_at hl 2 rfl) ?_
    refine g_580 cx hw ha0 k_f_X10_42 dX10_perform_105 (fun v23 e23 h23 => ?_)
    refine lv_aload_n hx hb dX10_perform_108 rfl (lv_at hl 2 rfl) ?_
    refine g_581 cx hw ha0 k_f_X10_49 dX10_perform_109 (fun v24 e24 h24 => ?_)
    refine lv_iload_n hx hb dX10_perform_112 rfl (lv_at hl 1 rfl) ?_
    refine o_ci hw (oRunV cx hA hw q_X9_passMany k_m_X10_276 rfl h23 (by decide) (As := [.ref v24, .int v2]) (c_X9_passMany v23 h23 v24 h24 v2) (by decide) rfl hl.1 rfl (Nat.le_of_ble_eq_true rfl) dX10_perform_113 (by decide)) (fun v26 σ25 H locs hp hw => ?_)
    have p26_0 := hp
    have fr := oFr_tr fr p26_0 (by decide)
    rw [← hQ]
    exact o_ri cx rx hw dX10_perform_116 fr
  by_cases q27 : v4 = 105
  · --
    refine lv_tableIn (tgt := 186) hx hb dX10_perform_17 (by rw [q27]; decide) (by rw [q27]; decide) (by rw [q27]; rfl) (by decide) ?_
    have i28 : Iv v4 105 105 := iv_eq1 q27 (iv_top v4) (⟨by decide, by decide⟩ : Iv 105 105 105) (by decide)
    refine lv_iconst (v := (-1)) hx hb dX10_perform_186 (by decide) ?_
    rw [← hQ]
    exact o_ri cx rx hw dX10_perform_187 fr
  by_cases q29 : v4 = 106
  · --
    refine lv_tableIn (tgt := 186) hx hb dX10_perform_17 (by rw [q29]; decide) (by rw [q29]; decide) (by rw [q29]; rfl) (by decide) ?_
    have i30 : Iv v4 106 106 := iv_eq1 q29 (iv_top v4) (⟨by decide, by decide⟩ : Iv 106 106 106) (by decide)
    refine lv_iconst (v := (-1)) hx hb dX10_perform_186 (by decide) ?_
    rw [← hQ]
    exact o_ri cx rx hw dX10_perform_187 fr
  by_cases q31 : v4 = 107
  · --
    refine lv_tableIn (tgt := 186) hx hb dX10_perform_17 (by rw [q31]; decide) (by rw [q31]; decide) (by rw [q31]; rfl) (by decide) ?_
    have i32 : Iv v4 107 107 := iv_eq1 q31 (iv_top v4) (⟨by decide, by decide⟩ : Iv 107 107 107) (by decide)
    refine lv_iconst (v := (-1)) hx hb dX10_perform_186 (by decide) ?_
    rw [← hQ]
    exact o_ri cx rx hw dX10_perform_187 fr
  by_cases q33 : v4 = 108
  · --
    refine lv_tableIn (tgt := 186) hx hb dX10_perform_17 (by rw [q33]; decide) (by rw [q33]; decide) (by rw [q33]; rfl) (by decide) ?_
    have i34 : Iv v4 108 108 := iv_eq1 q33 (iv_top v4) (⟨by decide, by decide⟩ : Iv 108 108 108) (by decide)
    refine lv_iconst (v := (-1)) hx hb dX10_perform_186 (by decide) ?_
    rw [← hQ]
    exact o_ri cx rx hw dX10_perform_187 fr
  by_cases q35 : v4 = 109
  · --
    refine lv_tableIn (tgt := 186) hx hb dX10_perform_17 (by rw [q35]; decide) (by rw [q35]; decide) (by rw [q35]; rfl) (by decide) ?_
    have i36 : Iv v4 109 109 := iv_eq1 q35 (iv_top v4) (⟨by decide, by decide⟩ : Iv 109 109 109) (by decide)
    refine lv_iconst (v := (-1)) hx hb dX10_perform_186 (by decide) ?_
    rw [← hQ]
    exact o_ri cx rx hw dX10_perform_187 fr
  by_cases q37 : v4 = 110
  · --
    refine lv_tableIn (tgt := 186) hx hb dX10_perform_17 (by rw [q37]; decide) (by rw [q37]; decide) (by rw [q37]; rfl) (by decide) ?_
    have i38 : Iv v4 110 110 := iv_eq1 q37 (iv_top v4) (⟨by decide, by decide⟩ : Iv 110 110 110) (by decide)
    refine lv_iconst (v := (-1)) hx hb dX10_perform_186 (by decide) ?_
    rw [← hQ]
    exact o_ri cx rx hw dX10_perform_187 fr
  by_cases q39 : v4 = 111
  · --
    refine lv_tableIn (tgt := 153) hx hb dX10_perform_17 (by rw [q39]; decide) (by rw [q39]; decide) (by rw [q39]; rfl) (by decide) ?_
    have i40 : Iv v4 111 111 := iv_eq1 q39 (iv_top v4) (⟨by decide, by decide⟩ : Iv 111 111 111) (by decide)
    refine lv_iconst (v := 0) hx hb dX10_perform_153 (by decide) ?_
    refine lv_aload_n hx hb dX10_perform_154 rfl (lv_at hl 2 rfl) ?_
    refine lv_iload_n hx hb dX10_perform_155 rfl (lv_at hl 1 rfl) ?_
    refine lv_iconst (v := 1) hx hb dX10_perform_156 (by decide) ?_
    refine o_ci hw (oRunV cx hA hw q_X10_turn k_m_X10_263 rfl ha0 (by decide) (As := [.int v2, .int 1]) (c_X10_turn a0 ha0 v2 1) (by decide) rfl hl.1 rfl (Nat.le_of_ble_eq_true rfl) dX10_perform_157 (by decide)) (fun v42 σ41 H locs hp hw => ?_)
    obtain ⟨p42_0, p42_1⟩ := hp
    have fr := oFr_tr fr p42_0 (by decide)
    refine va_mmin hx hb (hml.trans hl.1.symm) hown (hts _ k_m_X10_212) (hts _ k_s_J9_min_7cf53) (hts _ k_i_J9) (hts _ k_code_J9_min_7cf53) (by decide) (Nat.le_of_ble_eq_true rfl) (by decide) (by decide) dX10_perform_160 ?_
    refine lv_topi (fun v43 e43 => ?_)
    have i43 : Iv v43 (-2) 0 := iv_min e43 (⟨by decide, by decide⟩ : Iv 0 0 0) p42_1 (by decide)
    rw [← hQ]
    exact o_ri cx rx hw dX10_perform_163 fr
  by_cases q44 : v4 = 112
  · --
    refine lv_tableIn (tgt := 186) hx hb dX10_perform_17 (by rw [q44]; decide) (by rw [q44]; decide) (by rw [q44]; rfl) (by decide) ?_
    have i45 : Iv v4 112 112 := iv_eq1 q44 (iv_top v4) (⟨by decide, by decide⟩ : Iv 112 112 112) (by decide)
    refine lv_iconst (v := (-1)) hx hb dX10_perform_186 (by decide) ?_
    rw [← hQ]
    exact o_ri cx rx hw dX10_perform_187 fr
  by_cases q46 : v4 = 113
  · --
    refine lv_tableIn (tgt := 186) hx hb dX10_perform_17 (by rw [q46]; decide) (by rw [q46]; decide) (by rw [q46]; rfl) (by decide) ?_
    have i47 : Iv v4 113 113 := iv_eq1 q46 (iv_top v4) (⟨by decide, by decide⟩ : Iv 113 113 113) (by decide)
    refine lv_iconst (v := (-1)) hx hb dX10_perform_186 (by decide) ?_
    rw [← hQ]
    exact o_ri cx rx hw dX10_perform_187 fr
  by_cases q48 : v4 = 114
  · --
    refine lv_tableIn (tgt := 186) hx hb dX10_perform_17 (by rw [q48]; decide) (by rw [q48]; decide) (by rw [q48]; rfl) (by decide) ?_
    have i49 : Iv v4 114 114 := iv_eq1 q48 (iv_top v4) (⟨by decide, by decide⟩ : Iv 114 114 114) (by decide)
    refine lv_iconst (v := (-1)) hx hb dX10_perform_186 (by decide) ?_
    rw [← hQ]
    exact o_ri cx rx hw dX10_perform_187 fr
  by_cases q50 : v4 = 115
  · --
    refine lv_tableIn (tgt := 117) hx hb dX10_perform_17 (by rw [q50]; decide) (by rw [q50]; decide) (by rw [q50]; rfl) (by decide) ?_
    have i51 : Iv v4 115 115 := iv_eq1 q50 (iv_top v4) (⟨by decide, by decide⟩ : Iv 115 115 115) (by decide)
    refine lv_iconst (v := 0) hx hb dX10_perform_117 (by decide) ?_
    refine lv_aload_n hx hb dX10_perform_118 rfl (lv_at hl 2 rfl) ?_
    refine lv_aload_n hx hb dX10_perform_119 rfl (lv_at hl 2 rfl) ?_
    refine g_581 cx hw ha0 k_f_X10_49 dX10_perform_120 (fun v52 e52 h52 => ?_)
    refine g_321 cx hw h52 k_f_X10_148 dX10_perform_123 (fun v53 e53 h53 => ?_)
    refine lv_iload_n hx hb dX10_perform_126 rfl (lv_at hl 0 rfl) ?_
    refine lv_iload_n hx hb dX10_perform_127 rfl (lv_at hl 1 rfl) ?_
    refine o_ci hw (oRunV cx hA hw q_X10_lay k_m_X10_257 rfl ha0 (by decide) (As := [.ref v53, .int v3, .int v2]) (c_X10_lay a0 ha0 v53 h53 v3 v2) (by decide) rfl hl.1 rfl (Nat.le_of_ble_eq_true rfl) dX10_perform_128 (by decide)) (fun v55 σ54 H locs hp hw => ?_)
    have p55_0 := hp
    have fr := oFr_tr fr p55_0 (by decide)
    refine va_mmin hx hb (hml.trans hl.1.symm) hown (hts _ k_m_X10_212) (hts _ k_s_J9_min_7cf53) (hts _ k_i_J9) (hts _ k_code_J9_min_7cf53) (by decide) (Nat.le_of_ble_eq_true rfl) (by decide) (by decide) dX10_perform_131 ?_
    refine lv_topi (fun v56 e56 => ?_)
    have i56 : Iv v56 (-2147483648) 0 := iv_min e56 (⟨by decide, by decide⟩ : Iv 0 0 0) (iv_top v55) (by decide)
    rw [← hQ]
    exact o_ri cx rx hw dX10_perform_134 fr
  by_cases q57 : v4 = 116
  · --
    refine lv_tableIn (tgt := 135) hx hb dX10_perform_17 (by rw [q57]; decide) (by rw [q57]; decide) (by rw [q57]; rfl) (by decide) ?_
    have i58 : Iv v4 116 116 := iv_eq1 q57 (iv_top v4) (⟨by decide, by decide⟩ : Iv 116 116 116) (by decide)
    refine lv_iconst (v := 0) hx hb dX10_perform_135 (by decide) ?_
    refine lv_aload_n hx hb dX10_perform_136 rfl (lv_at hl 2 rfl) ?_
    refine lv_aload_n hx hb dX10_perform_137 rfl (lv_at hl 2 rfl) ?_
    refine g_581 cx hw ha0 k_f_X10_49 dX10_perform_138 (fun v59 e59 h59 => ?_)
    refine g_322 cx hw h59 k_f_X10_151 dX10_perform_141 (fun v60 e60 h60 => ?_)
    refine lv_iload_n hx hb dX10_perform_144 rfl (lv_at hl 0 rfl) ?_
    refine lv_iload_n hx hb dX10_perform_145 rfl (lv_at hl 1 rfl) ?_
    refine o_ci hw (oRunV cx hA hw q_X10_lay k_m_X10_257 rfl ha0 (by decide) (As := [.ref v60, .int v3, .int v2]) (c_X10_lay a0 ha0 v60 h60 v3 v2) (by decide) rfl hl.1 rfl (Nat.le_of_ble_eq_true rfl) dX10_perform_146 (by decide)) (fun v62 σ61 H locs hp hw => ?_)
    have p62_0 := hp
    have fr := oFr_tr fr p62_0 (by decide)
    refine va_mmin hx hb (hml.trans hl.1.symm) hown (hts _ k_m_X10_212) (hts _ k_s_J9_min_7cf53) (hts _ k_i_J9) (hts _ k_code_J9_min_7cf53) (by decide) (Nat.le_of_ble_eq_true rfl) (by decide) (by decide) dX10_perform_149 ?_
    refine lv_topi (fun v63 e63 => ?_)
    have i63 : Iv v63 (-2147483648) 0 := iv_min e63 (⟨by decide, by decide⟩ : Iv 0 0 0) (iv_top v62) (by decide)
    rw [← hQ]
    exact o_ri cx rx hw dX10_perform_152 fr
  have q5 := iv_nt q5 (k := 99) (by decide)
  have q10 := iv_nt q10 (k := 100) (by decide)
  have q15 := iv_nt q15 (k := 101) (by decide)
  have q17 := iv_nt q17 (k := 102) (by decide)
  have q19 := iv_nt q19 (k := 103) (by decide)
  have q21 := iv_nt q21 (k := 104) (by decide)
  have q27 := iv_nt q27 (k := 105) (by decide)
  have q29 := iv_nt q29 (k := 106) (by decide)
  have q31 := iv_nt q31 (k := 107) (by decide)
  have q33 := iv_nt q33 (k := 108) (by decide)
  have q35 := iv_nt q35 (k := 109) (by decide)
  have q37 := iv_nt q37 (k := 110) (by decide)
  have q39 := iv_nt q39 (k := 111) (by decide)
  have q44 := iv_nt q44 (k := 112) (by decide)
  have q46 := iv_nt q46 (k := 113) (by decide)
  have q48 := iv_nt q48 (k := 114) (by decide)
  have q50 := iv_nt q50 (k := 115) (by decide)
  have q57 := iv_nt q57 (k := 116) (by decide)
  refine lv_tableOut (tgt := 186) hx hb dX10_perform_17 (by omega) (by decide) ?_
  refine lv_iconst (v := (-1)) hx hb dX10_perform_186 (by decide) ?_
  rw [← hQ]
  exact o_ri cx rx hw dX10_perform_187 fr
abbrev fs_X3_bringBack : List Nat := [129, 130, 327, 328, 329, 330, 331]
abbrev ts_X3_bringBack : List Nat := [32, 33, 34]
set_option maxHeartbeats 4000000 in
set_option maxRecDepth 100000 in
theorem c_X3_bringBack (a0 : Nat) (ha0 : oA L τ a0 2) (a1 : Nat) (ha1 : oA L τ a1 5) : oMet l A L τ cy D K yX3_bringBack cX3_bringBack 2 (some .boolean) 2 81 [.ref a0, .ref a1] σ (va_Qi (fun r σ1 => oFr τ fs_X3_bringBack ts_X3_bringBack σ σ1 ∧ Iv r 0 1 ∧ (∀ V B, RG σ a0 B V → (RG σ1 a0 B V ∧ ∀ a, σ1.1 327 a = σ.1 327 a ∨ σ1.1 327 a = V))) (oPo A L τ cy D) A) := by
  refine oMk (by decide) (Nat.le_of_ble_eq_true rfl) rfl ?_
  intro p e s m args below meth c ls cx rx hA hw hl
  generalize hQ : MQ below _ args s 0 0 A = Q
  have hx := cx.1.1
  have hb := cx.1.2.1
  have hml := cx.1.2.2.1
  have hown := cx.1.2.2.2.1
  have hts := cx.1.2.2.2.2
  have hl : lv_has ls 2 [(0, .ref a0), (1, .ref a1)] := hl
  have fr : oFr τ fs_X3_bringBack ts_X3_bringBack σ σ := oFr_rf
  obtain ⟨b128, hF128, hb128⟩ := hw.2.2.2.2.2 128 a0 40 (by rw [ha0.2]; rfl) ha0.1
  have iz129 : Iv (σ.1 129 a0) (0) 9 := o_fb (j := 129) hw ha0 rfl
  have iz130 : Iv (σ.1 130 a0) (0) 10 := o_fb (j := 130) hw ha0 rfl
  refine lv_aload_n hx hb dX3_bringBack_0 rfl (lv_at hl 0 rfl) ?_
  refine g_130 cx hw ha0 k_f_X3_16 dX3_bringBack_1 (fun v1 e1 i1 => ?_)
  rw [show v1 = (σ.1 130 a0) from e1.trans rfl]
  refine lv_if_ne (tgt := 9) hx hb dX3_bringBack_4 (by decide) (fun c2 => ?_) (fun c2 => ?_)
  · --
    have i3 : Iv (σ.1 130 a0) 1 10 := iv_ne1 c2 iz130 (⟨by decide, by decide⟩ : Iv 0 0 0) (by decide)
    refine lv_aload_n hx hb dX3_bringBack_9 rfl (lv_at hl 0 rfl) ?_
    refine lv_aload_n hx hb dX3_bringBack_10 rfl (lv_at hl 0 rfl) ?_
    refine g_129 cx hw ha0 k_f_X3_20 dX3_bringBack_11 (fun v4 e4 i4 => ?_)
    rw [show v4 = (σ.1 129 a0) from e4.trans rfl]
    refine lv_bipush (v := 10) hx hb dX3_bringBack_14 (by decide) ?_
    refine lv_iadd hx hb dX3_bringBack_16 ?_
    refine lv_topi (fun v5 e5 => ?_)
    have i5 : Iv v5 10 19 := iv_add e5 iz129 (⟨by decide, by decide⟩ : Iv 10 10 10) (by decide)
    have x5 : v5.toInt = (σ.1 129 a0).toInt + 10 := ex_add e5 iz129 (⟨by decide, by decide⟩ : Iv 10 10 10) (by decide)
    refine lv_iconst (v := 1) hx hb dX3_bringBack_17 (by decide) ?_
    refine lv_isub hx hb dX3_bringBack_18 ?_
    refine lv_topi (fun v6 e6 => ?_)
    have i6 : Iv v6 9 18 := iv_sub e6 i5 (⟨by decide, by decide⟩ : Iv 1 1 1) (by decide)
    have x6 : v6.toInt = v5.toInt + (-1) := ex_sub e6 i5 (⟨by decide, by decide⟩ : Iv 1 1 1) (by decide)
    refine lv_bipush (v := 10) hx hb dX3_bringBack_19 (by decide) ?_
    refine lv_irem hx hb dX3_bringBack_21 (iv_nz (⟨by decide, by decide⟩ : Iv 10 10 10) (by decide)) ?_
    refine lv_topi (fun v7 e7 => ?_)
    have i7 : Iv v7 0 9 := iv_rem e7 i6 (⟨by decide, by decide⟩ : Iv 10 10 10) (by decide)
    have rm9 := ex_rem2 e7 i6 (by decide) (show (10 : Int32).toInt = 10 by decide)
    refine p_129 cx hw ha0 (iv_w i7 (by decide)) k_f_X3_20 dX3_bringBack_22 (fun σ8 H locs eσ8 hw => ?_)
    have fr := oFr_i fr eσ8 (by decide)
    refine lv_aload_n hx hb dX3_bringBack_25 rfl (lv_at hl 1 rfl) ?_
    refine lv_aload_n hx hb dX3_bringBack_26 rfl (lv_at hl 0 rfl) ?_
    refine g_128 cx hw ha0 k_f_X3_11 dX3_bringBack_27 (fun v9 e9 h9 => ?_)
    rw [show v9 = b128 from Option.some.inj (e9.symm.trans (((kr_i eσ8).trans hF128)))]
    refine lv_aload_n hx hb dX3_bringBack_30 rfl (lv_at hl 0 rfl) ?_
    refine g_129 cx hw ha0 k_f_X3_20 dX3_bringBack_31 (fun v10 e10 i10 => ?_)
    rw [show v10 = v7 from e10.trans (kp_s eσ8)]
    refine o_aald cx hw hb128 (by decide) rfl (iv_in i7 (by decide)) (by decide) dX3_bringBack_34 (fun v11 e11 h11 => ?_)
    have i12 : Iv (σ8.1 327 a1) 0 6 := o_fb (j := 327) hw ha1 rfl
    have i13 : Iv (σ8.1 327 v11) 0 6 := o_fb (j := 327) hw h11 rfl
    refine o_cv hw (oRunV cx hA hw q_X6_copyFrom k_m_X3_23 rfl ha1 (by decide) (As := [.ref v11]) (c_X6_copyFrom a1 ha1 v11 h11) (by decide) rfl hl.1 rfl (Nat.le_of_ble_eq_true rfl) dX3_bringBack_35 (by decide)) (fun σ14 H locs hp hw => ?_)
    obtain ⟨p15_0, p15_1⟩ := hp
    have fr := oFr_tr fr p15_0 (by decide)
    have i16 : Iv (σ14.1 327 a1) 0 6 := o_fb (j := 327) hw ha1 rfl
    have i17 : Iv (σ14.1 327 v11) 0 6 := o_fb (j := 327) hw h11 rfl
    refine lv_aload_n hx hb dX3_bringBack_38 rfl (lv_at hl 0 rfl) ?_
    refine lv_dup hx hb dX3_bringBack_39 rfl ?_
    refine g_130 cx hw ha0 k_f_X3_16 dX3_bringBack_40 (fun v18 e18 i18 => ?_)
    rw [show v18 = (σ.1 130 a0) from e18.trans ((kp_c p15_0 (by decide)).trans ((kp_i eσ8 (by decide)).trans rfl))]
    refine lv_iconst (v := 1) hx hb dX3_bringBack_43 (by decide) ?_
    refine lv_isub hx hb dX3_bringBack_44 ?_
    refine lv_topi (fun v19 e19 => ?_)
    have i19 : Iv v19 0 9 := iv_sub e19 i3 (⟨by decide, by decide⟩ : Iv 1 1 1) (by decide)
    have x19 : v19.toInt = (σ.1 130 a0).toInt + (-1) := ex_sub e19 i3 (⟨by decide, by decide⟩ : Iv 1 1 1) (by decide)
    refine p_130 cx hw ha0 (iv_w i19 (by decide)) k_f_X3_16 dX3_bringBack_45 (fun σ20 H locs eσ20 hw => ?_)
    have fr := oFr_i fr eσ20 (by decide)
    refine lv_iconst (v := 1) hx hb dX3_bringBack_48 (by decide) ?_
    rw [← hQ]
    exact o_rz cx rx hw (iv_nz01 (iv_w (⟨by decide, by decide⟩ : Iv 1 1 1) (by decide))) dX3_bringBack_49 ⟨fr, (iv_w (⟨by decide, by decide⟩ : Iv 1 1 1) (by decide)), (by intro V B hB; have b9 : Iv (σ.1 130 a0) 1 10 := (by have := (i7).1; have := (i7).2; have := (i16).1; have := (i16).2; have := (i17).1; have := (i17).2; have := (i19).1; have := (i19).2; have := (iz129).1; have := (iz129).2; have := (i3).1; have := (i3).2; have := (i5).1; have := (i5).2; have := (i6).1; have := (i6).2; have := (i12).1; have := (i12).2; have := (i13).1; have := (i13).2; have : (σ20.1 129 a0).toInt = (v7 : Int32).toInt := congrArg Int32.toInt (show σ20.1 129 a0 = v7 from ((kp_i eσ20 (by decide)).trans ((kp_c p15_0 (by decide)).trans (kp_s eσ8)))); have : (σ20.1 327 a1).toInt = ((σ14.1 327 a1) : Int32).toInt := congrArg Int32.toInt (show σ20.1 327 a1 = (σ14.1 327 a1) from ((kp_i eσ20 (by decide)).trans rfl)); have : (σ20.1 327 v11).toInt = ((σ14.1 327 v11) : Int32).toInt := congrArg Int32.toInt (show σ20.1 327 v11 = (σ14.1 327 v11) from ((kp_i eσ20 (by decide)).trans rfl)); have : (σ20.1 130 a0).toInt = (v19 : Int32).toInt := congrArg Int32.toInt (show σ20.1 130 a0 = v19 from (kp_s eσ20)); have : (1 : Int32).toInt = 1 := (by decide); exact ⟨by omega, by omega⟩); have x9 : σ8.1 327 v11 = V := (((kp_i eσ8 (by decide)).trans rfl)).trans (rg_at hB hF128 iz129 b9 (by have := (i7).1; have := (i7).2; have := (i16).1; have := (i16).2; have := (i17).1; have := (i17).2; have := (i19).1; have := (i19).2; have := (iz129).1; have := (iz129).2; have := (i3).1; have := (i3).2; have := (i5).1; have := (i5).2; have := (i6).1; have := (i6).2; have := (i12).1; have := (i12).2; have := (i13).1; have := (i13).2; have : (σ20.1 129 a0).toInt = (v7 : Int32).toInt := congrArg Int32.toInt (show σ20.1 129 a0 = v7 from ((kp_i eσ20 (by decide)).trans ((kp_c p15_0 (by decide)).trans (kp_s eσ8)))); have : (σ20.1 327 a1).toInt = ((σ14.1 327 a1) : Int32).toInt := congrArg Int32.toInt (show σ20.1 327 a1 = (σ14.1 327 a1) from ((kp_i eσ20 (by decide)).trans rfl)); have : (σ20.1 327 v11).toInt = ((σ14.1 327 v11) : Int32).toInt := congrArg Int32.toInt (show σ20.1 327 v11 = (σ14.1 327 v11) from ((kp_i eσ20 (by decide)).trans rfl)); have : (σ20.1 130 a0).toInt = (v19 : Int32).toInt := congrArg Int32.toInt (show σ20.1 130 a0 = v19 from (kp_s eσ20)); have : (1 : Int32).toInt = 1 := (by decide); omega) ((kr_i eσ8).symm.trans e11)); have u9 : ∀ a, σ20.1 327 a = σ.1 327 a ∨ σ20.1 327 a = V := fun a => (u_mv (u_cp p15_1) (fun a => ((kp_i eσ20 (by decide)).trans rfl)) a).imp (fun z => z.trans (((kp_i eσ8 (by decide)).trans rfl))) (fun z => z.trans x9); exact ⟨rg_back hB (nv_r2 (X := [128]) fr (by decide) (by decide)) iz129 b9 (by have := (i7).1; have := (i7).2; have := (i16).1; have := (i16).2; have := (i17).1; have := (i17).2; have := (i19).1; have := (i19).2; have := (iz129).1; have := (iz129).2; have := (i3).1; have := (i3).2; have := (i5).1; have := (i5).2; have := (i6).1; have := (i6).2; have := (i12).1; have := (i12).2; have := (i13).1; have := (i13).2; have : (σ20.1 129 a0).toInt = (v7 : Int32).toInt := congrArg Int32.toInt (show σ20.1 129 a0 = v7 from ((kp_i eσ20 (by decide)).trans ((kp_c p15_0 (by decide)).trans (kp_s eσ8)))); have : (σ20.1 327 a1).toInt = ((σ14.1 327 a1) : Int32).toInt := congrArg Int32.toInt (show σ20.1 327 a1 = (σ14.1 327 a1) from ((kp_i eσ20 (by decide)).trans rfl)); have : (σ20.1 327 v11).toInt = ((σ14.1 327 v11) : Int32).toInt := congrArg Int32.toInt (show σ20.1 327 v11 = (σ14.1 327 v11) from ((kp_i eσ20 (by decide)).trans rfl)); have : (σ20.1 130 a0).toInt = (v19 : Int32).toInt := congrArg Int32.toInt (show σ20.1 130 a0 = v19 from (kp_s eσ20)); have : (1 : Int32).toInt = 1 := (by decide); omega) (by have := (i7).1; have := (i7).2; have := (i16).1; have := (i16).2; have := (i17).1; have := (i17).2; have := (i19).1; have := (i19).2; have := (iz129).1; have := (iz129).2; have := (i3).1; have := (i3).2; have := (i5).1; have := (i5).2; have := (i6).1; have := (i6).2; have := (i12).1; have := (i12).2; have := (i13).1; have := (i13).2; have : (σ20.1 129 a0).toInt = (v7 : Int32).toInt := congrArg Int32.toInt (show σ20.1 129 a0 = v7 from ((kp_i eσ20 (by decide)).trans ((kp_c p15_0 (by decide)).trans (kp_s eσ8)))); have : (σ20.1 327 a1).toInt = ((σ14.1 327 a1) : Int32).toInt := congrArg Int32.toInt (show σ20.1 327 a1 = (σ14.1 327 a1) from ((kp_i eσ20 (by decide)).trans rfl)); have : (σ20.1 327 v11).toInt = ((σ14.1 327 v11) : Int32).toInt := congrArg Int32.toInt (show σ20.1 327 v11 = (σ14.1 327 v11) from ((kp_i eσ20 (by decide)).trans rfl)); have : (σ20.1 130 a0).toInt = (v19 : Int32).toInt := congrArg Int32.toInt (show σ20.1 130 a0 = v19 from (kp_s eσ20)); have : (1 : Int32).toInt = 1 := (by decide); omega) u9, u9⟩)⟩
  · --
    have i21 : Iv (σ.1 130 a0) 0 0 := iv_eq1 c2 iz130 (⟨by decide, by decide⟩ : Iv 0 0 0) (by decide)
    refine lv_iconst (v := 0) hx hb dX3_bringBack_7 (by decide) ?_
    rw [← hQ]
    exact o_rz cx rx hw (iv_nz01 (iv_w (⟨by decide, by decide⟩ : Iv 0 0 0) (by decide))) dX3_bringBack_8 ⟨fr, (iv_w (⟨by decide, by decide⟩ : Iv 0 0 0) (by decide)), (by intro V B hB; exact ⟨hB, fun a => Or.inl rfl⟩)⟩
set_option maxHeartbeats 4000000 in
set_option maxRecDepth 100000 in
theorem c_X6_roadCells (a0 : Nat) (ha0 : oA L τ a0 5) (a1 : Int32) : oMet l A L τ cy D K yX6_roadCells cX6_roadCells 5 (some .long) 1 22 [.ref a0, .int a1] σ (va_Ql (fun r σ1 => σ1 = σ) (oPo A L τ cy D) A) := by
  refine oMk (by decide) (Nat.le_of_ble_eq_true rfl) rfl ?_
  intro p e s m args below meth c ls cx rx hA hw hl
  generalize hQ : MQ below _ args s 0 0 A = Q
  have hx := cx.1.1
  have hb := cx.1.2.1
  have hml := cx.1.2.2.1
  have hown := cx.1.2.2.2.1
  have hts := cx.1.2.2.2.2
  have hl : lv_has ls 5 [(0, .ref a0), (1, .int a1)] := hl
  refine lv_lconst (v := 0) hx hb dX6_roadCells_0 (by decide) ?_
  refine lv_lstore_n (lv' := [(2, .long 0), (0, .ref a0), (1, .int a1)]) hx hb dX6_roadCells_1 rfl hl (by decide) rfl (fun ls hl => ?_)
  refine lv_iconst (v := 0) hx hb dX6_roadCells_2 (by decide) ?_
  refine lv_istore (lv' := [(4, .int 0), (2, .long 0), (0, .ref a0), (1, .int a1)]) hx hb dX6_roadCells_3 hl (by decide) rfl (fun ls hl => ?_)
  have J_5 : ∀ n5 : Nat, ∀ (j5_2 : Int64) (j5_4 : Int32) (ij5_4 : Iv j5_4 0 64), ∀ (H : Heap) (locs : List Loc), oI A L τ cy D s.heap σ H locs → (64 - j5_4.toInt).toNat < n5 → ∀ (ls : Array Slot), lv_has ls 5 [(0, .ref a0), (1, .int a1), (2, .long j5_2), (4, .int j5_4)] → W p l e ({ frames := 1, cells := 0, slots := 0, locals := 22 } : Room) s m args below meth c H locs 0 0 Q (F0 m 5 ls []) := by
    intro n5
    induction n5 with
    | zero => intro j5_2 j5_4 ij5_4 H locs hw  hn_5   ls hl; exact absurd hn_5 (Nat.not_lt_zero _)
    | succ n5 ih_5 =>
      intro j5_2 j5_4 ij5_4 H locs hw  hn_5   ls hl
      refine lv_iload hx hb dX6_roadCells_5 (lv_at hl 3 rfl) ?_
      refine lv_bipush (v := 64) hx hb dX6_roadCells_7 (by decide) ?_
      refine lv_icmp_ge (tgt := 36) hx hb dX6_roadCells_9 (by decide) (fun c1 => ?_) (fun c1 => ?_)
      · --
        have i2 : Iv j5_4 64 64 := iv_le2 c1 (⟨by decide, by decide⟩ : Iv 64 64 64) ij5_4 (by decide)
        refine lv_lload_n hx hb dX6_roadCells_36 rfl (lv_at hl 2 rfl) ?_
        rw [← hQ]
        exact o_rl cx rx hw dX6_roadCells_37 rfl
      · --
        have i3 : Iv j5_4 0 63 := iv_lt1 (iv_nle c1) ij5_4 (⟨by decide, by decide⟩ : Iv 64 64 64) (by decide)
        refine lv_aload_n hx hb dX6_roadCells_12 rfl (lv_at hl 0 rfl) ?_
        refine lv_iload hx hb dX6_roadCells_13 (lv_at hl 3 rfl) ?_
        refine lv_iload_n hx hb dX6_roadCells_15 rfl (lv_at hl 1 rfl) ?_
        refine o_ci hw (oRunV cx hA hw q_X6_isRoad k_m_X6_65 rfl ha0 (by decide) (As := [.int j5_4, .int a1]) (c_X6_isRoad a0 ha0 j5_4 (iv_w i3 (by decide)) a1) (by decide) rfl hl.1 rfl (Nat.le_of_ble_eq_true rfl) dX6_roadCells_16 (by decide)) (fun v5 σ4 H locs hp hw => ?_)
        obtain ⟨p5_0, p5_1⟩ := hp
        rw [p5_0] at hw
        have J_30 : ∀ (j30_2 : Int64), ∀ (H : Heap) (locs : List Loc), oI A L τ cy D s.heap σ H locs → ∀ (ls : Array Slot), lv_has ls 5 [(0, .ref a0), (1, .int a1), (2, .long j30_2), (4, .int j5_4)] → W p l e ({ frames := 1, cells := 0, slots := 0, locals := 22 } : Room) s m args below meth c H locs 0 0 Q (F0 m 30 ls []) := by
          intro j30_2 H locs hw     ls hl
          obtain ⟨v6, e6⟩ : ∃ y : Int32, y = j5_4 + 1 := ⟨_, rfl⟩
          have i6 : Iv v6 1 64 := iv_add e6 i3 (⟨by decide, by decide⟩ : Iv 1 1 1) (by decide)
          have x6 : v6.toInt = j5_4.toInt + 1 := ex_add e6 i3 (⟨by decide, by decide⟩ : Iv 1 1 1) (by decide)
          refine lv_iinc (v := v6) (lv' := [(4, .int v6), (0, .ref a0), (1, .int a1), (2, .long j30_2)]) hx hb dX6_roadCells_30 hl (k := 3) rfl (by rw [e6]; rfl) (by decide) rfl (fun ls hl => ?_)
          refine lv_goto (tgt := 5) hx hb dX6_roadCells_33 (by decide) ?_
          exact ih_5 j30_2 v6 (iv_w i6 (by decide)) _ _ hw (ms_up x6 (by decide) (iv_w (a' := 0) (b' := 64) i6 (by decide)).2 hn_5) _ (lv_sub hl [1, 2, 3, 0] rfl)
        refine lv_if_eq (tgt := 30) hx hb dX6_roadCells_19 (by decide) (fun c7 => ?_) (fun c7 => ?_)
        · --
          have i8 : Iv v5 0 0 := iv_eq1 c7 p5_1 (⟨by decide, by decide⟩ : Iv 0 0 0) (by decide)
          exact J_30 j5_2 _ _ hw _ (lv_sub hl [0, 1, 2, 3] rfl)
        · --
          have i9 : Iv v5 1 1 := iv_ne1 c7 p5_1 (⟨by decide, by decide⟩ : Iv 0 0 0) (by decide)
          refine lv_lload_n hx hb dX6_roadCells_22 rfl (lv_at hl 2 rfl) ?_
          refine lv_iload hx hb dX6_roadCells_23 (lv_at hl 3 rfl) ?_
          refine o_cl hw (oRunS cx hA hw q_X0_bit k_m_X6_69 (As := [.int j5_4]) (c_X0_bit j5_4) (by decide) rfl hl.1 rfl (Nat.le_of_ble_eq_true rfl) dX6_roadCells_25 (by decide)) (fun v11 σ10 H locs hp hw => ?_)
          obtain ⟨p11_0, p11_1⟩ := hp
          rw [p11_0] at hw
          refine lv_lor hx hb dX6_roadCells_28 ?_
          refine lv_topl (fun v12 e12 => ?_)
          refine lv_lstore_n (lv' := [(2, .long v12), (0, .ref a0), (1, .int a1), (4, .int j5_4)]) hx hb dX6_roadCells_29 rfl hl (by decide) rfl (fun ls hl => ?_)
          exact J_30 v12 _ _ hw _ (lv_sub hl [1, 2, 0, 3] rfl)
  exact J_5 _ 0 0 (iv_w (⟨by decide, by decide⟩ : Iv 0 0 0) (by decide)) _ _ hw (Nat.lt_succ_self _) _ (lv_sub hl [2, 3, 1, 0] rfl)
set_option maxHeartbeats 4000000 in
set_option maxRecDepth 100000 in
theorem c_X10_roadNow (a0 : Nat) (ha0 : oA L τ a0 9) : oMet l A L τ cy D K yX10_roadNow cX10_roadNow 1 (some .long) 2 46 [.ref a0] σ (va_Ql (fun r σ1 => σ1 = σ) (oPo A L τ cy D) A) := by
  refine oMk (by decide) (Nat.le_of_ble_eq_true rfl) rfl ?_
  intro p e s m args below meth c ls cx rx hA hw hl
  generalize hQ : MQ below _ args s 0 0 A = Q
  have hx := cx.1.1
  have hb := cx.1.2.1
  have hml := cx.1.2.2.1
  have hown := cx.1.2.2.2.1
  have hts := cx.1.2.2.2.2
  have hl : lv_has ls 1 [(0, .ref a0)] := hl
  refine lv_aload_n hx hb dX10_roadNow_0 rfl (lv_at hl 0 rfl) ?_
  refine g_581 cx hw ha0 k_f_X10_49 dX10_roadNow_1 (fun v1 e1 h1 => ?_)
  refine lv_aload_n hx hb dX10_roadNow_4 rfl (lv_at hl 0 rfl) ?_
  refine g_580 cx hw ha0 k_f_X10_42 dX10_roadNow_5 (fun v2 e2 h2 => ?_)
  refine g_514 cx hw h2 k_f_X10_167 dX10_roadNow_8 (fun v3 e3 => ?_)
  refine o_cl hw (oRunV cx hA hw q_X6_roadCells k_m_X10_370 rfl h1 (by decide) (As := [.int v3]) (c_X6_roadCells v1 h1 v3) (by decide) rfl hl.1 rfl (Nat.le_of_ble_eq_true rfl) dX10_roadNow_11 (by decide)) (fun v5 σ4 H locs hp hw => ?_)
  have p5_0 := hp
  rw [p5_0] at hw
  rw [← hQ]
  exact o_rl cx rx hw dX10_roadNow_14 rfl
set_option maxHeartbeats 4000000 in
set_option maxRecDepth 100000 in
theorem c_J6_numberOfTrailingZeros_0f7a4 (a0 : Int32) : oMet l A L τ cy D K yJ6_numberOfTrailingZeros_0f7a4 cJ6_numberOfTrailingZeros_0f7a4 2 (some .int) 0 0 [.int a0] σ (va_Qi (fun r σ1 => σ1 = σ ∧ (r = nz_F a0)) (oPo A L τ cy D) A) := by
  refine oMk (by decide) (Nat.le_of_ble_eq_true rfl) rfl ?_
  intro p e s m args below meth c ls cx rx hA hw hl
  generalize hQ : MQ below _ args s 0 0 A = Q
  have hx := cx.1.1
  have hb := cx.1.2.1
  have hml := cx.1.2.2.1
  have hown := cx.1.2.2.2.1
  have hts := cx.1.2.2.2.2
  have hl : lv_has ls 2 [(0, .int a0)] := hl
  refine lv_iload_n hx hb dJ6_numberOfTrailingZeros_0f7a4_0 rfl (lv_at hl 0 rfl) ?_
  refine lv_iconst (v := (-1)) hx hb dJ6_numberOfTrailingZeros_0f7a4_1 (by decide) ?_
  refine lv_ixor hx hb dJ6_numberOfTrailingZeros_0f7a4_2 ?_
  refine lv_topi (fun v1 e1 => ?_)
  refine lv_iload_n hx hb dJ6_numberOfTrailingZeros_0f7a4_3 rfl (lv_at hl 0 rfl) ?_
  refine lv_iconst (v := 1) hx hb dJ6_numberOfTrailingZeros_0f7a4_4 (by decide) ?_
  refine lv_isub hx hb dJ6_numberOfTrailingZeros_0f7a4_5 ?_
  refine lv_topi (fun v2 e2 => ?_)
  refine lv_iand hx hb dJ6_numberOfTrailingZeros_0f7a4_6 ?_
  refine lv_topi (fun v3 e3 => ?_)
  refine lv_istore_n (lv' := [(0, .int v3)]) hx hb dJ6_numberOfTrailingZeros_0f7a4_7 rfl hl (by decide) rfl (fun ls hl => ?_)
  refine lv_iload_n hx hb dJ6_numberOfTrailingZeros_0f7a4_8 rfl (lv_at hl 0 rfl) ?_
  refine lv_if_gt (tgt := 17) hx hb dJ6_numberOfTrailingZeros_0f7a4_9 (by decide) (fun c4 => ?_) (fun c4 => ?_)
  · --
    have i5 : Iv v3 1 2147483647 := iv_lt2 c4 (⟨by decide, by decide⟩ : Iv 0 0 0) (iv_top v3) (by decide)
    refine lv_iconst (v := 1) hx hb dJ6_numberOfTrailingZeros_0f7a4_17 (by decide) ?_
    refine lv_istore_n (lv' := [(1, .int 1), (0, .int v3)]) hx hb dJ6_numberOfTrailingZeros_0f7a4_18 rfl hl (by decide) rfl (fun ls hl => ?_)
    refine lv_iload_n hx hb dJ6_numberOfTrailingZeros_0f7a4_19 rfl (lv_at hl 1 rfl) ?_
    refine lv_ldcw (v := 65536) hx hb hown (hts _ k_k_J6_264) dJ6_numberOfTrailingZeros_0f7a4_20 ?_
    refine lv_icmp_le (tgt := 34) hx hb dJ6_numberOfTrailingZeros_0f7a4_23 (by decide) (fun c6 => ?_) (fun c6 => ?_)
    · --
      have i7 : Iv v3 1 65536 := iv_le1 c6 i5 (⟨by decide, by decide⟩ : Iv 65536 65536 65536) (by decide)
      refine lv_iload_n hx hb dJ6_numberOfTrailingZeros_0f7a4_34 rfl (lv_at hl 1 rfl) ?_
      refine lv_sipush (v := 256) hx hb dJ6_numberOfTrailingZeros_0f7a4_35 (by decide) ?_
      refine lv_icmp_le (tgt := 49) hx hb dJ6_numberOfTrailingZeros_0f7a4_38 (by decide) (fun c8 => ?_) (fun c8 => ?_)
      · --
        have i9 : Iv v3 1 256 := iv_le1 c8 i7 (⟨by decide, by decide⟩ : Iv 256 256 256) (by decide)
        refine lv_iload_n hx hb dJ6_numberOfTrailingZeros_0f7a4_49 rfl (lv_at hl 1 rfl) ?_
        refine lv_bipush (v := 16) hx hb dJ6_numberOfTrailingZeros_0f7a4_50 (by decide) ?_
        refine lv_icmp_le (tgt := 62) hx hb dJ6_numberOfTrailingZeros_0f7a4_52 (by decide) (fun c10 => ?_) (fun c10 => ?_)
        · --
          have i11 : Iv v3 1 16 := iv_le1 c10 i9 (⟨by decide, by decide⟩ : Iv 16 16 16) (by decide)
          refine lv_iload_n hx hb dJ6_numberOfTrailingZeros_0f7a4_62 rfl (lv_at hl 1 rfl) ?_
          refine lv_iconst (v := 4) hx hb dJ6_numberOfTrailingZeros_0f7a4_63 (by decide) ?_
          refine lv_icmp_le (tgt := 74) hx hb dJ6_numberOfTrailingZeros_0f7a4_64 (by decide) (fun c12 => ?_) (fun c12 => ?_)
          · --
            have i13 : Iv v3 1 4 := iv_le1 c12 i11 (⟨by decide, by decide⟩ : Iv 4 4 4) (by decide)
            refine lv_iload_n hx hb dJ6_numberOfTrailingZeros_0f7a4_74 rfl (lv_at hl 0 rfl) ?_
            refine lv_iload_n hx hb dJ6_numberOfTrailingZeros_0f7a4_75 rfl (lv_at hl 1 rfl) ?_
            refine lv_iconst (v := 1) hx hb dJ6_numberOfTrailingZeros_0f7a4_76 (by decide) ?_
            refine lv_iushr hx hb dJ6_numberOfTrailingZeros_0f7a4_77 rfl ?_
            refine lv_topi (fun v14 e14 => ?_)
            refine lv_iadd hx hb dJ6_numberOfTrailingZeros_0f7a4_78 ?_
            refine lv_topi (fun v15 e15 => ?_)
            rw [← hQ]
            exact o_ri cx rx hw dJ6_numberOfTrailingZeros_0f7a4_79 ⟨rfl, (by subst e1; subst e2; subst e3; subst e14; subst e15; rw [nz_F, if_pos c4, nz_0, if_pos c6, nz_1, if_pos c8, nz_2, if_pos c10, nz_3, if_pos c12, nz_4] <;> rfl)⟩
          · --
            have i16 : Iv v3 5 16 := iv_lt2 (iv_nle c12) (⟨by decide, by decide⟩ : Iv 4 4 4) i11 (by decide)
            refine lv_iinc (v := 3) (lv' := [(1, .int 3), (0, .int v3)]) hx hb dJ6_numberOfTrailingZeros_0f7a4_67 hl (k := 0) rfl (by decide) (by decide) rfl (fun ls hl => ?_)
            refine lv_iload_n hx hb dJ6_numberOfTrailingZeros_0f7a4_70 rfl (lv_at hl 1 rfl) ?_
            refine lv_iconst (v := 2) hx hb dJ6_numberOfTrailingZeros_0f7a4_71 (by decide) ?_
            refine lv_iushr hx hb dJ6_numberOfTrailingZeros_0f7a4_72 rfl ?_
            refine lv_topi (fun v18 e18 => ?_)
            refine lv_istore_n (lv' := [(0, .int v18), (1, .int 3)]) hx hb dJ6_numberOfTrailingZeros_0f7a4_73 rfl hl (by decide) rfl (fun ls hl => ?_)
            refine lv_iload_n hx hb dJ6_numberOfTrailingZeros_0f7a4_74 rfl (lv_at hl 1 rfl) ?_
            refine lv_iload_n hx hb dJ6_numberOfTrailingZeros_0f7a4_75 rfl (lv_at hl 0 rfl) ?_
            refine lv_iconst (v := 1) hx hb dJ6_numberOfTrailingZeros_0f7a4_76 (by decide) ?_
            refine lv_iushr hx hb dJ6_numberOfTrailingZeros_0f7a4_77 rfl ?_
            refine lv_topi (fun v19 e19 => ?_)
            refine lv_iadd hx hb dJ6_numberOfTrailingZeros_0f7a4_78 ?_
            refine lv_topi (fun v20 e20 => ?_)
            rw [← hQ]
            exact o_ri cx rx hw dJ6_numberOfTrailingZeros_0f7a4_79 ⟨rfl, (by subst e1; subst e2; subst e3; subst e18; subst e19; subst e20; rw [nz_F, if_pos c4, nz_0, if_pos c6, nz_1, if_pos c8, nz_2, if_pos c10, nz_3, if_neg c12, nz_4] <;> rfl)⟩
        · --
          have i21 : Iv v3 17 256 := iv_lt2 (iv_nle c10) (⟨by decide, by decide⟩ : Iv 16 16 16) i9 (by decide)
          refine lv_iinc (v := 5) (lv' := [(1, .int 5), (0, .int v3)]) hx hb dJ6_numberOfTrailingZeros_0f7a4_55 hl (k := 0) rfl (by decide) (by decide) rfl (fun ls hl => ?_)
          refine lv_iload_n hx hb dJ6_numberOfTrailingZeros_0f7a4_58 rfl (lv_at hl 1 rfl) ?_
          refine lv_iconst (v := 4) hx hb dJ6_numberOfTrailingZeros_0f7a4_59 (by decide) ?_
          refine lv_iushr hx hb dJ6_numberOfTrailingZeros_0f7a4_60 rfl ?_
          refine lv_topi (fun v23 e23 => ?_)
          refine lv_istore_n (lv' := [(0, .int v23), (1, .int 5)]) hx hb dJ6_numberOfTrailingZeros_0f7a4_61 rfl hl (by decide) rfl (fun ls hl => ?_)
          refine lv_iload_n hx hb dJ6_numberOfTrailingZeros_0f7a4_62 rfl (lv_at hl 0 rfl) ?_
          refine lv_iconst (v := 4) hx hb dJ6_numberOfTrailingZeros_0f7a4_63 (by decide) ?_
          refine lv_icmp_le (tgt := 74) hx hb dJ6_numberOfTrailingZeros_0f7a4_64 (by decide) (fun c24 => ?_) (fun c24 => ?_)
          · --
            have i25 : Iv v23 (-2147483648) 4 := iv_le1 c24 (iv_top v23) (⟨by decide, by decide⟩ : Iv 4 4 4) (by decide)
            refine lv_iload_n hx hb dJ6_numberOfTrailingZeros_0f7a4_74 rfl (lv_at hl 1 rfl) ?_
            refine lv_iload_n hx hb dJ6_numberOfTrailingZeros_0f7a4_75 rfl (lv_at hl 0 rfl) ?_
            refine lv_iconst (v := 1) hx hb dJ6_numberOfTrailingZeros_0f7a4_76 (by decide) ?_
            refine lv_iushr hx hb dJ6_numberOfTrailingZeros_0f7a4_77 rfl ?_
            refine lv_topi (fun v26 e26 => ?_)
            refine lv_iadd hx hb dJ6_numberOfTrailingZeros_0f7a4_78 ?_
            refine lv_topi (fun v27 e27 => ?_)
            rw [← hQ]
            exact o_ri cx rx hw dJ6_numberOfTrailingZeros_0f7a4_79 ⟨rfl, (by subst e1; subst e2; subst e3; subst e23; subst e26; subst e27; rw [nz_F, if_pos c4, nz_0, if_pos c6, nz_1, if_pos c8, nz_2, if_neg c10, nz_3, if_pos c24, nz_4] <;> rfl)⟩
          · --
            have i28 : Iv v23 5 2147483647 := iv_lt2 (iv_nle c24) (⟨by decide, by decide⟩ : Iv 4 4 4) (iv_top v23) (by decide)
            refine lv_iinc (v := 7) (lv' := [(1, .int 7), (0, .int v23)]) hx hb dJ6_numberOfTrailingZeros_0f7a4_67 hl (k := 1) rfl (by decide) (by decide) rfl (fun ls hl => ?_)
            refine lv_iload_n hx hb dJ6_numberOfTrailingZeros_0f7a4_70 rfl (lv_at hl 1 rfl) ?_
            refine lv_iconst (v := 2) hx hb dJ6_numberOfTrailingZeros_0f7a4_71 (by decide) ?_
            refine lv_iushr hx hb dJ6_numberOfTrailingZeros_0f7a4_72 rfl ?_
            refine lv_topi (fun v30 e30 => ?_)
            refine lv_istore_n (lv' := [(0, .int v30), (1, .int 7)]) hx hb dJ6_numberOfTrailingZeros_0f7a4_73 rfl hl (by decide) rfl (fun ls hl => ?_)
            refine lv_iload_n hx hb dJ6_numberOfTrailingZeros_0f7a4_74 rfl (lv_at hl 1 rfl) ?_
            refine lv_iload_n hx hb dJ6_numberOfTrailingZeros_0f7a4_75 rfl (lv_at hl 0 rfl) ?_
            refine lv_iconst (v := 1) hx hb dJ6_numberOfTrailingZeros_0f7a4_76 (by decide) ?_
            refine lv_iushr hx hb dJ6_numberOfTrailingZeros_0f7a4_77 rfl ?_
            refine lv_topi (fun v31 e31 => ?_)
            refine lv_iadd hx hb dJ6_numberOfTrailingZeros_0f7a4_78 ?_
            refine lv_topi (fun v32 e32 => ?_)
            rw [← hQ]
            exact o_ri cx rx hw dJ6_numberOfTrailingZeros_0f7a4_79 ⟨rfl, (by subst e1; subst e2; subst e3; subst e23; subst e30; subst e31; subst e32; rw [nz_F, if_pos c4, nz_0, if_pos c6, nz_1, if_pos c8, nz_2, if_neg c10, nz_3, if_neg c24, nz_4] <;> rfl)⟩
      · --
        have i33 : Iv v3 257 65536 := iv_lt2 (iv_nle c8) (⟨by decide, by decide⟩ : Iv 256 256 256) i7 (by decide)
        refine lv_iinc (v := 9) (lv' := [(1, .int 9), (0, .int v3)]) hx hb dJ6_numberOfTrailingZeros_0f7a4_41 hl (k := 0) rfl (by decide) (by decide) rfl (fun ls hl => ?_)
        refine lv_iload_n hx hb dJ6_numberOfTrailingZeros_0f7a4_44 rfl (lv_at hl 1 rfl) ?_
        refine lv_bipush (v := 8) hx hb dJ6_numberOfTrailingZeros_0f7a4_45 (by decide) ?_
        refine lv_iushr hx hb dJ6_numberOfTrailingZeros_0f7a4_47 rfl ?_
        refine lv_topi (fun v35 e35 => ?_)
        refine lv_istore_n (lv' := [(0, .int v35), (1, .int 9)]) hx hb dJ6_numberOfTrailingZeros_0f7a4_48 rfl hl (by decide) rfl (fun ls hl => ?_)
        refine lv_iload_n hx hb dJ6_numberOfTrailingZeros_0f7a4_49 rfl (lv_at hl 0 rfl) ?_
        refine lv_bipush (v := 16) hx hb dJ6_numberOfTrailingZeros_0f7a4_50 (by decide) ?_
        refine lv_icmp_le (tgt := 62) hx hb dJ6_numberOfTrailingZeros_0f7a4_52 (by decide) (fun c36 => ?_) (fun c36 => ?_)
        · --
          have i37 : Iv v35 (-2147483648) 16 := iv_le1 c36 (iv_top v35) (⟨by decide, by decide⟩ : Iv 16 16 16) (by decide)
          refine lv_iload_n hx hb dJ6_numberOfTrailingZeros_0f7a4_62 rfl (lv_at hl 0 rfl) ?_
          refine lv_iconst (v := 4) hx hb dJ6_numberOfTrailingZeros_0f7a4_63 (by decide) ?_
          refine lv_icmp_le (tgt := 74) hx hb dJ6_numberOfTrailingZeros_0f7a4_64 (by decide) (fun c38 => ?_) (fun c38 => ?_)
          · --
            have i39 : Iv v35 (-2147483648) 4 := iv_le1 c38 i37 (⟨by decide, by decide⟩ : Iv 4 4 4) (by decide)
            refine lv_iload_n hx hb dJ6_numberOfTrailingZeros_0f7a4_74 rfl (lv_at hl 1 rfl) ?_
            refine lv_iload_n hx hb dJ6_numberOfTrailingZeros_0f7a4_75 rfl (lv_at hl 0 rfl) ?_
            refine lv_iconst (v := 1) hx hb dJ6_numberOfTrailingZeros_0f7a4_76 (by decide) ?_
            refine lv_iushr hx hb dJ6_numberOfTrailingZeros_0f7a4_77 rfl ?_
            refine lv_topi (fun v40 e40 => ?_)
            refine lv_iadd hx hb dJ6_numberOfTrailingZeros_0f7a4_78 ?_
            refine lv_topi (fun v41 e41 => ?_)
            rw [← hQ]
            exact o_ri cx rx hw dJ6_numberOfTrailingZeros_0f7a4_79 ⟨rfl, (by subst e1; subst e2; subst e3; subst e35; subst e40; subst e41; rw [nz_F, if_pos c4, nz_0, if_pos c6, nz_1, if_neg c8, nz_2, if_pos c36, nz_3, if_pos c38, nz_4] <;> rfl)⟩
          · --
            have i42 : Iv v35 5 16 := iv_lt2 (iv_nle c38) (⟨by decide, by decide⟩ : Iv 4 4 4) i37 (by decide)
            refine lv_iinc (v := 11) (lv' := [(1, .int 11), (0, .int v35)]) hx hb dJ6_numberOfTrailingZeros_0f7a4_67 hl (k := 1) rfl (by decide) (by decide) rfl (fun ls hl => ?_)
            refine lv_iload_n hx hb dJ6_numberOfTrailingZeros_0f7a4_70 rfl (lv_at hl 1 rfl) ?_
            refine lv_iconst (v := 2) hx hb dJ6_numberOfTrailingZeros_0f7a4_71 (by decide) ?_
            refine lv_iushr hx hb dJ6_numberOfTrailingZeros_0f7a4_72 rfl ?_
            refine lv_topi (fun v44 e44 => ?_)
            refine lv_istore_n (lv' := [(0, .int v44), (1, .int 11)]) hx hb dJ6_numberOfTrailingZeros_0f7a4_73 rfl hl (by decide) rfl (fun ls hl => ?_)
            refine lv_iload_n hx hb dJ6_numberOfTrailingZeros_0f7a4_74 rfl (lv_at hl 1 rfl) ?_
            refine lv_iload_n hx hb dJ6_numberOfTrailingZeros_0f7a4_75 rfl (lv_at hl 0 rfl) ?_
            refine lv_iconst (v := 1) hx hb dJ6_numberOfTrailingZeros_0f7a4_76 (by decide) ?_
            refine lv_iushr hx hb dJ6_numberOfTrailingZeros_0f7a4_77 rfl ?_
            refine lv_topi (fun v45 e45 => ?_)
            refine lv_iadd hx hb dJ6_numberOfTrailingZeros_0f7a4_78 ?_
            refine lv_topi (fun v46 e46 => ?_)
            rw [← hQ]
            exact o_ri cx rx hw dJ6_numberOfTrailingZeros_0f7a4_79 ⟨rfl, (by subst e1; subst e2; subst e3; subst e35; subst e44; subst e45; subst e46; rw [nz_F, if_pos c4, nz_0, if_pos c6, nz_1, if_neg c8, nz_2, if_pos c36, nz_3, if_neg c38, nz_4] <;> rfl)⟩
        · --
          have i47 : Iv v35 17 2147483647 := iv_lt2 (iv_nle c36) (⟨by decide, by decide⟩ : Iv 16 16 16) (iv_top v35) (by decide)
          refine lv_iinc (v := 13) (lv' := [(1, .int 13), (0, .int v35)]) hx hb dJ6_numberOfTrailingZeros_0f7a4_55 hl (k := 1) rfl (by decide) (by decide) rfl (fun ls hl => ?_)
          refine lv_iload_n hx hb dJ6_numberOfTrailingZeros_0f7a4_58 rfl (lv_at hl 1 rfl) ?_
          refine lv_iconst (v := 4) hx hb dJ6_numberOfTrailingZeros_0f7a4_59 (by decide) ?_
          refine lv_iushr hx hb dJ6_numberOfTrailingZeros_0f7a4_60 rfl ?_
          refine lv_topi (fun v49 e49 => ?_)
          refine lv_istore_n (lv' := [(0, .int v49), (1, .int 13)]) hx hb dJ6_numberOfTrailingZeros_0f7a4_61 rfl hl (by decide) rfl (fun ls hl => ?_)
          refine lv_iload_n hx hb dJ6_numberOfTrailingZeros_0f7a4_62 rfl (lv_at hl 0 rfl) ?_
          refine lv_iconst (v := 4) hx hb dJ6_numberOfTrailingZeros_0f7a4_63 (by decide) ?_
          refine lv_icmp_le (tgt := 74) hx hb dJ6_numberOfTrailingZeros_0f7a4_64 (by decide) (fun c50 => ?_) (fun c50 => ?_)
          · --
            have i51 : Iv v49 (-2147483648) 4 := iv_le1 c50 (iv_top v49) (⟨by decide, by decide⟩ : Iv 4 4 4) (by decide)
            refine lv_iload_n hx hb dJ6_numberOfTrailingZeros_0f7a4_74 rfl (lv_at hl 1 rfl) ?_
            refine lv_iload_n hx hb dJ6_numberOfTrailingZeros_0f7a4_75 rfl (lv_at hl 0 rfl) ?_
            refine lv_iconst (v := 1) hx hb dJ6_numberOfTrailingZeros_0f7a4_76 (by decide) ?_
            refine lv_iushr hx hb dJ6_numberOfTrailingZeros_0f7a4_77 rfl ?_
            refine lv_topi (fun v52 e52 => ?_)
            refine lv_iadd hx hb dJ6_numberOfTrailingZeros_0f7a4_78 ?_
            refine lv_topi (fun v53 e53 => ?_)
            rw [← hQ]
            exact o_ri cx rx hw dJ6_numberOfTrailingZeros_0f7a4_79 ⟨rfl, (by subst e1; subst e2; subst e3; subst e35; subst e49; subst e52; subst e53; rw [nz_F, if_pos c4, nz_0, if_pos c6, nz_1, if_neg c8, nz_2, if_neg c36, nz_3, if_pos c50, nz_4] <;> rfl)⟩
          · --
            have i54 : Iv v49 5 2147483647 := iv_lt2 (iv_nle c50) (⟨by decide, by decide⟩ : Iv 4 4 4) (iv_top v49) (by decide)
            refine lv_iinc (v := 15) (lv' := [(1, .int 15), (0, .int v49)]) hx hb dJ6_numberOfTrailingZeros_0f7a4_67 hl (k := 1) rfl (by decide) (by decide) rfl (fun ls hl => ?_)
            refine lv_iload_n hx hb dJ6_numberOfTrailingZeros_0f7a4_70 rfl (lv_at hl 1 rfl) ?_
            refine lv_iconst (v := 2) hx hb dJ6_numberOfTrailingZeros_0f7a4_71 (by decide) ?_
            refine lv_iushr hx hb dJ6_numberOfTrailingZeros_0f7a4_72 rfl ?_
            refine lv_topi (fun v56 e56 => ?_)
            refine lv_istore_n (lv' := [(0, .int v56), (1, .int 15)]) hx hb dJ6_numberOfTrailingZeros_0f7a4_73 rfl hl (by decide) rfl (fun ls hl => ?_)
            refine lv_iload_n hx hb dJ6_numberOfTrailingZeros_0f7a4_74 rfl (lv_at hl 1 rfl) ?_
            refine lv_iload_n hx hb dJ6_numberOfTrailingZeros_0f7a4_75 rfl (lv_at hl 0 rfl) ?_
            refine lv_iconst (v := 1) hx hb dJ6_numberOfTrailingZeros_0f7a4_76 (by decide) ?_
            refine lv_iushr hx hb dJ6_numberOfTrailingZeros_0f7a4_77 rfl ?_
            refine lv_topi (fun v57 e57 => ?_)
            refine lv_iadd hx hb dJ6_numberOfTrailingZeros_0f7a4_78 ?_
            refine lv_topi (fun v58 e58 => ?_)
            rw [← hQ]
            exact o_ri cx rx hw dJ6_numberOfTrailingZeros_0f7a4_79 ⟨rfl, (by subst e1; subst e2; subst e3; subst e35; subst e49; subst e56; subst e57; subst e58; rw [nz_F, if_pos c4, nz_0, if_pos c6, nz_1, if_neg c8, nz_2, if_neg c36, nz_3, if_neg c50, nz_4] <;> rfl)⟩
    · --
      have i59 : Iv v3 65537 2147483647 := iv_lt2 (iv_nle c6) (⟨by decide, by decide⟩ : Iv 65536 65536 65536) i5 (by decide)
      refine lv_iinc (v := 17) (lv' := [(1, .int 17), (0, .int v3)]) hx hb dJ6_numberOfTrailingZeros_0f7a4_26 hl (k := 0) rfl (by decide) (by decide) rfl (fun ls hl => ?_)
      refine lv_iload_n hx hb dJ6_numberOfTrailingZeros_0f7a4_29 rfl (lv_at hl 1 rfl) ?_
      refine lv_bipush (v := 16) hx hb dJ6_numberOfTrailingZeros_0f7a4_30 (by decide) ?_
      refine lv_iushr hx hb dJ6_numberOfTrailingZeros_0f7a4_32 rfl ?_
      refine lv_topi (fun v61 e61 => ?_)
      have i61 : Iv v61 0 65535 := iv_ushr16 e61
      refine lv_istore_n (lv' := [(0, .int v61), (1, .int 17)]) hx hb dJ6_numberOfTrailingZeros_0f7a4_33 rfl hl (by decide) rfl (fun ls hl => ?_)
      refine lv_iload_n hx hb dJ6_numberOfTrailingZeros_0f7a4_34 rfl (lv_at hl 0 rfl) ?_
      refine lv_sipush (v := 256) hx hb dJ6_numberOfTrailingZeros_0f7a4_35 (by decide) ?_
      refine lv_icmp_le (tgt := 49) hx hb dJ6_numberOfTrailingZeros_0f7a4_38 (by decide) (fun c62 => ?_) (fun c62 => ?_)
      · --
        have i63 : Iv v61 0 256 := iv_le1 c62 i61 (⟨by decide, by decide⟩ : Iv 256 256 256) (by decide)
        refine lv_iload_n hx hb dJ6_numberOfTrailingZeros_0f7a4_49 rfl (lv_at hl 0 rfl) ?_
        refine lv_bipush (v := 16) hx hb dJ6_numberOfTrailingZeros_0f7a4_50 (by decide) ?_
        refine lv_icmp_le (tgt := 62) hx hb dJ6_numberOfTrailingZeros_0f7a4_52 (by decide) (fun c64 => ?_) (fun c64 => ?_)
        · --
          have i65 : Iv v61 0 16 := iv_le1 c64 i63 (⟨by decide, by decide⟩ : Iv 16 16 16) (by decide)
          refine lv_iload_n hx hb dJ6_numberOfTrailingZeros_0f7a4_62 rfl (lv_at hl 0 rfl) ?_
          refine lv_iconst (v := 4) hx hb dJ6_numberOfTrailingZeros_0f7a4_63 (by decide) ?_
          refine lv_icmp_le (tgt := 74) hx hb dJ6_numberOfTrailingZeros_0f7a4_64 (by decide) (fun c66 => ?_) (fun c66 => ?_)
          · --
            have i67 : Iv v61 0 4 := iv_le1 c66 i65 (⟨by decide, by decide⟩ : Iv 4 4 4) (by decide)
            refine lv_iload_n hx hb dJ6_numberOfTrailingZeros_0f7a4_74 rfl (lv_at hl 1 rfl) ?_
            refine lv_iload_n hx hb dJ6_numberOfTrailingZeros_0f7a4_75 rfl (lv_at hl 0 rfl) ?_
            refine lv_iconst (v := 1) hx hb dJ6_numberOfTrailingZeros_0f7a4_76 (by decide) ?_
            refine lv_iushr hx hb dJ6_numberOfTrailingZeros_0f7a4_77 rfl ?_
            refine lv_topi (fun v68 e68 => ?_)
            refine lv_iadd hx hb dJ6_numberOfTrailingZeros_0f7a4_78 ?_
            refine lv_topi (fun v69 e69 => ?_)
            rw [← hQ]
            exact o_ri cx rx hw dJ6_numberOfTrailingZeros_0f7a4_79 ⟨rfl, (by subst e1; subst e2; subst e3; subst e61; subst e68; subst e69; rw [nz_F, if_pos c4, nz_0, if_neg c6, nz_1, if_pos c62, nz_2, if_pos c64, nz_3, if_pos c66, nz_4] <;> rfl)⟩
          · --
            have i70 : Iv v61 5 16 := iv_lt2 (iv_nle c66) (⟨by decide, by decide⟩ : Iv 4 4 4) i65 (by decide)
            refine lv_iinc (v := 19) (lv' := [(1, .int 19), (0, .int v61)]) hx hb dJ6_numberOfTrailingZeros_0f7a4_67 hl (k := 1) rfl (by decide) (by decide) rfl (fun ls hl => ?_)
            refine lv_iload_n hx hb dJ6_numberOfTrailingZeros_0f7a4_70 rfl (lv_at hl 1 rfl) ?_
            refine lv_iconst (v := 2) hx hb dJ6_numberOfTrailingZeros_0f7a4_71 (by decide) ?_
            refine lv_iushr hx hb dJ6_numberOfTrailingZeros_0f7a4_72 rfl ?_
            refine lv_topi (fun v72 e72 => ?_)
            refine lv_istore_n (lv' := [(0, .int v72), (1, .int 19)]) hx hb dJ6_numberOfTrailingZeros_0f7a4_73 rfl hl (by decide) rfl (fun ls hl => ?_)
            refine lv_iload_n hx hb dJ6_numberOfTrailingZeros_0f7a4_74 rfl (lv_at hl 1 rfl) ?_
            refine lv_iload_n hx hb dJ6_numberOfTrailingZeros_0f7a4_75 rfl (lv_at hl 0 rfl) ?_
            refine lv_iconst (v := 1) hx hb dJ6_numberOfTrailingZeros_0f7a4_76 (by decide) ?_
            refine lv_iushr hx hb dJ6_numberOfTrailingZeros_0f7a4_77 rfl ?_
            refine lv_topi (fun v73 e73 => ?_)
            refine lv_iadd hx hb dJ6_numberOfTrailingZeros_0f7a4_78 ?_
            refine lv_topi (fun v74 e74 => ?_)
            rw [← hQ]
            exact o_ri cx rx hw dJ6_numberOfTrailingZeros_0f7a4_79 ⟨rfl, (by subst e1; subst e2; subst e3; subst e61; subst e72; subst e73; subst e74; rw [nz_F, if_pos c4, nz_0, if_neg c6, nz_1, if_pos c62, nz_2, if_pos c64, nz_3, if_neg c66, nz_4] <;> rfl)⟩
        · --
          have i75 : Iv v61 17 256 := iv_lt2 (iv_nle c64) (⟨by decide, by decide⟩ : Iv 16 16 16) i63 (by decide)
          refine lv_iinc (v := 21) (lv' := [(1, .int 21), (0, .int v61)]) hx hb dJ6_numberOfTrailingZeros_0f7a4_55 hl (k := 1) rfl (by decide) (by decide) rfl (fun ls hl => ?_)
          refine lv_iload_n hx hb dJ6_numberOfTrailingZeros_0f7a4_58 rfl (lv_at hl 1 rfl) ?_
          refine lv_iconst (v := 4) hx hb dJ6_numberOfTrailingZeros_0f7a4_59 (by decide) ?_
          refine lv_iushr hx hb dJ6_numberOfTrailingZeros_0f7a4_60 rfl ?_
          refine lv_topi (fun v77 e77 => ?_)
          refine lv_istore_n (lv' := [(0, .int v77), (1, .int 21)]) hx hb dJ6_numberOfTrailingZeros_0f7a4_61 rfl hl (by decide) rfl (fun ls hl => ?_)
          refine lv_iload_n hx hb dJ6_numberOfTrailingZeros_0f7a4_62 rfl (lv_at hl 0 rfl) ?_
          refine lv_iconst (v := 4) hx hb dJ6_numberOfTrailingZeros_0f7a4_63 (by decide) ?_
          refine lv_icmp_le (tgt := 74) hx hb dJ6_numberOfTrailingZeros_0f7a4_64 (by decide) (fun c78 => ?_) (fun c78 => ?_)
          · --
            have i79 : Iv v77 (-2147483648) 4 := iv_le1 c78 (iv_top v77) (⟨by decide, by decide⟩ : Iv 4 4 4) (by decide)
            refine lv_iload_n hx hb dJ6_numberOfTrailingZeros_0f7a4_74 rfl (lv_at hl 1 rfl) ?_
            refine lv_iload_n hx hb dJ6_numberOfTrailingZeros_0f7a4_75 rfl (lv_at hl 0 rfl) ?_
            refine lv_iconst (v := 1) hx hb dJ6_numberOfTrailingZeros_0f7a4_76 (by decide) ?_
            refine lv_iushr hx hb dJ6_numberOfTrailingZeros_0f7a4_77 rfl ?_
            refine lv_topi (fun v80 e80 => ?_)
            refine lv_iadd hx hb dJ6_numberOfTrailingZeros_0f7a4_78 ?_
            refine lv_topi (fun v81 e81 => ?_)
            rw [← hQ]
            exact o_ri cx rx hw dJ6_numberOfTrailingZeros_0f7a4_79 ⟨rfl, (by subst e1; subst e2; subst e3; subst e61; subst e77; subst e80; subst e81; rw [nz_F, if_pos c4, nz_0, if_neg c6, nz_1, if_pos c62, nz_2, if_neg c64, nz_3, if_pos c78, nz_4] <;> rfl)⟩
          · --
            have i82 : Iv v77 5 2147483647 := iv_lt2 (iv_nle c78) (⟨by decide, by decide⟩ : Iv 4 4 4) (iv_top v77) (by decide)
            refine lv_iinc (v := 23) (lv' := [(1, .int 23), (0, .int v77)]) hx hb dJ6_numberOfTrailingZeros_0f7a4_67 hl (k := 1) rfl (by decide) (by decide) rfl (fun ls hl => ?_)
            refine lv_iload_n hx hb dJ6_numberOfTrailingZeros_0f7a4_70 rfl (lv_at hl 1 rfl) ?_
            refine lv_iconst (v := 2) hx hb dJ6_numberOfTrailingZeros_0f7a4_71 (by decide) ?_
            refine lv_iushr hx hb dJ6_numberOfTrailingZeros_0f7a4_72 rfl ?_
            refine lv_topi (fun v84 e84 => ?_)
            refine lv_istore_n (lv' := [(0, .int v84), (1, .int 23)]) hx hb dJ6_numberOfTrailingZeros_0f7a4_73 rfl hl (by decide) rfl (fun ls hl => ?_)
            refine lv_iload_n hx hb dJ6_numberOfTrailingZeros_0f7a4_74 rfl (lv_at hl 1 rfl) ?_
            refine lv_iload_n hx hb dJ6_numberOfTrailingZeros_0f7a4_75 rfl (lv_at hl 0 rfl) ?_
            refine lv_iconst (v := 1) hx hb dJ6_numberOfTrailingZeros_0f7a4_76 (by decide) ?_
            refine lv_iushr hx hb dJ6_numberOfTrailingZeros_0f7a4_77 rfl ?_
            refine lv_topi (fun v85 e85 => ?_)
            refine lv_iadd hx hb dJ6_numberOfTrailingZeros_0f7a4_78 ?_
            refine lv_topi (fun v86 e86 => ?_)
            rw [← hQ]
            exact o_ri cx rx hw dJ6_numberOfTrailingZeros_0f7a4_79 ⟨rfl, (by subst e1; subst e2; subst e3; subst e61; subst e77; subst e84; subst e85; subst e86; rw [nz_F, if_pos c4, nz_0, if_neg c6, nz_1, if_pos c62, nz_2, if_neg c64, nz_3, if_neg c78, nz_4] <;> rfl)⟩
      · --
        have i87 : Iv v61 257 65535 := iv_lt2 (iv_nle c62) (⟨by decide, by decide⟩ : Iv 256 256 256) i61 (by decide)
        refine lv_iinc (v := 25) (lv' := [(1, .int 25), (0, .int v61)]) hx hb dJ6_numberOfTrailingZeros_0f7a4_41 hl (k := 1) rfl (by decide) (by decide) rfl (fun ls hl => ?_)
        refine lv_iload_n hx hb dJ6_numberOfTrailingZeros_0f7a4_44 rfl (lv_at hl 1 rfl) ?_
        refine lv_bipush (v := 8) hx hb dJ6_numberOfTrailingZeros_0f7a4_45 (by decide) ?_
        refine lv_iushr hx hb dJ6_numberOfTrailingZeros_0f7a4_47 rfl ?_
        refine lv_topi (fun v89 e89 => ?_)
        refine lv_istore_n (lv' := [(0, .int v89), (1, .int 25)]) hx hb dJ6_numberOfTrailingZeros_0f7a4_48 rfl hl (by decide) rfl (fun ls hl => ?_)
        refine lv_iload_n hx hb dJ6_numberOfTrailingZeros_0f7a4_49 rfl (lv_at hl 0 rfl) ?_
        refine lv_bipush (v := 16) hx hb dJ6_numberOfTrailingZeros_0f7a4_50 (by decide) ?_
        refine lv_icmp_le (tgt := 62) hx hb dJ6_numberOfTrailingZeros_0f7a4_52 (by decide) (fun c90 => ?_) (fun c90 => ?_)
        · --
          have i91 : Iv v89 (-2147483648) 16 := iv_le1 c90 (iv_top v89) (⟨by decide, by decide⟩ : Iv 16 16 16) (by decide)
          refine lv_iload_n hx hb dJ6_numberOfTrailingZeros_0f7a4_62 rfl (lv_at hl 0 rfl) ?_
          refine lv_iconst (v := 4) hx hb dJ6_numberOfTrailingZeros_0f7a4_63 (by decide) ?_
          refine lv_icmp_le (tgt := 74) hx hb dJ6_numberOfTrailingZeros_0f7a4_64 (by decide) (fun c92 => ?_) (fun c92 => ?_)
          · --
            have i93 : Iv v89 (-2147483648) 4 := iv_le1 c92 i91 (⟨by decide, by decide⟩ : Iv 4 4 4) (by decide)
            refine lv_iload_n hx hb dJ6_numberOfTrailingZeros_0f7a4_74 rfl (lv_at hl 1 rfl) ?_
            refine lv_iload_n hx hb dJ6_numberOfTrailingZeros_0f7a4_75 rfl (lv_at hl 0 rfl) ?_
            refine lv_iconst (v := 1) hx hb dJ6_numberOfTrailingZeros_0f7a4_76 (by decide) ?_
            refine lv_iushr hx hb dJ6_numberOfTrailingZeros_0f7a4_77 rfl ?_
            refine lv_topi (fun v94 e94 => ?_)
            refine lv_iadd hx hb dJ6_numberOfTrailingZeros_0f7a4_78 ?_
            refine lv_topi (fun v95 e95 => ?_)
            rw [← hQ]
            exact o_ri cx rx hw dJ6_numberOfTrailingZeros_0f7a4_79 ⟨rfl, (by subst e1; subst e2; subst e3; subst e61; subst e89; subst e94; subst e95; rw [nz_F, if_pos c4, nz_0, if_neg c6, nz_1, if_neg c62, nz_2, if_pos c90, nz_3, if_pos c92, nz_4] <;> rfl)⟩
          · --
            have i96 : Iv v89 5 16 := iv_lt2 (iv_nle c92) (⟨by decide, by decide⟩ : Iv 4 4 4) i91 (by decide)
            refine lv_iinc (v := 27) (lv' := [(1, .int 27), (0, .int v89)]) hx hb dJ6_numberOfTrailingZeros_0f7a4_67 hl (k := 1) rfl (by decide) (by decide) rfl (fun ls hl => ?_)
            refine lv_iload_n hx hb dJ6_numberOfTrailingZeros_0f7a4_70 rfl (lv_at hl 1 rfl) ?_
            refine lv_iconst (v := 2) hx hb dJ6_numberOfTrailingZeros_0f7a4_71 (by decide) ?_
            refine lv_iushr hx hb dJ6_numberOfTrailingZeros_0f7a4_72 rfl ?_
            refine lv_topi (fun v98 e98 => ?_)
            refine lv_istore_n (lv' := [(0, .int v98), (1, .int 27)]) hx hb dJ6_numberOfTrailingZeros_0f7a4_73 rfl hl (by decide) rfl (fun ls hl => ?_)
            refine lv_iload_n hx hb dJ6_numberOfTrailingZeros_0f7a4_74 rfl (lv_at hl 1 rfl) ?_
            refine lv_iload_n hx hb dJ6_numberOfTrailingZeros_0f7a4_75 rfl (lv_at hl 0 rfl) ?_
            refine lv_iconst (v := 1) hx hb dJ6_numberOfTrailingZeros_0f7a4_76 (by decide) ?_
            refine lv_iushr hx hb dJ6_numberOfTrailingZeros_0f7a4_77 rfl ?_
            refine lv_topi (fun v99 e99 => ?_)
            refine lv_iadd hx hb dJ6_numberOfTrailingZeros_0f7a4_78 ?_
            refine lv_topi (fun v100 e100 => ?_)
            rw [← hQ]
            exact o_ri cx rx hw dJ6_numberOfTrailingZeros_0f7a4_79 ⟨rfl, (by subst e1; subst e2; subst e3; subst e61; subst e89; subst e98; subst e99; subst e100; rw [nz_F, if_pos c4, nz_0, if_neg c6, nz_1, if_neg c62, nz_2, if_pos c90, nz_3, if_neg c92, nz_4] <;> rfl)⟩
        · --
          have i101 : Iv v89 17 2147483647 := iv_lt2 (iv_nle c90) (⟨by decide, by decide⟩ : Iv 16 16 16) (iv_top v89) (by decide)
          refine lv_iinc (v := 29) (lv' := [(1, .int 29), (0, .int v89)]) hx hb dJ6_numberOfTrailingZeros_0f7a4_55 hl (k := 1) rfl (by decide) (by decide) rfl (fun ls hl => ?_)
          refine lv_iload_n hx hb dJ6_numberOfTrailingZeros_0f7a4_58 rfl (lv_at hl 1 rfl) ?_
          refine lv_iconst (v := 4) hx hb dJ6_numberOfTrailingZeros_0f7a4_59 (by decide) ?_
          refine lv_iushr hx hb dJ6_numberOfTrailingZeros_0f7a4_60 rfl ?_
          refine lv_topi (fun v103 e103 => ?_)
          refine lv_istore_n (lv' := [(0, .int v103), (1, .int 29)]) hx hb dJ6_numberOfTrailingZeros_0f7a4_61 rfl hl (by decide) rfl (fun ls hl => ?_)
          refine lv_iload_n hx hb dJ6_numberOfTrailingZeros_0f7a4_62 rfl (lv_at hl 0 rfl) ?_
          refine lv_iconst (v := 4) hx hb dJ6_numberOfTrailingZeros_0f7a4_63 (by decide) ?_
          refine lv_icmp_le (tgt := 74) hx hb dJ6_numberOfTrailingZeros_0f7a4_64 (by decide) (fun c104 => ?_) (fun c104 => ?_)
          · --
            have i105 : Iv v103 (-2147483648) 4 := iv_le1 c104 (iv_top v103) (⟨by decide, by decide⟩ : Iv 4 4 4) (by decide)
            refine lv_iload_n hx hb dJ6_numberOfTrailingZeros_0f7a4_74 rfl (lv_at hl 1 rfl) ?_
            refine lv_iload_n hx hb dJ6_numberOfTrailingZeros_0f7a4_75 rfl (lv_at hl 0 rfl) ?_
            refine lv_iconst (v := 1) hx hb dJ6_numberOfTrailingZeros_0f7a4_76 (by decide) ?_
            refine lv_iushr hx hb dJ6_numberOfTrailingZeros_0f7a4_77 rfl ?_
            refine lv_topi (fun v106 e106 => ?_)
            refine lv_iadd hx hb dJ6_numberOfTrailingZeros_0f7a4_78 ?_
            refine lv_topi (fun v107 e107 => ?_)
            rw [← hQ]
            exact o_ri cx rx hw dJ6_numberOfTrailingZeros_0f7a4_79 ⟨rfl, (by subst e1; subst e2; subst e3; subst e61; subst e89; subst e103; subst e106; subst e107; rw [nz_F, if_pos c4, nz_0, if_neg c6, nz_1, if_neg c62, nz_2, if_neg c90, nz_3, if_pos c104, nz_4] <;> rfl)⟩
          · --
            have i108 : Iv v103 5 2147483647 := iv_lt2 (iv_nle c104) (⟨by decide, by decide⟩ : Iv 4 4 4) (iv_top v103) (by decide)
            refine lv_iinc (v := 31) (lv' := [(1, .int 31), (0, .int v103)]) hx hb dJ6_numberOfTrailingZeros_0f7a4_67 hl (k := 1) rfl (by decide) (by decide) rfl (fun ls hl => ?_)
            refine lv_iload_n hx hb dJ6_numberOfTrailingZeros_0f7a4_70 rfl (lv_at hl 1 rfl) ?_
            refine lv_iconst (v := 2) hx hb dJ6_numberOfTrailingZeros_0f7a4_71 (by decide) ?_
            refine lv_iushr hx hb dJ6_numberOfTrailingZeros_0f7a4_72 rfl ?_
            refine lv_topi (fun v110 e110 => ?_)
            refine lv_istore_n (lv' := [(0, .int v110), (1, .int 31)]) hx hb dJ6_numberOfTrailingZeros_0f7a4_73 rfl hl (by decide) rfl (fun ls hl => ?_)
            refine lv_iload_n hx hb dJ6_numberOfTrailingZeros_0f7a4_74 rfl (lv_at hl 1 rfl) ?_
            refine lv_iload_n hx hb dJ6_numberOfTrailingZeros_0f7a4_75 rfl (lv_at hl 0 rfl) ?_
            refine lv_iconst (v := 1) hx hb dJ6_numberOfTrailingZeros_0f7a4_76 (by decide) ?_
            refine lv_iushr hx hb dJ6_numberOfTrailingZeros_0f7a4_77 rfl ?_
            refine lv_topi (fun v111 e111 => ?_)
            refine lv_iadd hx hb dJ6_numberOfTrailingZeros_0f7a4_78 ?_
            refine lv_topi (fun v112 e112 => ?_)
            rw [← hQ]
            exact o_ri cx rx hw dJ6_numberOfTrailingZeros_0f7a4_79 ⟨rfl, (by subst e1; subst e2; subst e3; subst e61; subst e89; subst e103; subst e110; subst e111; subst e112; rw [nz_F, if_pos c4, nz_0, if_neg c6, nz_1, if_neg c62, nz_2, if_neg c90, nz_3, if_neg c104, nz_4] <;> rfl)⟩
  · --
    have i113 : Iv v3 (-2147483648) 0 := iv_le1 (iv_nlt c4) (iv_top v3) (⟨by decide, by decide⟩ : Iv 0 0 0) (by decide)
    refine lv_iload_n hx hb dJ6_numberOfTrailingZeros_0f7a4_12 rfl (lv_at hl 0 rfl) ?_
    refine lv_bipush (v := 32) hx hb dJ6_numberOfTrailingZeros_0f7a4_13 (by decide) ?_
    refine lv_iand hx hb dJ6_numberOfTrailingZeros_0f7a4_15 ?_
    refine lv_topi (fun v114 e114 => ?_)
    have i114 : Iv v114 0 32 := iv_and e114 (⟨by decide, by decide⟩ : Iv 32 32 32) (by decide)
    rw [← hQ]
    exact o_ri cx rx hw dJ6_numberOfTrailingZeros_0f7a4_16 ⟨rfl, (by subst e1; subst e2; subst e3; subst e114; rw [nz_F, if_neg c4] <;> rfl)⟩
set_option maxHeartbeats 4000000 in
set_option maxRecDepth 100000 in
theorem c_J13_numberOfTrailingZeros_95d88S (a0 : Int64) (hsm : ∃ x : Int32, a0 = x.toInt64 ∧ Iv x 1 63) : oMet l A L τ cy D K yJ13_numberOfTrailingZeros_95d88 cJ13_numberOfTrailingZeros_95d88 3 (some .int) 1 21 [.long a0] σ (va_Qi (fun r σ1 => σ1 = σ ∧ Iv r 0 5) (oPo A L τ cy D) A) := by
  refine oMk (by decide) (Nat.le_of_ble_eq_true rfl) rfl ?_
  intro p e s m args below meth c ls cx rx hA hw hl
  generalize hQ : MQ below _ args s 0 0 A = Q
  have hx := cx.1.1
  have hb := cx.1.2.1
  have hml := cx.1.2.2.1
  have hown := cx.1.2.2.2.1
  have hts := cx.1.2.2.2.2
  have hl : lv_has ls 3 [(0, .long a0)] := hl
  refine lv_lload_n hx hb dJ13_numberOfTrailingZeros_95d88_0 rfl (lv_at hl 0 rfl) ?_
  refine lv_l2i hx hb dJ13_numberOfTrailingZeros_95d88_1 rfl ?_
  refine lv_topi (fun v1 e1 => ?_)
  refine lv_istore_n (lv' := [(2, .int v1), (0, .long a0)]) hx hb dJ13_numberOfTrailingZeros_95d88_2 rfl hl (by decide) rfl (fun ls hl => ?_)
  have i2 : Iv v1 1 63 := sm_l2i hsm e1
  refine lv_iload_n hx hb dJ13_numberOfTrailingZeros_95d88_3 rfl (lv_at hl 0 rfl) ?_
  refine lv_if_ne (tgt := 21) hx hb dJ13_numberOfTrailingZeros_95d88_4 (by decide) (fun c3 => ?_) (fun c3 => ?_)
  · --
    refine lv_iload_n hx hb dJ13_numberOfTrailingZeros_95d88_21 rfl (lv_at hl 0 rfl) ?_
    refine o_ci hw (oRunS cx hA hw q_J6_numberOfTrailingZeros_0f7a4 k_m_J13_311 (As := [.int v1]) (c_J6_numberOfTrailingZeros_0f7a4 v1) (by decide) rfl hl.1 rfl (Nat.le_of_ble_eq_true rfl) dJ13_numberOfTrailingZeros_95d88_22 (by decide)) (fun v5 σ4 H locs hp hw => ?_)
    obtain ⟨p5_0, p5_1⟩ := hp
    rw [p5_0] at hw
    have i6 : Iv v5 0 5 := nz_ok p5_1 i2 (by decide)
    rw [← hQ]
    exact o_ri cx rx hw dJ13_numberOfTrailingZeros_95d88_25 ⟨rfl, (iv_w i6 (by decide))⟩
  · --
    exact iv_no (iv_eq1 (lo := 1) (hi := 0) c3 i2 (⟨by decide, by decide⟩ : Iv 0 0 0) (by decide)) (by decide)
set_option maxHeartbeats 4000000 in
set_option maxRecDepth 100000 in
theorem c_J13_numberOfTrailingZeros_95d88 (a0 : Int64) : oMet l A L τ cy D K yJ13_numberOfTrailingZeros_95d88 cJ13_numberOfTrailingZeros_95d88 3 (some .int) 1 21 [.long a0] σ (va_Qi (fun r σ1 => σ1 = σ) (oPo A L τ cy D) A) := by
  refine oMk (by decide) (Nat.le_of_ble_eq_true rfl) rfl ?_
  intro p e s m args below meth c ls cx rx hA hw hl
  generalize hQ : MQ below _ args s 0 0 A = Q
  have hx := cx.1.1
  have hb := cx.1.2.1
  have hml := cx.1.2.2.1
  have hown := cx.1.2.2.2.1
  have hts := cx.1.2.2.2.2
  have hl : lv_has ls 3 [(0, .long a0)] := hl
  refine lv_lload_n hx hb dJ13_numberOfTrailingZeros_95d88_0 rfl (lv_at hl 0 rfl) ?_
  refine lv_l2i hx hb dJ13_numberOfTrailingZeros_95d88_1 rfl ?_
  refine lv_topi (fun v1 e1 => ?_)
  refine lv_istore_n (lv' := [(2, .int v1), (0, .long a0)]) hx hb dJ13_numberOfTrailingZeros_95d88_2 rfl hl (by decide) rfl (fun ls hl => ?_)
  refine lv_iload_n hx hb dJ13_numberOfTrailingZeros_95d88_3 rfl (lv_at hl 0 rfl) ?_
  refine lv_if_ne (tgt := 21) hx hb dJ13_numberOfTrailingZeros_95d88_4 (by decide) (fun c2 => ?_) (fun c2 => ?_)
  · --
    refine lv_iload_n hx hb dJ13_numberOfTrailingZeros_95d88_21 rfl (lv_at hl 0 rfl) ?_
    refine o_ci hw (oRunS cx hA hw q_J6_numberOfTrailingZeros_0f7a4 k_m_J13_311 (As := [.int v1]) (c_J6_numberOfTrailingZeros_0f7a4 v1) (by decide) rfl hl.1 rfl (Nat.le_of_ble_eq_true rfl) dJ13_numberOfTrailingZeros_95d88_22 (by decide)) (fun v4 σ3 H locs hp hw => ?_)
    obtain ⟨p4_0, p4_1⟩ := hp
    rw [p4_0] at hw
    rw [← hQ]
    exact o_ri cx rx hw dJ13_numberOfTrailingZeros_95d88_25 rfl
  · --
    have i5 : Iv v1 0 0 := iv_eq1 c2 (iv_top v1) (⟨by decide, by decide⟩ : Iv 0 0 0) (by decide)
    refine lv_bipush (v := 32) hx hb dJ13_numberOfTrailingZeros_95d88_7 (by decide) ?_
    refine lv_lload_n hx hb dJ13_numberOfTrailingZeros_95d88_9 rfl (lv_at hl 1 rfl) ?_
    refine lv_bipush (v := 32) hx hb dJ13_numberOfTrailingZeros_95d88_10 (by decide) ?_
    refine lv_lushr hx hb dJ13_numberOfTrailingZeros_95d88_12 rfl ?_
    refine lv_topl (fun v6 e6 => ?_)
    refine lv_l2i hx hb dJ13_numberOfTrailingZeros_95d88_13 rfl ?_
    refine lv_topi (fun v7 e7 => ?_)
    refine o_ci hw (oRunS cx hA hw q_J6_numberOfTrailingZeros_0f7a4 k_m_J13_311 (As := [.int v7]) (c_J6_numberOfTrailingZeros_0f7a4 v7) (by decide) rfl hl.1 rfl (Nat.le_of_ble_eq_true rfl) dJ13_numberOfTrailingZeros_95d88_14 (by decide)) (fun v9 σ8 H locs hp hw => ?_)
    obtain ⟨p9_0, p9_1⟩ := hp
    rw [p9_0] at hw
    refine lv_iadd hx hb dJ13_numberOfTrailingZeros_95d88_17 ?_
    refine lv_topi (fun v10 e10 => ?_)
    refine lv_goto (tgt := 25) hx hb dJ13_numberOfTrailingZeros_95d88_18 (by decide) ?_
    rw [← hQ]
    exact o_ri cx rx hw dJ13_numberOfTrailingZeros_95d88_25 rfl
set_option maxHeartbeats 4000000 in
set_option maxRecDepth 100000 in
theorem c_X0_firstOfS (a0 : Int64) (hsm : ∃ x : Int32, a0 = x.toInt64 ∧ Iv x 0 63) : oMet l A L τ cy D K yX0_firstOf cX0_firstOf 2 (some .int) 2 43 [.long a0] σ (va_Qi (fun r σ1 => σ1 = σ ∧ Iv r (-1) 5) (oPo A L τ cy D) A) := by
  refine oMk (by decide) (Nat.le_of_ble_eq_true rfl) rfl ?_
  intro p e s m args below meth c ls cx rx hA hw hl
  generalize hQ : MQ below _ args s 0 0 A = Q
  have hx := cx.1.1
  have hb := cx.1.2.1
  have hml := cx.1.2.2.1
  have hown := cx.1.2.2.2.1
  have hts := cx.1.2.2.2.2
  have hl : lv_has ls 2 [(0, .long a0)] := hl
  refine lv_lload_n hx hb dX0_firstOf_0 rfl (lv_at hl 0 rfl) ?_
  refine lv_lconst (v := 0) hx hb dX0_firstOf_1 (by decide) ?_
  refine W.lcmp hx hb dX0_firstOf_2 ?_
  refine lv_topi (fun v1 e1 => ?_)
  have i1 : Iv v1 (-1) 1 := iv_lcmp e1
  refine lv_if_ne (tgt := 10) hx hb dX0_firstOf_3 (by decide) (fun c2 => ?_) (fun c2 => ?_)
  · --
    refine lv_lload_n hx hb dX0_firstOf_10 rfl (lv_at hl 0 rfl) ?_
    refine o_ci hw (oRunS cx hA hw q_J13_numberOfTrailingZeros_95d88 k_m_X0_9 (As := [.long a0]) (c_J13_numberOfTrailingZeros_95d88S a0 (sm_nz hsm (lg_ne e1 c2))) (by decide) rfl hl.1 rfl (Nat.le_of_ble_eq_true rfl) dX0_firstOf_11 (by decide)) (fun v4 σ3 H locs hp hw => ?_)
    obtain ⟨p4_0, p4_1⟩ := hp
    rw [p4_0] at hw
    rw [← hQ]
    exact o_ri cx rx hw dX0_firstOf_14 ⟨rfl, (iv_w p4_1 (by decide))⟩
  · --
    have i5 : Iv v1 0 0 := iv_eq1 c2 i1 (⟨by decide, by decide⟩ : Iv 0 0 0) (by decide)
    refine lv_iconst (v := (-1)) hx hb dX0_firstOf_6 (by decide) ?_
    refine lv_goto (tgt := 14) hx hb dX0_firstOf_7 (by decide) ?_
    rw [← hQ]
    exact o_ri cx rx hw dX0_firstOf_14 ⟨rfl, (iv_w (⟨by decide, by decide⟩ : Iv (-1) (-1) (-1)) (by decide))⟩
set_option maxHeartbeats 4000000 in
set_option maxRecDepth 100000 in
theorem c_X0_firstOf (a0 : Int64) : oMet l A L τ cy D K yX0_firstOf cX0_firstOf 2 (some .int) 2 43 [.long a0] σ (va_Qi (fun r σ1 => σ1 = σ) (oPo A L τ cy D) A) := by
  refine oMk (by decide) (Nat.le_of_ble_eq_true rfl) rfl ?_
  intro p e s m args below meth c ls cx rx hA hw hl
  generalize hQ : MQ below _ args s 0 0 A = Q
  have hx := cx.1.1
  have hb := cx.1.2.1
  have hml := cx.1.2.2.1
  have hown := cx.1.2.2.2.1
  have hts := cx.1.2.2.2.2
  have hl : lv_has ls 2 [(0, .long a0)] := hl
  refine lv_lload_n hx hb dX0_firstOf_0 rfl (lv_at hl 0 rfl) ?_
  refine lv_lconst (v := 0) hx hb dX0_firstOf_1 (by decide) ?_
  refine W.lcmp hx hb dX0_firstOf_2 ?_
  refine lv_topi (fun v1 e1 => ?_)
  have i1 : Iv v1 (-1) 1 := iv_lcmp e1
  refine lv_if_ne (tgt := 10) hx hb dX0_firstOf_3 (by decide) (fun c2 => ?_) (fun c2 => ?_)
  · --
    refine lv_lload_n hx hb dX0_firstOf_10 rfl (lv_at hl 0 rfl) ?_
    refine o_ci hw (oRunS cx hA hw q_J13_numberOfTrailingZeros_95d88 k_m_X0_9 (As := [.long a0]) (c_J13_numberOfTrailingZeros_95d88 a0) (by decide) rfl hl.1 rfl (Nat.le_of_ble_eq_true rfl) dX0_firstOf_11 (by decide)) (fun v4 σ3 H locs hp hw => ?_)
    have p4_0 := hp
    rw [p4_0] at hw
    rw [← hQ]
    exact o_ri cx rx hw dX0_firstOf_14 rfl
  · --
    have i5 : Iv v1 0 0 := iv_eq1 c2 i1 (⟨by decide, by decide⟩ : Iv 0 0 0) (by decide)
    refine lv_iconst (v := (-1)) hx hb dX0_firstOf_6 (by decide) ?_
    refine lv_goto (tgt := 14) hx hb dX0_firstOf_7 (by decide) ?_
    rw [← hQ]
    exact o_ri cx rx hw dX0_firstOf_14 rfl
set_option maxHeartbeats 4000000 in
set_option maxRecDepth 100000 in
theorem c_X0_pieceOf (a0 : Int64) (a1 : Int32) : oMet l A L τ cy D K yX0_pieceOf cX0_pieceOf 8 (some .long) 1 22 [.long a0, .int a1] σ (va_Ql (fun r σ1 => σ1 = σ) (oPo A L τ cy D) A) := by
  refine oMk (by decide) (Nat.le_of_ble_eq_true rfl) rfl ?_
  intro p e s m args below meth c ls cx rx hA hw hl
  generalize hQ : MQ below _ args s 0 0 A = Q
  have hx := cx.1.1
  have hb := cx.1.2.1
  have hml := cx.1.2.2.1
  have hown := cx.1.2.2.2.1
  have hts := cx.1.2.2.2.2
  have hl : lv_has ls 8 [(0, .long a0), (2, .int a1)] := hl
  refine lv_lload_n hx hb dX0_pieceOf_0 rfl (lv_at hl 0 rfl) ?_
  refine lv_iload_n hx hb dX0_pieceOf_1 rfl (lv_at hl 1 rfl) ?_
  refine o_ci hw (oRunS cx hA hw q_X0_has k_m_X0_21 (As := [.long a0, .int a1]) (c_X0_has a0 a1) (by decide) rfl hl.1 rfl (Nat.le_of_ble_eq_true rfl) dX0_pieceOf_2 (by decide)) (fun v2 σ1 H locs hp hw => ?_)
  obtain ⟨p2_0, p2_1, p2_2, p2_3⟩ := hp
  rw [p2_0] at hw
  refine lv_if_ne (tgt := 10) hx hb dX0_pieceOf_5 (by decide) (fun c3 => ?_) (fun c3 => ?_)
  · --
    have i4 : Iv v2 1 1 := iv_ne1 c3 p2_1 (⟨by decide, by decide⟩ : Iv 0 0 0) (by decide)
    have i5 : Iv a1 0 63 := p2_2 c3
    refine lv_iload_n hx hb dX0_pieceOf_10 rfl (lv_at hl 1 rfl) ?_
    refine o_cl hw (oRunS cx hA hw q_X0_bit k_m_X0_25 (As := [.int a1]) (c_X0_bit a1) (by decide) rfl hl.1 rfl (Nat.le_of_ble_eq_true rfl) dX0_pieceOf_11 (by decide)) (fun v7 σ6 H locs hp hw => ?_)
    obtain ⟨p7_0, p7_1⟩ := hp
    rw [p7_0] at hw
    refine lv_lstore_n (lv' := [(3, .long v7), (0, .long a0), (2, .int a1)]) hx hb dX0_pieceOf_14 rfl hl (by decide) rfl (fun ls hl => ?_)
    refine lv_iconst (v := 0) hx hb dX0_pieceOf_15 (by decide) ?_
    refine lv_istore (lv' := [(5, .int 0), (3, .long v7), (0, .long a0), (2, .int a1)]) hx hb dX0_pieceOf_16 hl (by decide) rfl (fun ls hl => ?_)
    have J_18 : ∀ n18 : Nat, ∀ (j18_3 : Int64) (j18_5 : Int32) (ij18_5 : Iv j18_5 0 64), ∀ (H : Heap) (locs : List Loc), oI A L τ cy D s.heap σ H locs → (64 - j18_5.toInt).toNat < n18 → ∀ (ls : Array Slot), lv_has ls 8 [(0, .long a0), (2, .int a1), (3, .long j18_3), (5, .int j18_5)] → W p l e ({ frames := 1, cells := 0, slots := 0, locals := 22 } : Room) s m args below meth c H locs 0 0 Q (F0 m 18 ls []) := by
      intro n18
      induction n18 with
      | zero => intro j18_3 j18_5 ij18_5 H locs hw  hn_18   ls hl; exact absurd hn_18 (Nat.not_lt_zero _)
      | succ n18 ih_18 =>
        intro j18_3 j18_5 ij18_5 H locs hw  hn_18   ls hl
        refine lv_iload hx hb dX0_pieceOf_18 (lv_at hl 3 rfl) ?_
        refine lv_bipush (v := 64) hx hb dX0_pieceOf_20 (by decide) ?_
        refine lv_icmp_ge (tgt := 54) hx hb dX0_pieceOf_22 (by decide) (fun c8 => ?_) (fun c8 => ?_)
        · --
          have i9 : Iv j18_5 64 64 := iv_le2 c8 (⟨by decide, by decide⟩ : Iv 64 64 64) ij18_5 (by decide)
          refine lv_lload_n hx hb dX0_pieceOf_54 rfl (lv_at hl 2 rfl) ?_
          rw [← hQ]
          exact o_rl cx rx hw dX0_pieceOf_55 rfl
        · --
          have i10 : Iv j18_5 0 63 := iv_lt1 (iv_nle c8) ij18_5 (⟨by decide, by decide⟩ : Iv 64 64 64) (by decide)
          refine lv_lload_n hx hb dX0_pieceOf_25 rfl (lv_at hl 2 rfl) ?_
          refine lv_lload_n hx hb dX0_pieceOf_26 rfl (lv_at hl 2 rfl) ?_
          refine o_cl hw (oRunS cx hA hw q_X0_beside k_m_X0_29 (As := [.long j18_3]) (c_X0_beside j18_3) (by decide) rfl hl.1 rfl (Nat.le_of_ble_eq_true rfl) dX0_pieceOf_27 (by decide)) (fun v12 σ11 H locs hp hw => ?_)
          have p12_0 := hp
          rw [p12_0] at hw
          refine lv_lload_n hx hb dX0_pieceOf_30 rfl (lv_at hl 0 rfl) ?_
          refine lv_land hx hb dX0_pieceOf_31 ?_
          refine lv_topl (fun v13 e13 => ?_)
          refine lv_lor hx hb dX0_pieceOf_32 ?_
          refine lv_topl (fun v14 e14 => ?_)
          refine lv_lstore (lv' := [(6, .long v14), (0, .long a0), (2, .int a1), (3, .long j18_3), (5, .int j18_5)]) hx hb dX0_pieceOf_33 hl (by decide) rfl (fun ls hl => ?_)
          refine lv_lload hx hb dX0_pieceOf_35 (lv_at hl 0 rfl) ?_
          refine lv_lload_n hx hb dX0_pieceOf_37 rfl (lv_at hl 3 rfl) ?_
          refine W.lcmp hx hb dX0_pieceOf_38 ?_
          refine lv_topi (fun v15 e15 => ?_)
          have i15 : Iv v15 (-1) 1 := iv_lcmp e15
          refine lv_if_ne (tgt := 45) hx hb dX0_pieceOf_39 (by decide) (fun c16 => ?_) (fun c16 => ?_)
          · --
            refine lv_lload hx hb dX0_pieceOf_45 (lv_at hl 0 rfl) ?_
            refine lv_lstore_n (lv' := [(3, .long v14), (6, .long v14), (0, .long a0), (2, .int a1), (5, .int j18_5)]) hx hb dX0_pieceOf_47 rfl hl (by decide) rfl (fun ls hl => ?_)
            obtain ⟨v17, e17⟩ : ∃ y : Int32, y = j18_5 + 1 := ⟨_, rfl⟩
            have i17 : Iv v17 1 64 := iv_add e17 i10 (⟨by decide, by decide⟩ : Iv 1 1 1) (by decide)
            have x17 : v17.toInt = j18_5.toInt + 1 := ex_add e17 i10 (⟨by decide, by decide⟩ : Iv 1 1 1) (by decide)
            refine lv_iinc (v := v17) (lv' := [(5, .int v17), (3, .long v14), (6, .long v14), (0, .long a0), (2, .int a1)]) hx hb dX0_pieceOf_48 hl (k := 4) rfl (by rw [e17]; rfl) (by decide) rfl (fun ls hl => ?_)
            refine lv_goto (tgt := 18) hx hb dX0_pieceOf_51 (by decide) ?_
            exact ih_18 v14 v17 (iv_w i17 (by decide)) _ _ hw (ms_up x17 (by decide) (iv_w (a' := 0) (b' := 64) i17 (by decide)).2 hn_18) _ (lv_sub hl [3, 4, 1, 0] rfl)
          · --
            have i18 : Iv v15 0 0 := iv_eq1 c16 i15 (⟨by decide, by decide⟩ : Iv 0 0 0) (by decide)
            refine lv_goto (tgt := 54) hx hb dX0_pieceOf_42 (by decide) ?_
            refine lv_lload_n hx hb dX0_pieceOf_54 rfl (lv_at hl 3 rfl) ?_
            rw [← hQ]
            exact o_rl cx rx hw dX0_pieceOf_55 rfl
    exact J_18 _ v7 0 (iv_w (⟨by decide, by decide⟩ : Iv 0 0 0) (by decide)) _ _ hw (Nat.lt_succ_self _) _ (lv_sub hl [2, 3, 1, 0] rfl)
  · --
    have i19 : Iv v2 0 0 := iv_eq1 c3 p2_1 (⟨by decide, by decide⟩ : Iv 0 0 0) (by decide)
    refine lv_lconst (v := 0) hx hb dX0_pieceOf_8 (by decide) ?_
    rw [← hQ]
    exact o_rl cx rx hw dX0_pieceOf_9 rfl
end OM
