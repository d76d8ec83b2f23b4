section OM
variable {l : Launch} {A : Nat → Prop} {L : List Nat} {τ : Nat → Nat} {cy : Nat → ClassId} {D : va_G} {K : (Nat → Nat) × (Nat → Nat)} {σ : oSt}
abbrev fs_X9_weigh : List Nat := [517]
abbrev ts_X9_weigh : List Nat := [37, 38]
set_option maxHeartbeats 4000000 in
set_option maxRecDepth 100000 in
theorem c_X9_weigh (a0 : Nat) (ha0 : oA L τ a0 8) (a1 : Nat) (ha1 : oA L τ a1 5) (a2 : Int32) (ia2 : Iv a2 0 5) (a3 : Int32) (ia3 : Iv a3 0 63) : oMet l A L τ cy D K yX9_weigh cX9_weigh 4 (some .int) 1 26 [.ref a0, .ref a1, .int a2, .int a3] σ (va_Qi (fun r σ1 => oFr τ fs_X9_weigh ts_X9_weigh σ σ1) (oPo A L τ cy D) A) := by
  refine oMk (by decide) (Nat.le_of_ble_eq_true rfl) rfl ?_
  intro p e s m args below meth c ls cx rx hA hw hl
  generalize hQ : MQ below _ args s 0 0 A = Q
  have hx := cx.1.1
  have hb := cx.1.2.1
  have hml := cx.1.2.2.1
  have hown := cx.1.2.2.2.1
  have hts := cx.1.2.2.2.2
  have hl : lv_has ls 4 [(0, .ref a0), (1, .ref a1), (2, .int a2), (3, .int a3)] := hl
  have fr : oFr τ fs_X9_weigh ts_X9_weigh σ σ := oFr_rf
  refine lv_aload_n hx hb dX9_weigh_0 rfl (lv_at hl 0 rfl) ?_
  refine lv_dup hx hb dX9_weigh_1 rfl ?_
  refine g_517 cx hw ha0 k_f_X9_32 dX9_weigh_2 (fun v1 e1 => ?_)
  refine lv_iload_n hx hb dX9_weigh_5 rfl (lv_at hl 3 rfl) ?_
  refine o_cl hw (oRunS cx hA hw q_X0_bit k_m_X9_100 (As := [.int a3]) (c_X0_bit a3) (by decide) rfl hl.1 rfl (Nat.le_of_ble_eq_true rfl) dX9_weigh_6 (by decide)) (fun v3 σ2 H locs hp hw => ?_)
  obtain ⟨p3_0, p3_1⟩ := hp
  rw [p3_0] at hw
  refine lv_lor hx hb dX9_weigh_9 ?_
  refine lv_topl (fun v4 e4 => ?_)
  refine p_517 cx hw ha0 k_f_X9_32 dX9_weigh_10 (fun σ5 H locs eσ5 hw => ?_)
  have fr := oFr_l fr eσ5 (by decide)
  refine lv_aload_n hx hb dX9_weigh_13 rfl (lv_at hl 0 rfl) ?_
  refine g_516 cx hw ha0 k_f_X9_20 dX9_weigh_14 (fun v6 e6 h6 => ?_)
  refine lv_iconst (v := 0) hx hb dX9_weigh_17 (by decide) ?_
  refine lv_aload_n hx hb dX9_weigh_18 rfl (lv_at hl 1 rfl) ?_
  refine g_320 cx hw ha1 k_f_X9_103 dX9_weigh_19 (fun v7 e7 h7 => ?_)
  refine lv_iload_n hx hb dX9_weigh_22 rfl (lv_at hl 3 rfl) ?_
  refine o_iald cx hw h7 (by decide) rfl (iv_in ia3 (by decide)) dX9_weigh_23 (fun v8 e8 b8 => ?_)
  refine o_iast cx hw h6 (by decide) rfl (iv_in (⟨by decide, by decide⟩ : Iv 0 0 0) (by decide)) trivial dX9_weigh_24 (fun σ9 H locs eσ9 hw => ?_)
  have fr := oFr_p fr eσ9 h6 (by decide)
  refine lv_aload_n hx hb dX9_weigh_25 rfl (lv_at hl 0 rfl) ?_
  refine g_516 cx hw ha0 k_f_X9_20 dX9_weigh_26 (fun v10 e10 h10 => ?_)
  rw [show v10 = v6 from Option.some.inj (e10.symm.trans (((kr_p eσ9).trans e6)))]
  refine lv_iconst (v := 1) hx hb dX9_weigh_29 (by decide) ?_
  refine lv_aload_n hx hb dX9_weigh_30 rfl (lv_at hl 1 rfl) ?_
  refine g_321 cx hw ha1 k_f_X9_106 dX9_weigh_31 (fun v11 e11 h11 => ?_)
  refine lv_iload_n hx hb dX9_weigh_34 rfl (lv_at hl 3 rfl) ?_
  refine o_iald cx hw h11 (by decide) rfl (iv_in ia3 (by decide)) dX9_weigh_35 (fun v12 e12 b12 => ?_)
  refine o_iast cx hw h6 (by decide) rfl (iv_in (⟨by decide, by decide⟩ : Iv 1 1 1) (by decide)) trivial dX9_weigh_36 (fun σ13 H locs eσ13 hw => ?_)
  have fr := oFr_p fr eσ13 h6 (by decide)
  refine lv_aload_n hx hb dX9_weigh_37 rfl (lv_at hl 0 rfl) ?_
  refine g_516 cx hw ha0 k_f_X9_20 dX9_weigh_38 (fun v14 e14 h14 => ?_)
  rw [show v14 = v6 from Option.some.inj (e14.symm.trans (((kr_p eσ13).trans ((kr_p eσ9).trans e6))))]
  refine lv_iconst (v := 2) hx hb dX9_weigh_41 (by decide) ?_
  refine lv_aload_n hx hb dX9_weigh_42 rfl (lv_at hl 1 rfl) ?_
  refine g_322 cx hw ha1 k_f_X9_109 dX9_weigh_43 (fun v15 e15 h15 => ?_)
  refine lv_iload_n hx hb dX9_weigh_46 rfl (lv_at hl 3 rfl) ?_
  refine o_iald cx hw h15 (by decide) rfl (iv_in ia3 (by decide)) dX9_weigh_47 (fun v16 e16 b16 => ?_)
  refine o_iast cx hw h6 (by decide) rfl (iv_in (⟨by decide, by decide⟩ : Iv 2 2 2) (by decide)) trivial dX9_weigh_48 (fun σ17 H locs eσ17 hw => ?_)
  have fr := oFr_p fr eσ17 h6 (by decide)
  refine lv_aload_n hx hb dX9_weigh_49 rfl (lv_at hl 0 rfl) ?_
  refine g_516 cx hw ha0 k_f_X9_20 dX9_weigh_50 (fun v18 e18 h18 => ?_)
  rw [show v18 = v6 from Option.some.inj (e18.symm.trans (((kr_p eσ17).trans ((kr_p eσ13).trans ((kr_p eσ9).trans e6)))))]
  refine lv_iconst (v := 3) hx hb dX9_weigh_53 (by decide) ?_
  refine lv_aload_n hx hb dX9_weigh_54 rfl (lv_at hl 1 rfl) ?_
  refine lv_iload_n hx hb dX9_weigh_55 rfl (lv_at hl 3 rfl) ?_
  refine lv_aload_n hx hb dX9_weigh_56 rfl (lv_at hl 0 rfl) ?_
  refine g_514 cx hw ha0 k_f_X9_9 dX9_weigh_57 (fun v19 e19 => ?_)
  refine o_ci hw (oRunV cx hA hw q_X6_isRoad k_m_X9_112 rfl ha1 (by decide) (As := [.int a3, .int v19]) (c_X6_isRoad a1 ha1 a3 (iv_w ia3 (by decide)) v19) (by decide) rfl hl.1 rfl (Nat.le_of_ble_eq_true rfl) dX9_weigh_60 (by decide)) (fun v21 σ20 H locs hp hw => ?_)
  obtain ⟨p21_0, p21_1⟩ := hp
  rw [p21_0] at hw
  have J_71 : ∀ (k71_2 : Int32) (ik71_2 : Iv k71_2 0 1), ∀ (H : Heap) (locs : List Loc), oI A L τ cy D s.heap σ17 H locs → ∀ (ls : Array Slot), lv_has ls 4 [(0, .ref a0), (1, .ref a1), (2, .int a2), (3, .int a3)] → W p l e ({ frames := 1, cells := 0, slots := 0, locals := 26 } : Room) s m args below meth c H locs 0 0 Q (F0 m 71 ls [.int k71_2, .int 3, .ref v6]) := by
    intro k71_2 ik71_2 H locs hw     ls hl
    refine o_iast cx hw h6 (by decide) rfl (iv_in (⟨by decide, by decide⟩ : Iv 3 3 3) (by decide)) trivial dX9_weigh_71 (fun σ22 H locs eσ22 hw => ?_)
    have fr := oFr_p fr eσ22 h6 (by decide)
    refine lv_aload_n hx hb dX9_weigh_72 rfl (lv_at hl 0 rfl) ?_
    refine g_516 cx hw ha0 k_f_X9_20 dX9_weigh_73 (fun v23 e23 h23 => ?_)
    rw [show v23 = v6 from Option.some.inj (e23.symm.trans (((kr_p eσ22).trans ((kr_p eσ17).trans ((kr_p eσ13).trans ((kr_p eσ9).trans e6))))))]
    refine lv_iconst (v := 4) hx hb dX9_weigh_76 (by decide) ?_
    refine lv_aload_n hx hb dX9_weigh_77 rfl (lv_at hl 1 rfl) ?_
    refine g_325 cx hw ha1 k_f_X9_57 dX9_weigh_78 (fun v24 e24 h24 => ?_)
    refine lv_iload_n hx hb dX9_weigh_81 rfl (lv_at hl 2 rfl) ?_
    refine o_iald cx hw h24 (by decide) rfl (iv_in ia2 (by decide)) dX9_weigh_82 (fun v25 e25 b25 => ?_)
    have i25 : Iv v25 0 63 := b25
    refine lv_iload_n hx hb dX9_weigh_83 rfl (lv_at hl 3 rfl) ?_
    have J_92 : ∀ (k92_2 : Int32) (ik92_2 : Iv k92_2 0 1), ∀ (H : Heap) (locs : List Loc), oI A L τ cy D s.heap σ22 H locs → ∀ (ls : Array Slot), lv_has ls 4 [(0, .ref a0), (1, .ref a1), (2, .int a2), (3, .int a3)] → W p l e ({ frames := 1, cells := 0, slots := 0, locals := 26 } : Room) s m args below meth c H locs 0 0 Q (F0 m 92 ls [.int k92_2, .int 4, .ref v6]) := by
      intro k92_2 ik92_2 H locs hw     ls hl
      refine o_iast cx hw h6 (by decide) rfl (iv_in (⟨by decide, by decide⟩ : Iv 4 4 4) (by decide)) trivial dX9_weigh_92 (fun σ26 H locs eσ26 hw => ?_)
      have fr := oFr_p fr eσ26 h6 (by decide)
      refine lv_aload_n hx hb dX9_weigh_93 rfl (lv_at hl 0 rfl) ?_
      refine g_516 cx hw ha0 k_f_X9_20 dX9_weigh_94 (fun v27 e27 h27 => ?_)
      rw [show v27 = v6 from Option.some.inj (e27.symm.trans (((kr_p eσ26).trans ((kr_p eσ22).trans ((kr_p eσ17).trans ((kr_p eσ13).trans ((kr_p eσ9).trans e6)))))))]
      refine lv_iconst (v := 5) hx hb dX9_weigh_97 (by decide) ?_
      refine lv_aload_n hx hb dX9_weigh_98 rfl (lv_at hl 1 rfl) ?_
      refine lv_iload_n hx hb dX9_weigh_99 rfl (lv_at hl 3 rfl) ?_
      refine o_ci hw (oRunV cx hA hw q_X6_herdsAt k_m_X9_116 rfl ha1 (by decide) (As := [.int a3]) (c_X6_herdsAt a1 ha1 a3) (by decide) rfl hl.1 rfl (Nat.le_of_ble_eq_true rfl) dX9_weigh_100 (by decide)) (fun v29 σ28 H locs hp hw => ?_)
      obtain ⟨p29_0, p29_1⟩ := hp
      rw [p29_0] at hw
      refine lv_iconst (v := 1) hx hb dX9_weigh_103 (by decide) ?_
      refine lv_iload_n hx hb dX9_weigh_104 rfl (lv_at hl 2 rfl) ?_
      refine lv_ishl hx hb dX9_weigh_105 ?_
      refine lv_topi (fun v30 e30 => ?_)
      have i30 : Iv v30 1 32 := iv_shl1 e30 ia2 (by decide)
      refine lv_iconst (v := (-1)) hx hb dX9_weigh_106 (by decide) ?_
      refine lv_ixor hx hb dX9_weigh_107 ?_
      refine lv_topi (fun v31 e31 => ?_)
      refine lv_iand hx hb dX9_weigh_108 ?_
      refine lv_topi (fun v32 e32 => ?_)
      refine o_ci hw (oRunS cx hA hw q_J6_bitCount_0f7a4 k_m_X9_120 (As := [.int v32]) (c_J6_bitCount_0f7a4 v32) (by decide) rfl hl.1 rfl (Nat.le_of_ble_eq_true rfl) dX9_weigh_109 (by decide)) (fun v34 σ33 H locs hp hw => ?_)
      obtain ⟨p34_0, p34_1⟩ := hp
      rw [p34_0] at hw
      refine o_iast cx hw h6 (by decide) rfl (iv_in (⟨by decide, by decide⟩ : Iv 5 5 5) (by decide)) trivial dX9_weigh_112 (fun σ35 H locs eσ35 hw => ?_)
      have fr := oFr_p fr eσ35 h6 (by decide)
      refine lv_aload_n hx hb dX9_weigh_113 rfl (lv_at hl 0 rfl) ?_
      refine g_516 cx hw ha0 k_f_X9_20 dX9_weigh_114 (fun v36 e36 h36 => ?_)
      rw [show v36 = v6 from Option.some.inj (e36.symm.trans (((kr_p eσ35).trans ((kr_p eσ26).trans ((kr_p eσ22).trans ((kr_p eσ17).trans ((kr_p eσ13).trans ((kr_p eσ9).trans e6))))))))]
      refine lv_bipush (v := 6) hx hb dX9_weigh_117 (by decide) ?_
      refine lv_aload_n hx hb dX9_weigh_119 rfl (lv_at hl 1 rfl) ?_
      refine g_326 cx hw ha1 k_f_X9_125 dX9_weigh_120 (fun v37 e37 h37 => ?_)
      refine lv_iload_n hx hb dX9_weigh_123 rfl (lv_at hl 2 rfl) ?_
      refine o_iald cx hw h37 (by decide) rfl (iv_in ia2 (by decide)) dX9_weigh_124 (fun v38 e38 b38 => ?_)
      refine o_iast cx hw h6 (by decide) rfl (iv_in (⟨by decide, by decide⟩ : Iv 6 6 6) (by decide)) trivial dX9_weigh_125 (fun σ39 H locs eσ39 hw => ?_)
      have fr := oFr_p fr eσ39 h6 (by decide)
      refine lv_aload_n hx hb dX9_weigh_126 rfl (lv_at hl 0 rfl) ?_
      refine g_516 cx hw ha0 k_f_X9_20 dX9_weigh_127 (fun v40 e40 h40 => ?_)
      rw [show v40 = v6 from Option.some.inj (e40.symm.trans (((kr_p eσ39).trans ((kr_p eσ35).trans ((kr_p eσ26).trans ((kr_p eσ22).trans ((kr_p eσ17).trans ((kr_p eσ13).trans ((kr_p eσ9).trans e6)))))))))]
      refine lv_bipush (v := 7) hx hb dX9_weigh_130 (by decide) ?_
      refine lv_iload_n hx hb dX9_weigh_132 rfl (lv_at hl 2 rfl) ?_
      refine o_iast cx hw h6 (by decide) rfl (iv_in (⟨by decide, by decide⟩ : Iv 7 7 7) (by decide)) trivial dX9_weigh_133 (fun σ41 H locs eσ41 hw => ?_)
      have fr := oFr_p fr eσ41 h6 (by decide)
      refine lv_aload_n hx hb dX9_weigh_134 rfl (lv_at hl 0 rfl) ?_
      refine g_516 cx hw ha0 k_f_X9_20 dX9_weigh_135 (fun v42 e42 h42 => ?_)
      rw [show v42 = v6 from Option.some.inj (e42.symm.trans (((kr_p eσ41).trans ((kr_p eσ39).trans ((kr_p eσ35).trans ((kr_p eσ26).trans ((kr_p eσ22).trans ((kr_p eσ17).trans ((kr_p eσ13).trans ((kr_p eσ9).trans e6))))))))))]
      refine lv_bipush (v := 8) hx hb dX9_weigh_138 (by decide) ?_
      refine lv_aload_n hx hb dX9_weigh_140 rfl (lv_at hl 1 rfl) ?_
      refine g_331 cx hw ha1 k_f_X9_51 dX9_weigh_141 (fun v43 e43 => ?_)
      refine o_iast cx hw h6 (by decide) rfl (iv_in (⟨by decide, by decide⟩ : Iv 8 8 8) (by decide)) trivial dX9_weigh_144 (fun σ44 H locs eσ44 hw => ?_)
      have fr := oFr_p fr eσ44 h6 (by decide)
      refine lv_aload_n hx hb dX9_weigh_145 rfl (lv_at hl 0 rfl) ?_
      refine g_513 cx hw ha0 k_f_X9_28 dX9_weigh_146 (fun v45 e45 h45 => ?_)
      refine lv_aload_n hx hb dX9_weigh_149 rfl (lv_at hl 0 rfl) ?_
      refine g_516 cx hw ha0 k_f_X9_20 dX9_weigh_150 (fun v46 e46 h46 => ?_)
      rw [show v46 = v6 from Option.some.inj (e46.symm.trans (((kr_p eσ44).trans ((kr_p eσ41).trans ((kr_p eσ39).trans ((kr_p eσ35).trans ((kr_p eσ26).trans ((kr_p eσ22).trans ((kr_p eσ17).trans ((kr_p eσ13).trans ((kr_p eσ9).trans e6)))))))))))]
      refine o_ci hw (oRunV cx hA hw q_X5_reckon k_m_X9_128 rfl h45 (by decide) (As := [.ref v6]) (c_X5_reckon v45 h45 v6 h6) (by decide) rfl hl.1 rfl (Nat.le_of_ble_eq_true rfl) dX9_weigh_153 (by decide)) (fun v48 σ47 H locs hp hw => ?_)
      have p48_0 := hp
      have fr := oFr_tr fr p48_0 (by decide)
      rw [← hQ]
      exact o_ri cx rx hw dX9_weigh_156 fr
    refine lv_icmp_ne (tgt := 91) hx hb dX9_weigh_84 (by decide) (fun c49 => ?_) (fun c49 => ?_)
    · --
      refine lv_iconst (v := 1) hx hb dX9_weigh_91 (by decide) ?_
      exact J_92 1 (iv_w (⟨by decide, by decide⟩ : Iv 1 1 1) (by decide)) _ _ hw _ (lv_sub hl [0, 1, 2, 3] rfl)
    · --
      refine lv_iconst (v := 0) hx hb dX9_weigh_87 (by decide) ?_
      refine lv_goto (tgt := 92) hx hb dX9_weigh_88 (by decide) ?_
      exact J_92 0 (iv_w (⟨by decide, by decide⟩ : Iv 0 0 0) (by decide)) _ _ hw _ (lv_sub hl [0, 1, 2, 3] rfl)
  refine lv_if_eq (tgt := 70) hx hb dX9_weigh_63 (by decide) (fun c50 => ?_) (fun c50 => ?_)
  · --
    have i51 : Iv v21 0 0 := iv_eq1 c50 p21_1 (⟨by decide, by decide⟩ : Iv 0 0 0) (by decide)
    refine lv_iconst (v := 0) hx hb dX9_weigh_70 (by decide) ?_
    exact J_71 0 (iv_w (⟨by decide, by decide⟩ : Iv 0 0 0) (by decide)) _ _ hw _ (lv_sub hl [0, 1, 2, 3] rfl)
  · --
    have i52 : Iv v21 1 1 := iv_ne1 c50 p21_1 (⟨by decide, by decide⟩ : Iv 0 0 0) (by decide)
    refine lv_iconst (v := 1) hx hb dX9_weigh_66 (by decide) ?_
    refine lv_goto (tgt := 71) hx hb dX9_weigh_67 (by decide) ?_
    exact J_71 1 (iv_w (⟨by decide, by decide⟩ : Iv 1 1 1) (by decide)) _ _ hw _ (lv_sub hl [0, 1, 2, 3] rfl)
set_option maxHeartbeats 4000000 in
set_option maxRecDepth 100000 in
theorem c_X0_next (a0 : Int32) (ia0 : Iv a0 0 63) (a1 : Int32) : oMet l A L τ cy D K yX0_next cX0_next 3 (some .int) 0 0 [.int a0, .int a1] σ (va_Qi (fun r σ1 => σ1 = σ ∧ Iv r (-1) 63) (oPo A L τ cy D) A) := by
  refine oMk (by decide) (Nat.le_of_ble_eq_true rfl) rfl ?_
  intro p e s m args below meth c ls cx rx hA hw hl
  generalize hQ : MQ below _ args s 0 0 A = Q
  have hx := cx.1.1
  have hb := cx.1.2.1
  have hml := cx.1.2.2.1
  have hown := cx.1.2.2.2.1
  have hts := cx.1.2.2.2.2
  have hl : lv_has ls 3 [(0, .int a0), (1, .int a1)] := hl
  refine lv_iload_n hx hb dX0_next_0 rfl (lv_at hl 0 rfl) ?_
  refine lv_bipush (v := 8) hx hb dX0_next_1 (by decide) ?_
  refine lv_irem hx hb dX0_next_3 (iv_nz (⟨by decide, by decide⟩ : Iv 8 8 8) (by decide)) ?_
  refine lv_topi (fun v1 e1 => ?_)
  have i1 : Iv v1 0 7 := iv_rem e1 ia0 (⟨by decide, by decide⟩ : Iv 8 8 8) (by decide)
  refine lv_istore_n (lv' := [(2, .int v1), (0, .int a0), (1, .int a1)]) hx hb dX0_next_4 rfl hl (by decide) rfl (fun ls hl => ?_)
  refine lv_iload_n hx hb dX0_next_5 rfl (lv_at hl 2 rfl) ?_
  by_cases q2 : a1 = 0
  · --
    refine lv_tableIn (tgt := 32) hx hb dX0_next_6 (by rw [q2]; decide) (by rw [q2]; decide) (by rw [q2]; rfl) (by decide) ?_
    have i3 : Iv a1 0 0 := iv_eq1 q2 (iv_top a1) (⟨by decide, by decide⟩ : Iv 0 0 0) (by decide)
    refine lv_iload_n hx hb dX0_next_32 rfl (lv_at hl 1 rfl) ?_
    refine lv_bipush (v := 8) hx hb dX0_next_33 (by decide) ?_
    refine lv_icmp_lt (tgt := 45) hx hb dX0_next_35 (by decide) (fun c4 => ?_) (fun c4 => ?_)
    · --
      have i5 : Iv a0 0 7 := iv_lt1 c4 ia0 (⟨by decide, by decide⟩ : Iv 8 8 8) (by decide)
      refine lv_iconst (v := (-1)) hx hb dX0_next_45 (by decide) ?_
      rw [← hQ]
      exact o_ri cx rx hw dX0_next_46 ⟨rfl, (iv_w (⟨by decide, by decide⟩ : Iv (-1) (-1) (-1)) (by decide))⟩
    · --
      have i6 : Iv a0 8 63 := iv_le2 (iv_nlt c4) (⟨by decide, by decide⟩ : Iv 8 8 8) ia0 (by decide)
      refine lv_iload_n hx hb dX0_next_38 rfl (lv_at hl 1 rfl) ?_
      refine lv_bipush (v := 8) hx hb dX0_next_39 (by decide) ?_
      refine lv_isub hx hb dX0_next_41 ?_
      refine lv_topi (fun v7 e7 => ?_)
      have i7 : Iv v7 0 55 := iv_sub e7 i6 (⟨by decide, by decide⟩ : Iv 8 8 8) (by decide)
      have x7 : v7.toInt = a0.toInt + (-8) := ex_sub e7 i6 (⟨by decide, by decide⟩ : Iv 8 8 8) (by decide)
      refine lv_goto (tgt := 46) hx hb dX0_next_42 (by decide) ?_
      rw [← hQ]
      exact o_ri cx rx hw dX0_next_46 ⟨rfl, (iv_w i7 (by decide))⟩
  by_cases q8 : a1 = 1
  · --
    refine lv_tableIn (tgt := 47) hx hb dX0_next_6 (by rw [q8]; decide) (by rw [q8]; decide) (by rw [q8]; rfl) (by decide) ?_
    have i9 : Iv a1 1 1 := iv_eq1 q8 (iv_top a1) (⟨by decide, by decide⟩ : Iv 1 1 1) (by decide)
    refine lv_iload_n hx hb dX0_next_47 rfl (lv_at hl 0 rfl) ?_
    refine lv_bipush (v := 7) hx hb dX0_next_48 (by decide) ?_
    refine lv_icmp_ge (tgt := 59) hx hb dX0_next_50 (by decide) (fun c10 => ?_) (fun c10 => ?_)
    · --
      have i11 : Iv v1 7 7 := iv_le2 c10 (⟨by decide, by decide⟩ : Iv 7 7 7) i1 (by decide)
      have i12 : Iv a0 1 63 := rem8_lo e1 ia0 i11 (by decide)
      refine lv_iconst (v := (-1)) hx hb dX0_next_59 (by decide) ?_
      rw [← hQ]
      exact o_ri cx rx hw dX0_next_60 ⟨rfl, (iv_w (⟨by decide, by decide⟩ : Iv (-1) (-1) (-1)) (by decide))⟩
    · --
      have i13 : Iv v1 0 6 := iv_lt1 (iv_nle c10) i1 (⟨by decide, by decide⟩ : Iv 7 7 7) (by decide)
      have i14 : Iv a0 0 62 := rem8_hi e1 ia0 i13 (by decide)
      refine lv_iload_n hx hb dX0_next_53 rfl (lv_at hl 1 rfl) ?_
      refine lv_iconst (v := 1) hx hb dX0_next_54 (by decide) ?_
      refine lv_iadd hx hb dX0_next_55 ?_
      refine lv_topi (fun v15 e15 => ?_)
      have i15 : Iv v15 1 63 := iv_add e15 i14 (⟨by decide, by decide⟩ : Iv 1 1 1) (by decide)
      have x15 : v15.toInt = a0.toInt + 1 := ex_add e15 i14 (⟨by decide, by decide⟩ : Iv 1 1 1) (by decide)
      refine lv_goto (tgt := 60) hx hb dX0_next_56 (by decide) ?_
      rw [← hQ]
      exact o_ri cx rx hw dX0_next_60 ⟨rfl, (iv_w i15 (by decide))⟩
  by_cases q16 : a1 = 2
  · --
    refine lv_tableIn (tgt := 61) hx hb dX0_next_6 (by rw [q16]; decide) (by rw [q16]; decide) (by rw [q16]; rfl) (by decide) ?_
    have i17 : Iv a1 2 2 := iv_eq1 q16 (iv_top a1) (⟨by decide, by decide⟩ : Iv 2 2 2) (by decide)
    refine lv_iload_n hx hb dX0_next_61 rfl (lv_at hl 1 rfl) ?_
    refine lv_bipush (v := 56) hx hb dX0_next_62 (by decide) ?_
    refine lv_icmp_ge (tgt := 74) hx hb dX0_next_64 (by decide) (fun c18 => ?_) (fun c18 => ?_)
    · --
      have i19 : Iv a0 56 63 := iv_le2 c18 (⟨by decide, by decide⟩ : Iv 56 56 56) ia0 (by decide)
      refine lv_iconst (v := (-1)) hx hb dX0_next_74 (by decide) ?_
      rw [← hQ]
      exact o_ri cx rx hw dX0_next_75 ⟨rfl, (iv_w (⟨by decide, by decide⟩ : Iv (-1) (-1) (-1)) (by decide))⟩
    · --
      have i20 : Iv a0 0 55 := iv_lt1 (iv_nle c18) ia0 (⟨by decide, by decide⟩ : Iv 56 56 56) (by decide)
      refine lv_iload_n hx hb dX0_next_67 rfl (lv_at hl 1 rfl) ?_
      refine lv_bipush (v := 8) hx hb dX0_next_68 (by decide) ?_
      refine lv_iadd hx hb dX0_next_70 ?_
      refine lv_topi (fun v21 e21 => ?_)
      have i21 : Iv v21 8 63 := iv_add e21 i20 (⟨by decide, by decide⟩ : Iv 8 8 8) (by decide)
      have x21 : v21.toInt = a0.toInt + 8 := ex_add e21 i20 (⟨by decide, by decide⟩ : Iv 8 8 8) (by decide)
      refine lv_goto (tgt := 75) hx hb dX0_next_71 (by decide) ?_
      rw [← hQ]
      exact o_ri cx rx hw dX0_next_75 ⟨rfl, (iv_w i21 (by decide))⟩
  have q2 := iv_nt q2 (k := 0) (by decide)
  have q8 := iv_nt q8 (k := 1) (by decide)
  have q16 := iv_nt q16 (k := 2) (by decide)
  refine lv_tableOut (tgt := 76) hx hb dX0_next_6 (by omega) (by decide) ?_
  refine lv_iload_n hx hb dX0_next_76 rfl (lv_at hl 0 rfl) ?_
  refine lv_if_le (tgt := 86) hx hb dX0_next_77 (by decide) (fun c22 => ?_) (fun c22 => ?_)
  · --
    have i23 : Iv v1 0 0 := iv_le1 c22 i1 (⟨by decide, by decide⟩ : Iv 0 0 0) (by decide)
    have i24 : Iv a0 0 62 := rem8_hi e1 ia0 i23 (by decide)
    refine lv_iconst (v := (-1)) hx hb dX0_next_86 (by decide) ?_
    rw [← hQ]
    exact o_ri cx rx hw dX0_next_87 ⟨rfl, (iv_w (⟨by decide, by decide⟩ : Iv (-1) (-1) (-1)) (by decide))⟩
  · --
    have i25 : Iv v1 1 7 := iv_lt2 (iv_nle c22) (⟨by decide, by decide⟩ : Iv 0 0 0) i1 (by decide)
    have i26 : Iv a0 1 63 := rem8_lo e1 ia0 i25 (by decide)
    refine lv_iload_n hx hb dX0_next_80 rfl (lv_at hl 1 rfl) ?_
    refine lv_iconst (v := 1) hx hb dX0_next_81 (by decide) ?_
    refine lv_isub hx hb dX0_next_82 ?_
    refine lv_topi (fun v27 e27 => ?_)
    have i27 : Iv v27 0 62 := iv_sub e27 i26 (⟨by decide, by decide⟩ : Iv 1 1 1) (by decide)
    have x27 : v27.toInt = a0.toInt + (-1) := ex_sub e27 i26 (⟨by decide, by decide⟩ : Iv 1 1 1) (by decide)
    refine lv_goto (tgt := 87) hx hb dX0_next_83 (by decide) ?_
    rw [← hQ]
    exact o_ri cx rx hw dX0_next_87 ⟨rfl, (iv_w i27 (by decide))⟩
abbrev fs_X9_choose : List Nat := [517]
abbrev ts_X9_choose : List Nat := [37, 38]
set_option maxHeartbeats 4000000 in
set_option maxRecDepth 100000 in
theorem c_X9_choose (a0 : Nat) (ha0 : oA L τ a0 8) (a1 : Nat) (ha1 : oA L τ a1 5) (a2 : Int32) (ia2 : Iv a2 0 5) (a3 : Int64) : oMet l A L τ cy D K yX9_choose cX9_choose 11 (some .int) 2 49 [.ref a0, .ref a1, .int a2, .long a3] σ (va_Qi (fun r σ1 => oFr τ fs_X9_choose ts_X9_choose σ σ1 ∧ Iv r 0 63) (oPo A L τ cy D) A) := by
  refine oMk (by decide) (Nat.le_of_ble_eq_true rfl) rfl ?_
  intro p e s m args below meth c ls cx rx hA hw hl
  generalize hQ : MQ below _ args s 0 0 A = Q
  have hx := cx.1.1
  have hb := cx.1.2.1
  have hml := cx.1.2.2.1
  have hown := cx.1.2.2.2.1
  have hts := cx.1.2.2.2.2
  have hl : lv_has ls 11 [(0, .ref a0), (1, .ref a1), (2, .int a2), (3, .long a3)] := hl
  have fr : oFr τ fs_X9_choose ts_X9_choose σ σ := oFr_rf
  refine lv_aload_n hx hb dX9_choose_0 rfl (lv_at hl 1 rfl) ?_
  refine g_325 cx hw ha1 k_f_X9_57 dX9_choose_1 (fun v1 e1 h1 => ?_)
  refine lv_iload_n hx hb dX9_choose_4 rfl (lv_at hl 2 rfl) ?_
  refine o_iald cx hw h1 (by decide) rfl (iv_in ia2 (by decide)) dX9_choose_5 (fun v2 e2 b2 => ?_)
  have i2 : Iv v2 0 63 := b2
  refine lv_istore (lv' := [(5, .int v2), (0, .ref a0), (1, .ref a1), (2, .int a2), (3, .long a3)]) hx hb dX9_choose_6 hl (by decide) rfl (fun ls hl => ?_)
  refine lv_aload_n hx hb dX9_choose_8 rfl (lv_at hl 2 rfl) ?_
  refine g_328 cx hw ha1 k_f_X9_83 dX9_choose_9 (fun v3 e3 => ?_)
  refine lv_iload_n hx hb dX9_choose_12 rfl (lv_at hl 3 rfl) ?_
  refine lv_ishr hx hb dX9_choose_13 ?_
  refine lv_topi (fun v4 e4 => ?_)
  refine lv_iconst (v := 1) hx hb dX9_choose_14 (by decide) ?_
  refine lv_iand hx hb dX9_choose_15 ?_
  refine lv_topi (fun v5 e5 => ?_)
  have i5 : Iv v5 0 1 := iv_and e5 (⟨by decide, by decide⟩ : Iv 1 1 1) (by decide)
  have J_31 : ∀ (H : Heap) (locs : List Loc), oI A L τ cy D s.heap σ H locs → ∀ (ls : Array Slot), lv_has ls 11 [(0, .ref a0), (1, .ref a1), (2, .int a2), (3, .long a3), (5, .int v2)] → W p l e ({ frames := 2, cells := 0, slots := 0, locals := 49 } : Room) s m args below meth c H locs 0 0 Q (F0 m 31 ls []) := by
    intro  H locs hw     ls hl
    refine lv_iload hx hb dX9_choose_31 (lv_at hl 4 rfl) ?_
    refine lv_istore (lv' := [(6, .int v2), (0, .ref a0), (1, .ref a1), (2, .int a2), (3, .long a3), (5, .int v2)]) hx hb dX9_choose_33 hl (by decide) rfl (fun ls hl => ?_)
    refine lv_aload_n hx hb dX9_choose_35 rfl (lv_at hl 1 rfl) ?_
    refine lv_aload_n hx hb dX9_choose_36 rfl (lv_at hl 2 rfl) ?_
    refine lv_iload_n hx hb dX9_choose_37 rfl (lv_at hl 3 rfl) ?_
    refine lv_iload hx hb dX9_choose_38 (lv_at hl 5 rfl) ?_
    refine o_ci hw (oRunV cx hA hw q_X9_weigh k_m_X9_86 rfl ha0 (by decide) (As := [.ref a1, .int a2, .int v2]) (c_X9_weigh a0 ha0 a1 ha1 a2 (iv_w ia2 (by decide)) v2 (iv_w i2 (by decide))) (by decide) rfl hl.1 rfl (Nat.le_of_ble_eq_true rfl) dX9_choose_40 (by decide)) (fun v7 σ6 H locs hp hw => ?_)
    have p7_0 := hp
    have fr := oFr_tr fr p7_0 (by decide)
    refine lv_istore (lv' := [(7, .int v7), (6, .int v2), (0, .ref a0), (1, .ref a1), (2, .int a2), (3, .long a3), (5, .int v2)]) hx hb dX9_choose_43 hl (by decide) rfl (fun ls hl => ?_)
    refine lv_iconst (v := 0) hx hb dX9_choose_45 (by decide) ?_
    refine lv_istore (lv' := [(8, .int 0), (7, .int v7), (6, .int v2), (0, .ref a0), (1, .ref a1), (2, .int a2), (3, .long a3), (5, .int v2)]) hx hb dX9_choose_46 hl (by decide) rfl (fun ls hl => ?_)
    have frE_48 := fr
    have J_48 : ∀ n48 : Nat, ∀ (j48_6 : Int32) (ij48_6 : Iv j48_6 0 63) (j48_7 : Int32) (j48_8 : Int32) (ij48_8 : Iv j48_8 0 4), ∀ (σ_48 : oSt) (H : Heap) (locs : List Loc), oI A L τ cy D s.heap σ_48 H locs → oFr τ fs_X9_choose ts_X9_choose σ σ_48 → (4 - j48_8.toInt).toNat < n48 → ∀ (ls : Array Slot), lv_has ls 11 [(0, .ref a0), (1, .ref a1), (2, .int a2), (3, .long a3), (5, .int v2), (6, .int j48_6), (7, .int j48_7), (8, .int j48_8)] → W p l e ({ frames := 2, cells := 0, slots := 0, locals := 49 } : Room) s m args below meth c H locs 0 0 Q (F0 m 48 ls []) := by
      intro n48
      induction n48 with
      | zero => intro j48_6 ij48_6 j48_7 j48_8 ij48_8 σ_48 H locs hw fr   hn_48   ls hl; exact absurd hn_48 (Nat.not_lt_zero _)
      | succ n48 ih_48 =>
        intro j48_6 ij48_6 j48_7 j48_8 ij48_8 σ_48 H locs hw fr   hn_48   ls hl
        have fr_48 := fr
        refine lv_iload hx hb dX9_choose_48 (lv_at hl 7 rfl) ?_
        refine lv_iconst (v := 3) hx hb dX9_choose_50 (by decide) ?_
        refine lv_icmp_gt (tgt := 103) hx hb dX9_choose_51 (by decide) (fun c8 => ?_) (fun c8 => ?_)
        · --
          have i9 : Iv j48_8 4 4 := iv_lt2 c8 (⟨by decide, by decide⟩ : Iv 3 3 3) ij48_8 (by decide)
          refine lv_iload hx hb dX9_choose_103 (lv_at hl 5 rfl) ?_
          rw [← hQ]
          exact o_ri cx rx hw dX9_choose_105 ⟨fr, (iv_w ij48_6 (by decide))⟩
        · --
          have i10 : Iv j48_8 0 3 := iv_le1 (iv_nlt c8) ij48_8 (⟨by decide, by decide⟩ : Iv 3 3 3) (by decide)
          refine lv_iload hx hb dX9_choose_54 (lv_at hl 4 rfl) ?_
          refine lv_iload hx hb dX9_choose_56 (lv_at hl 7 rfl) ?_
          refine o_ci hw (oRunS cx hA hw q_X0_next k_m_X9_92 (As := [.int v2, .int j48_8]) (c_X0_next v2 (iv_w i2 (by decide)) j48_8) (by decide) rfl hl.1 rfl (Nat.le_of_ble_eq_true rfl) dX9_choose_58 (by decide)) (fun v12 σ11 H locs hp hw => ?_)
          obtain ⟨p12_0, p12_1⟩ := hp
          rw [p12_0] at hw
          refine lv_istore (lv' := [(9, .int v12), (0, .ref a0), (1, .ref a1), (2, .int a2), (3, .long a3), (5, .int v2), (6, .int j48_6), (7, .int j48_7), (8, .int j48_8)]) hx hb dX9_choose_61 hl (by decide) rfl (fun ls hl => ?_)
          refine lv_lload_n hx hb dX9_choose_63 rfl (lv_at hl 4 rfl) ?_
          refine lv_iload hx hb dX9_choose_64 (lv_at hl 0 rfl) ?_
          refine o_ci hw (oRunS cx hA hw q_X0_has k_m_X9_96 (As := [.long a3, .int v12]) (c_X0_has a3 v12) (by decide) rfl hl.1 rfl (Nat.le_of_ble_eq_true rfl) dX9_choose_66 (by decide)) (fun v14 σ13 H locs hp hw => ?_)
          obtain ⟨p14_0, p14_1, p14_2, p14_3⟩ := hp
          rw [p14_0] at hw
          have frE_97 := fr
          have J_97 : ∀ (j97_6 : Int32) (ij97_6 : Iv j97_6 0 63) (j97_7 : Int32), ∀ (σ_97 : oSt) (H : Heap) (locs : List Loc), oI A L τ cy D s.heap σ_97 H locs → oFr τ fs_X9_choose ts_X9_choose σ σ_97 → ∀ (ls : Array Slot), lv_has ls 11 [(0, .ref a0), (1, .ref a1), (2, .int a2), (3, .long a3), (5, .int v2), (6, .int j97_6), (7, .int j97_7), (8, .int j48_8), (9, .int v12)] → W p l e ({ frames := 2, cells := 0, slots := 0, locals := 49 } : Room) s m args below meth c H locs 0 0 Q (F0 m 97 ls []) := by
            intro j97_6 ij97_6 j97_7 σ_97 H locs hw fr      ls hl
            have fr_97 := fr
            obtain ⟨v15, e15⟩ : ∃ y : Int32, y = j48_8 + 1 := ⟨_, rfl⟩
            have i15 : Iv v15 1 4 := iv_add e15 i10 (⟨by decide, by decide⟩ : Iv 1 1 1) (by decide)
            have x15 : v15.toInt = j48_8.toInt + 1 := ex_add e15 i10 (⟨by decide, by decide⟩ : Iv 1 1 1) (by decide)
            refine lv_iinc (v := v15) (lv' := [(8, .int v15), (0, .ref a0), (1, .ref a1), (2, .int a2), (3, .long a3), (5, .int v2), (6, .int j97_6), (7, .int j97_7), (9, .int v12)]) hx hb dX9_choose_97 hl (k := 7) rfl (by rw [e15]; rfl) (by decide) rfl (fun ls hl => ?_)
            refine lv_goto (tgt := 48) hx hb dX9_choose_100 (by decide) ?_
            exact ih_48 j97_6 ij97_6 j97_7 v15 (iv_w i15 (by decide)) σ_97 _ _ hw fr (ms_up x15 (by decide) (iv_w (a' := 0) (b' := 4) i15 (by decide)).2 hn_48) _ (lv_sub hl [1, 2, 3, 4, 5, 6, 7, 0] rfl)
          refine lv_if_eq (tgt := 97) hx hb dX9_choose_69 (by decide) (fun c16 => ?_) (fun c16 => ?_)
          · --
            have i17 : Iv v14 0 0 := iv_eq1 c16 p14_1 (⟨by decide, by decide⟩ : Iv 0 0 0) (by decide)
            exact J_97 j48_6 ij48_6 j48_7 σ_48 _ _ hw fr _ (lv_sub hl [1, 2, 3, 4, 5, 6, 7, 8, 0] rfl)
          · --
            have i18 : Iv v14 1 1 := iv_ne1 c16 p14_1 (⟨by decide, by decide⟩ : Iv 0 0 0) (by decide)
            have i19 : Iv v12 0 63 := p14_2 c16
            refine lv_aload_n hx hb dX9_choose_72 rfl (lv_at hl 1 rfl) ?_
            refine lv_aload_n hx hb dX9_choose_73 rfl (lv_at hl 2 rfl) ?_
            refine lv_iload_n hx hb dX9_choose_74 rfl (lv_at hl 3 rfl) ?_
            refine lv_iload hx hb dX9_choose_75 (lv_at hl 0 rfl) ?_
            refine o_ci hw (oRunV cx hA hw q_X9_weigh k_m_X9_86 rfl ha0 (by decide) (As := [.ref a1, .int a2, .int v12]) (c_X9_weigh a0 ha0 a1 ha1 a2 (iv_w ia2 (by decide)) v12 (iv_w i19 (by decide))) (by decide) rfl hl.1 rfl (Nat.le_of_ble_eq_true rfl) dX9_choose_77 (by decide)) (fun v21 σ20 H locs hp hw => ?_)
            have p21_0 := hp
            have fr := oFr_tr fr p21_0 (by decide)
            refine lv_istore (lv' := [(10, .int v21), (9, .int v12), (0, .ref a0), (1, .ref a1), (2, .int a2), (3, .long a3), (5, .int v2), (6, .int j48_6), (7, .int j48_7), (8, .int j48_8)]) hx hb dX9_choose_80 hl (by decide) rfl (fun ls hl => ?_)
            refine lv_iload hx hb dX9_choose_82 (lv_at hl 0 rfl) ?_
            refine lv_iload hx hb dX9_choose_84 (lv_at hl 8 rfl) ?_
            refine lv_icmp_le (tgt := 97) hx hb dX9_choose_86 (by decide) (fun c22 => ?_) (fun c22 => ?_)
            · --
              exact J_97 j48_6 ij48_6 j48_7 σ20 _ _ hw fr _ (lv_sub hl [2, 3, 4, 5, 6, 7, 8, 9, 1] rfl)
            · --
              have i23 : Iv j48_7 (-2147483648) 2147483646 := iv_lt1 (iv_nle c22) (iv_top j48_7) (iv_top v21) (by decide)
              have i24 : Iv v21 (-2147483647) 2147483647 := iv_lt2 (iv_nle c22) (iv_top j48_7) (iv_top v21) (by decide)
              refine lv_iload hx hb dX9_choose_89 (lv_at hl 0 rfl) ?_
              refine lv_istore (lv' := [(7, .int v21), (10, .int v21), (9, .int v12), (0, .ref a0), (1, .ref a1), (2, .int a2), (3, .long a3), (5, .int v2), (6, .int j48_6), (8, .int j48_8)]) hx hb dX9_choose_91 hl (by decide) rfl (fun ls hl => ?_)
              refine lv_iload hx hb dX9_choose_93 (lv_at hl 2 rfl) ?_
              refine lv_istore (lv' := [(6, .int v12), (7, .int v21), (10, .int v21), (9, .int v12), (0, .ref a0), (1, .ref a1), (2, .int a2), (3, .long a3), (5, .int v2), (8, .int j48_8)]) hx hb dX9_choose_95 hl (by decide) rfl (fun ls hl => ?_)
              exact J_97 v12 i19 v21 σ20 _ _ hw fr _ (lv_sub hl [4, 5, 6, 7, 8, 0, 1, 9, 3] rfl)
    exact J_48 _ v2 i2 v7 0 (iv_w (⟨by decide, by decide⟩ : Iv 0 0 0) (by decide)) σ6 _ _ hw fr (Nat.lt_succ_self _) _ (lv_sub hl [3, 4, 5, 6, 7, 2, 1, 0] rfl)
  refine lv_if_eq (tgt := 31) hx hb dX9_choose_16 (by decide) (fun c25 => ?_) (fun c25 => ?_)
  · --
    have i26 : Iv v5 0 0 := iv_eq1 c25 i5 (⟨by decide, by decide⟩ : Iv 0 0 0) (by decide)
    exact J_31 _ _ hw _ (lv_sub hl [1, 2, 3, 4, 0] rfl)
  · --
    have i27 : Iv v5 1 1 := iv_ne1 c25 i5 (⟨by decide, by decide⟩ : Iv 0 0 0) (by decide)
    refine lv_aload_n hx hb dX9_choose_19 rfl (lv_at hl 2 rfl) ?_
    refine g_331 cx hw ha1 k_f_X9_51 dX9_choose_20 (fun v28 e28 => ?_)
    refine lv_iconst (v := 2) hx hb dX9_choose_23 (by decide) ?_
    refine lv_irem hx hb dX9_choose_24 (iv_nz (⟨by decide, by decide⟩ : Iv 2 2 2) (by decide)) ?_
    refine lv_topi (fun v29 e29 => ?_)
    have i29 : Iv v29 (-1) 1 := iv_remA e29 (⟨by decide, by decide⟩ : Iv 2 2 2) (by decide)
    refine lv_if_eq (tgt := 31) hx hb dX9_choose_25 (by decide) (fun c30 => ?_) (fun c30 => ?_)
    · --
      have i31 : Iv v29 0 0 := iv_eq1 c30 i29 (⟨by decide, by decide⟩ : Iv 0 0 0) (by decide)
      exact J_31 _ _ hw _ (lv_sub hl [1, 2, 3, 4, 0] rfl)
    · --
      refine lv_iload hx hb dX9_choose_28 (lv_at hl 0 rfl) ?_
      rw [← hQ]
      exact o_ri cx rx hw dX9_choose_30 ⟨fr, (iv_w i2 (by decide))⟩
set_option maxHeartbeats 4000000 in
set_option maxRecDepth 100000 in
theorem c_X10_greedOf (a0 : Int32) (a1 : Int32) : oMet l A L τ cy D K yX10_greedOf cX10_greedOf 3 (some .int) 1 40 [.int a0, .int a1] σ (va_Qi (fun r σ1 => σ1 = σ ∧ Iv r 0 9) (oPo A L τ cy D) A) := by
  refine oMk (by decide) (Nat.le_of_ble_eq_true rfl) rfl ?_
  intro p e s m args below meth c ls cx rx hA hw hl
  generalize hQ : MQ below _ args s 0 0 A = Q
  have hx := cx.1.1
  have hb := cx.1.2.1
  have hml := cx.1.2.2.1
  have hown := cx.1.2.2.2.1
  have hts := cx.1.2.2.2.2
  have hl : lv_has ls 3 [(0, .int a0), (1, .int a1)] := hl
  refine lv_iload_n hx hb dX10_greedOf_0 rfl (lv_at hl 1 rfl) ?_
  refine lv_istore_n (lv' := [(2, .int a1), (0, .int a0), (1, .int a1)]) hx hb dX10_greedOf_1 rfl hl (by decide) rfl (fun ls hl => ?_)
  refine lv_iload_n hx hb dX10_greedOf_2 rfl (lv_at hl 1 rfl) ?_
  have J_20 : ∀ (j20_2 : Int32), ∀ (H : Heap) (locs : List Loc), oI A L τ cy D s.heap σ H locs → ∀ (ls : Array Slot), lv_has ls 3 [(0, .int a0), (1, .int a1), (2, .int j20_2)] → W p l e ({ frames := 1, cells := 0, slots := 0, locals := 40 } : Room) s m args below meth c H locs 0 0 Q (F0 m 20 ls []) := by
    intro j20_2 H locs hw     ls hl
    refine lv_iconst (v := 0) hx hb dX10_greedOf_20 (by decide) ?_
    refine lv_bipush (v := 9) hx hb dX10_greedOf_21 (by decide) ?_
    refine lv_iload_n hx hb dX10_greedOf_23 rfl (lv_at hl 2 rfl) ?_
    refine va_mmin hx hb (hml.trans hl.1.symm) hown (hts _ k_m_X10_212) (hts _ k_s_J9_min_7cf53) (hts _ k_i_J9) (hts _ k_code_J9_min_7cf53) (by decide) (Nat.le_of_ble_eq_true rfl) (by decide) (by decide) dX10_greedOf_24 ?_
    refine lv_topi (fun v1 e1 => ?_)
    have i1 : Iv v1 (-2147483648) 9 := iv_min e1 (⟨by decide, by decide⟩ : Iv 9 9 9) (iv_top j20_2) (by decide)
    refine va_mmax hx hb (hml.trans hl.1.symm) hown (hts _ k_m_X10_217) (hts _ k_s_J9_max_7cf53) (hts _ k_i_J9) (hts _ k_code_J9_max_7cf53) (by decide) (Nat.le_of_ble_eq_true rfl) (by decide) (by decide) dX10_greedOf_27 ?_
    refine lv_topi (fun v2 e2 => ?_)
    have i2 : Iv v2 0 9 := iv_max e2 (⟨by decide, by decide⟩ : Iv 0 0 0) i1 (by decide)
    rw [← hQ]
    exact o_ri cx rx hw dX10_greedOf_30 ⟨rfl, (iv_w i2 (by decide))⟩
  refine lv_if_ne (tgt := 12) hx hb dX10_greedOf_3 (by decide) (fun c3 => ?_) (fun c3 => ?_)
  · --
    refine lv_iload_n hx hb dX10_greedOf_12 rfl (lv_at hl 1 rfl) ?_
    refine lv_iconst (v := 1) hx hb dX10_greedOf_13 (by decide) ?_
    refine lv_icmp_ne (tgt := 20) hx hb dX10_greedOf_14 (by decide) (fun c4 => ?_) (fun c4 => ?_)
    · --
      exact J_20 a1 _ _ hw _ (lv_sub hl [1, 2, 0] rfl)
    · --
      have i5 : Iv a0 1 1 := iv_eq1 c4 (iv_top a0) (⟨by decide, by decide⟩ : Iv 1 1 1) (by decide)
      refine lv_iload_n hx hb dX10_greedOf_17 rfl (lv_at hl 2 rfl) ?_
      refine lv_i2s hx hb dX10_greedOf_18 rfl ?_
      refine lv_topi (fun v6 e6 => ?_)
      refine lv_istore_n (lv' := [(2, .int v6), (0, .int a0), (1, .int a1)]) hx hb dX10_greedOf_19 rfl hl (by decide) rfl (fun ls hl => ?_)
      exact J_20 v6 _ _ hw _ (lv_sub hl [1, 2, 0] rfl)
  · --
    have i7 : Iv a0 0 0 := iv_eq1 c3 (iv_top a0) (⟨by decide, by decide⟩ : Iv 0 0 0) (by decide)
    refine lv_iload_n hx hb dX10_greedOf_6 rfl (lv_at hl 2 rfl) ?_
    refine lv_i2b hx hb dX10_greedOf_7 rfl ?_
    refine lv_topi (fun v8 e8 => ?_)
    refine lv_istore_n (lv' := [(2, .int v8), (0, .int a0), (1, .int a1)]) hx hb dX10_greedOf_8 rfl hl (by decide) rfl (fun ls hl => ?_)
    refine lv_goto (tgt := 20) hx hb dX10_greedOf_9 (by decide) ?_
    exact J_20 v8 _ _ hw _ (lv_sub hl [1, 2, 0] rfl)
abbrev fs_X10_lay : List Nat := []
abbrev ts_X10_lay : List Nat := [32]
set_option maxHeartbeats 4000000 in
set_option maxRecDepth 100000 in
theorem c_X10_lay (a0 : Nat) (ha0 : oA L τ a0 9) (a1 : Nat) (ha1 : oA L τ a1 32) (a2 : Int32) (a3 : Int32) : oMet l A L τ cy D K yX10_lay cX10_lay 5 (some .int) 2 43 [.ref a0, .ref a1, .int a2, .int a3] σ (va_Qi (fun r σ1 => oFr τ fs_X10_lay ts_X10_lay σ σ1) (oPo A L τ cy D) A) := by
  refine oMk (by decide) (Nat.le_of_ble_eq_true rfl) rfl ?_
  intro p e s m args below meth c ls cx rx hA hw hl
  generalize hQ : MQ below _ args s 0 0 A = Q
  have hx := cx.1.1
  have hb := cx.1.2.1
  have hml := cx.1.2.2.1
  have hown := cx.1.2.2.2.1
  have hts := cx.1.2.2.2.2
  have hl : lv_has ls 5 [(0, .ref a0), (1, .ref a1), (2, .int a2), (3, .int a3)] := hl
  have fr : oFr τ fs_X10_lay ts_X10_lay σ σ := oFr_rf
  refine lv_aload_n hx hb dX10_lay_0 rfl (lv_at hl 0 rfl) ?_
  refine g_578 cx hw ha0 k_f_X10_26 dX10_lay_1 (fun v1 e1 h1 => ?_)
  refine lv_iload_n hx hb dX10_lay_4 rfl (lv_at hl 2 rfl) ?_
  refine o_ci hw (oRunV cx hA hw q_X2_isThere k_m_X10_135 rfl h1 (by decide) (As := [.int a2]) (c_X2_isThere v1 h1 a2) (by decide) rfl hl.1 rfl (Nat.le_of_ble_eq_true rfl) dX10_lay_5 (by decide)) (fun v3 σ2 H locs hp hw => ?_)
  obtain ⟨p3_0, p3_1, p3_2⟩ := hp
  rw [p3_0] at hw
  refine lv_if_ne (tgt := 13) hx hb dX10_lay_8 (by decide) (fun c4 => ?_) (fun c4 => ?_)
  · --
    have i5 : Iv v3 1 1 := iv_ne1 c4 p3_1 (⟨by decide, by decide⟩ : Iv 0 0 0) (by decide)
    have i6 : Iv a2 0 63 := p3_2 c4
    refine lv_aload_n hx hb dX10_lay_13 rfl (lv_at hl 0 rfl) ?_
    refine g_578 cx hw ha0 k_f_X10_26 dX10_lay_14 (fun v7 e7 h7 => ?_)
    rw [show v7 = v1 from Option.some.inj (e7.symm.trans (e1))]
    refine lv_iload_n hx hb dX10_lay_17 rfl (lv_at hl 2 rfl) ?_
    refine o_ci hw (oRunV cx hA hw q_X2_isPlain k_m_X10_241 rfl h1 (by decide) (As := [.int a2]) (c_X2_isPlain v1 h1 a2) (by decide) rfl hl.1 rfl (Nat.le_of_ble_eq_true rfl) dX10_lay_18 (by decide)) (fun v9 σ8 H locs hp hw => ?_)
    obtain ⟨p9_0, p9_1, p9_2, p9_3⟩ := hp
    rw [p9_0] at hw
    refine lv_if_ne (tgt := 27) hx hb dX10_lay_21 (by decide) (fun c10 => ?_) (fun c10 => ?_)
    · --
      have i11 : Iv v9 1 1 := iv_ne1 c10 p9_1 (⟨by decide, by decide⟩ : Iv 0 0 0) (by decide)
      have i12 : Iv a2 0 63 := p9_2 c10
      refine lv_iload_n hx hb dX10_lay_27 rfl (lv_at hl 3 rfl) ?_
      refine lv_if_lt (tgt := 37) hx hb dX10_lay_28 (by decide) (fun c13 => ?_) (fun c13 => ?_)
      · --
        have i14 : Iv a3 (-2147483648) (-1) := iv_lt1 c13 (iv_top a3) (⟨by decide, by decide⟩ : Iv 0 0 0) (by decide)
        refine lv_iconst (v := (-1)) hx hb dX10_lay_37 (by decide) ?_
        rw [← hQ]
        exact o_ri cx rx hw dX10_lay_38 fr
      · --
        have i15 : Iv a3 0 2147483647 := iv_le2 (iv_nlt c13) (⟨by decide, by decide⟩ : Iv 0 0 0) (iv_top a3) (by decide)
        refine lv_iload_n hx hb dX10_lay_31 rfl (lv_at hl 3 rfl) ?_
        refine lv_bipush (v := 9) hx hb dX10_lay_32 (by decide) ?_
        refine lv_icmp_le (tgt := 39) hx hb dX10_lay_34 (by decide) (fun c16 => ?_) (fun c16 => ?_)
        · --
          have i17 : Iv a3 0 9 := iv_le1 c16 i15 (⟨by decide, by decide⟩ : Iv 9 9 9) (by decide)
          refine lv_aload_n hx hb dX10_lay_39 rfl (lv_at hl 1 rfl) ?_
          refine lv_iload_n hx hb dX10_lay_40 rfl (lv_at hl 2 rfl) ?_
          refine o_iald cx hw ha1 (by decide) rfl (iv_in i12 (by decide)) dX10_lay_41 (fun v18 e18 b18 => ?_)
          refine lv_istore (lv' := [(4, .int v18), (0, .ref a0), (1, .ref a1), (2, .int a2), (3, .int a3)]) hx hb dX10_lay_42 hl (by decide) rfl (fun ls hl => ?_)
          refine lv_aload_n hx hb dX10_lay_44 rfl (lv_at hl 2 rfl) ?_
          refine lv_iload_n hx hb dX10_lay_45 rfl (lv_at hl 3 rfl) ?_
          refine lv_iload_n hx hb dX10_lay_46 rfl (lv_at hl 4 rfl) ?_
          refine o_iast cx hw ha1 (by decide) rfl (iv_in i12 (by decide)) trivial dX10_lay_47 (fun σ19 H locs eσ19 hw => ?_)
          have fr := oFr_p fr eσ19 ha1 (by decide)
          refine lv_iload hx hb dX10_lay_48 (lv_at hl 0 rfl) ?_
          rw [← hQ]
          exact o_ri cx rx hw dX10_lay_50 fr
        · --
          have i20 : Iv a3 10 2147483647 := iv_lt2 (iv_nle c16) (⟨by decide, by decide⟩ : Iv 9 9 9) i15 (by decide)
          refine lv_iconst (v := (-1)) hx hb dX10_lay_37 (by decide) ?_
          rw [← hQ]
          exact o_ri cx rx hw dX10_lay_38 fr
    · --
      have i21 : Iv v9 0 0 := iv_eq1 c10 p9_1 (⟨by decide, by decide⟩ : Iv 0 0 0) (by decide)
      refine lv_bipush (v := (-2)) hx hb dX10_lay_24 (by decide) ?_
      rw [← hQ]
      exact o_ri cx rx hw dX10_lay_26 fr
  · --
    have i22 : Iv v3 0 0 := iv_eq1 c4 p3_1 (⟨by decide, by decide⟩ : Iv 0 0 0) (by decide)
    refine lv_iconst (v := (-1)) hx hb dX10_lay_11 (by decide) ?_
    rw [← hQ]
    exact o_ri cx rx hw dX10_lay_12 fr
abbrev fs_X3_add : List Nat := [129, 130, 327, 328, 329, 330, 331]
abbrev ts_X3_add : List Nat := [32, 33, 34]
set_option maxHeartbeats 4000000 in
set_option maxRecDepth 100000 in
theorem c_X3_add (a0 : Nat) (ha0 : oA L τ a0 2) (a1 : Nat) (ha1 : oA L τ a1 5) : oMet l A L τ cy D K yX3_add cX3_add 2 none 2 81 [.ref a0, .ref a1] σ (va_Qv (fun σ1 => oFr τ fs_X3_add ts_X3_add σ σ1 ∧ ((∀ B, RG σ a0 B (σ.1 327 a1) → RG σ1 a0 B (σ.1 327 a1)) ∧ ∀ a, σ1.1 327 a = σ.1 327 a ∨ σ1.1 327 a = σ.1 327 a1)) (oPo A L τ cy D) A) := by
  refine oMk (by decide) (Nat.le_of_ble_eq_true rfl) rfl ?_
  intro p e s m args below meth c ls cx rx hA hw hl
  generalize hQ : MQ below _ args s 0 0 A = Q
  have hx := cx.1.1
  have hb := cx.1.2.1
  have hml := cx.1.2.2.1
  have hown := cx.1.2.2.2.1
  have hts := cx.1.2.2.2.2
  have hl : lv_has ls 2 [(0, .ref a0), (1, .ref a1)] := hl
  have fr : oFr τ fs_X3_add ts_X3_add σ σ := oFr_rf
  obtain ⟨b128, hF128, hb128⟩ := hw.2.2.2.2.2 128 a0 40 (by rw [ha0.2]; rfl) ha0.1
  have iz129 : Iv (σ.1 129 a0) (0) 9 := o_fb (j := 129) hw ha0 rfl
  have iz130 : Iv (σ.1 130 a0) (0) 10 := o_fb (j := 130) hw ha0 rfl
  have iz327 : Iv (σ.1 327 a1) (0) 6 := o_fb (j := 327) hw ha1 rfl
  refine lv_aload_n hx hb dX3_add_0 rfl (lv_at hl 0 rfl) ?_
  refine g_128 cx hw ha0 k_f_X3_11 dX3_add_1 (fun v1 e1 h1 => ?_)
  rw [show v1 = b128 from Option.some.inj (e1.symm.trans (hF128))]
  refine lv_aload_n hx hb dX3_add_4 rfl (lv_at hl 0 rfl) ?_
  refine g_129 cx hw ha0 k_f_X3_20 dX3_add_5 (fun v2 e2 i2 => ?_)
  rw [show v2 = (σ.1 129 a0) from e2.trans rfl]
  refine o_aald cx hw hb128 (by decide) rfl (iv_in iz129 (by decide)) (by decide) dX3_add_8 (fun v3 e3 h3 => ?_)
  refine lv_aload_n hx hb dX3_add_9 rfl (lv_at hl 1 rfl) ?_
  have i4 : Iv (σ.1 327 v3) 0 6 := o_fb (j := 327) hw h3 rfl
  refine o_cv hw (oRunV cx hA hw q_X6_copyFrom k_m_X3_23 rfl h3 (by decide) (As := [.ref a1]) (c_X6_copyFrom v3 h3 a1 ha1) (by decide) rfl hl.1 rfl (Nat.le_of_ble_eq_true rfl) dX3_add_10 (by decide)) (fun σ5 H locs hp hw => ?_)
  obtain ⟨p6_0, p6_1⟩ := hp
  have fr := oFr_tr fr p6_0 (by decide)
  have i7 : Iv (σ5.1 327 v3) 0 6 := o_fb (j := 327) hw h3 rfl
  have i8 : Iv (σ5.1 327 a1) 0 6 := o_fb (j := 327) hw ha1 rfl
  refine lv_aload_n hx hb dX3_add_13 rfl (lv_at hl 0 rfl) ?_
  refine lv_aload_n hx hb dX3_add_14 rfl (lv_at hl 0 rfl) ?_
  refine g_129 cx hw ha0 k_f_X3_20 dX3_add_15 (fun v9 e9 i9 => ?_)
  rw [show v9 = (σ.1 129 a0) from e9.trans ((kp_c p6_0 (by decide)).trans rfl)]
  refine lv_iconst (v := 1) hx hb dX3_add_18 (by decide) ?_
  refine lv_iadd hx hb dX3_add_19 ?_
  refine lv_topi (fun v10 e10 => ?_)
  have i10 : Iv v10 1 10 := iv_add e10 iz129 (⟨by decide, by decide⟩ : Iv 1 1 1) (by decide)
  have x10 : v10.toInt = (σ.1 129 a0).toInt + 1 := ex_add e10 iz129 (⟨by decide, by decide⟩ : Iv 1 1 1) (by decide)
  refine lv_bipush (v := 10) hx hb dX3_add_20 (by decide) ?_
  refine lv_irem hx hb dX3_add_22 (iv_nz (⟨by decide, by decide⟩ : Iv 10 10 10) (by decide)) ?_
  refine lv_topi (fun v11 e11 => ?_)
  have i11 : Iv v11 0 9 := iv_rem e11 i10 (⟨by decide, by decide⟩ : Iv 10 10 10) (by decide)
  have rm9 := ex_rem2 e11 i10 (by decide) (show (10 : Int32).toInt = 10 by decide)
  refine p_129 cx hw ha0 (iv_w i11 (by decide)) k_f_X3_20 dX3_add_23 (fun σ12 H locs eσ12 hw => ?_)
  have fr := oFr_i fr eσ12 (by decide)
  refine lv_aload_n hx hb dX3_add_26 rfl (lv_at hl 0 rfl) ?_
  refine lv_bipush (v := 10) hx hb dX3_add_27 (by decide) ?_
  refine lv_aload_n hx hb dX3_add_29 rfl (lv_at hl 0 rfl) ?_
  refine g_130 cx hw ha0 k_f_X3_16 dX3_add_30 (fun v13 e13 i13 => ?_)
  rw [show v13 = (σ.1 130 a0) from e13.trans ((kp_i eσ12 (by decide)).trans ((kp_c p6_0 (by decide)).trans rfl))]
  refine lv_iconst (v := 1) hx hb dX3_add_33 (by decide) ?_
  refine lv_iadd hx hb dX3_add_34 ?_
  refine lv_topi (fun v14 e14 => ?_)
  have i14 : Iv v14 1 11 := iv_add e14 iz130 (⟨by decide, by decide⟩ : Iv 1 1 1) (by decide)
  have x14 : v14.toInt = (σ.1 130 a0).toInt + 1 := ex_add e14 iz130 (⟨by decide, by decide⟩ : Iv 1 1 1) (by decide)
  refine va_mmin hx hb (hml.trans hl.1.symm) hown (hts _ k_m_X3_27) (hts _ k_s_J9_min_7cf53) (hts _ k_i_J9) (hts _ k_code_J9_min_7cf53) (by decide) (Nat.le_of_ble_eq_true rfl) (by decide) (by decide) dX3_add_35 ?_
  refine lv_topi (fun v15 e15 => ?_)
  have i15 : Iv v15 1 10 := iv_min e15 (⟨by decide, by decide⟩ : Iv 10 10 10) i14 (by decide)
  have mn9 := ex_min e15
  have t10 : (10 : Int32).toInt = 10 := by decide
  refine p_130 cx hw ha0 (iv_w i15 (by decide)) k_f_X3_16 dX3_add_38 (fun σ16 H locs eσ16 hw => ?_)
  have fr := oFr_i fr eσ16 (by decide)
  rw [← hQ]
  exact o_rv cx rx hw dX3_add_41 ⟨fr, (by have u9 := u_mv (u_cp p6_1) (fun a => ((kp_i eσ16 (by decide)).trans ((kp_i eσ12 (by decide)).trans rfl))); have u9 : ∀ a, σ16.1 327 a = σ.1 327 a ∨ σ16.1 327 a = σ.1 327 a1 := fun a => (u9 a).imp (fun z => z.trans (rfl)) (fun z => z.trans (rfl)); refine ⟨fun B hB => rg_add hB (nv_r2 (X := [128]) fr (by decide) (by decide)) hF128 e3 iz129 iz130 (by have := (i7).1; have := (i7).2; have := (i8).1; have := (i8).2; have := (i11).1; have := (i11).2; have := (i15).1; have := (i15).2; have := (iz129).1; have := (iz129).2; have := (iz130).1; have := (iz130).2; have := (iz327).1; have := (iz327).2; have := (i4).1; have := (i4).2; have := (i10).1; have := (i10).2; have := (i14).1; have := (i14).2; have : (σ16.1 327 v3).toInt = ((σ5.1 327 v3) : Int32).toInt := congrArg Int32.toInt (show σ16.1 327 v3 = (σ5.1 327 v3) from ((kp_i eσ16 (by decide)).trans ((kp_i eσ12 (by decide)).trans rfl))); have : (σ16.1 327 a1).toInt = ((σ5.1 327 a1) : Int32).toInt := congrArg Int32.toInt (show σ16.1 327 a1 = (σ5.1 327 a1) from ((kp_i eσ16 (by decide)).trans ((kp_i eσ12 (by decide)).trans rfl))); have : (σ16.1 129 a0).toInt = (v11 : Int32).toInt := congrArg Int32.toInt (show σ16.1 129 a0 = v11 from ((kp_i eσ16 (by decide)).trans (kp_s eσ12))); have : (σ16.1 130 a0).toInt = (v15 : Int32).toInt := congrArg Int32.toInt (show σ16.1 130 a0 = v15 from (kp_s eσ16)); omega) (by have := (i7).1; have := (i7).2; have := (i8).1; have := (i8).2; have := (i11).1; have := (i11).2; have := (i15).1; have := (i15).2; have := (iz129).1; have := (iz129).2; have := (iz130).1; have := (iz130).2; have := (iz327).1; have := (iz327).2; have := (i4).1; have := (i4).2; have := (i10).1; have := (i10).2; have := (i14).1; have := (i14).2; have : (σ16.1 327 v3).toInt = ((σ5.1 327 v3) : Int32).toInt := congrArg Int32.toInt (show σ16.1 327 v3 = (σ5.1 327 v3) from ((kp_i eσ16 (by decide)).trans ((kp_i eσ12 (by decide)).trans rfl))); have : (σ16.1 327 a1).toInt = ((σ5.1 327 a1) : Int32).toInt := congrArg Int32.toInt (show σ16.1 327 a1 = (σ5.1 327 a1) from ((kp_i eσ16 (by decide)).trans ((kp_i eσ12 (by decide)).trans rfl))); have : (σ16.1 129 a0).toInt = (v11 : Int32).toInt := congrArg Int32.toInt (show σ16.1 129 a0 = v11 from ((kp_i eσ16 (by decide)).trans (kp_s eσ12))); have : (σ16.1 130 a0).toInt = (v15 : Int32).toInt := congrArg Int32.toInt (show σ16.1 130 a0 = v15 from (kp_s eσ16)); omega) ((((kp_i eσ16 (by decide)).trans ((kp_i eσ12 (by decide)).trans rfl))).trans (p6_1.1.trans (rfl))) u9, u9⟩)⟩
abbrev fs_X10_remembered : List Nat := [129, 130, 327, 328, 329, 330, 331]
abbrev ts_X10_remembered : List Nat := [32, 33, 34]
set_option maxHeartbeats 4000000 in
set_option maxRecDepth 100000 in
theorem c_X10_remembered (a0 : Nat) (ha0 : oA L τ a0 9) (a1 : Int32) : oMet l A L τ cy D K yX10_remembered cX10_remembered 2 (some .int) 3 102 [.ref a0, .int a1] σ (va_Qi (fun r σ1 => oFr τ fs_X10_remembered ts_X10_remembered σ σ1 ∧ (∀ V, NV σ a0 V → (∀ b, σ.2.2.2.2 582 a0 = some b → σ.1 327 b = V) → NV σ1 a0 V)) (oPo A L τ cy D) A) := by
  refine oMk (by decide) (Nat.le_of_ble_eq_true rfl) rfl ?_
  intro p e s m args below meth c ls cx rx hA hw hl
  generalize hQ : MQ below _ args s 0 0 A = Q
  have hx := cx.1.1
  have hb := cx.1.2.1
  have hml := cx.1.2.2.1
  have hown := cx.1.2.2.2.1
  have hts := cx.1.2.2.2.2
  have hl : lv_has ls 2 [(0, .ref a0), (1, .int a1)] := hl
  have fr : oFr τ fs_X10_remembered ts_X10_remembered σ σ := oFr_rf
  obtain ⟨b581, hF581, hb581⟩ := hw.2.2.2.2.2 581 a0 5 (by rw [ha0.2]; rfl) ha0.1
  obtain ⟨b582, hF582, hb582⟩ := hw.2.2.2.2.2 582 a0 5 (by rw [ha0.2]; rfl) ha0.1
  obtain ⟨b583, hF583, hb583⟩ := hw.2.2.2.2.2 583 a0 0 (by rw [ha0.2]; rfl) ha0.1
  obtain ⟨b585, hF585, hb585⟩ := hw.2.2.2.2.2 585 a0 2 (by rw [ha0.2]; rfl) ha0.1
  obtain ⟨b586, hF586, hb586⟩ := hw.2.2.2.2.2 586 a0 41 (by rw [ha0.2]; rfl) ha0.1
  refine lv_iload_n hx hb dX10_remembered_0 rfl (lv_at hl 1 rfl) ?_
  refine lv_if_lt (tgt := 15) hx hb dX10_remembered_1 (by decide) (fun c1 => ?_) (fun c1 => ?_)
  · --
    have i2 : Iv a1 (-2147483648) (-1) := iv_lt1 c1 (iv_top a1) (⟨by decide, by decide⟩ : Iv 0 0 0) (by decide)
    refine lv_iload_n hx hb dX10_remembered_15 rfl (lv_at hl 1 rfl) ?_
    rw [← hQ]
    exact o_ri cx rx hw dX10_remembered_16 ⟨fr, (by intro V h _; exact h)⟩
  · --
    have i3 : Iv a1 0 2147483647 := iv_le2 (iv_nlt c1) (⟨by decide, by decide⟩ : Iv 0 0 0) (iv_top a1) (by decide)
    refine lv_aload_n hx hb dX10_remembered_4 rfl (lv_at hl 0 rfl) ?_
    refine g_585 cx hw ha0 k_f_X10_75 dX10_remembered_5 (fun v4 e4 h4 => ?_)
    rw [show v4 = b585 from Option.some.inj (e4.symm.trans (hF585))]
    refine lv_aload_n hx hb dX10_remembered_8 rfl (lv_at hl 0 rfl) ?_
    refine g_582 cx hw ha0 k_f_X10_53 dX10_remembered_9 (fun v5 e5 h5 => ?_)
    rw [show v5 = b582 from Option.some.inj (e5.symm.trans (hF582))]
    refine o_cv hw (oRunV cx hA hw q_X3_add k_m_X10_289 rfl hb585 (by decide) (As := [.ref b582]) (c_X3_add b585 hb585 b582 hb582) (by decide) rfl hl.1 rfl (Nat.le_of_ble_eq_true rfl) dX10_remembered_12 (by decide)) (fun σ6 H locs hp hw => ?_)
    obtain ⟨p7_0, p7_1⟩ := hp
    have fr := oFr_tr fr p7_0 (by decide)
    refine lv_iload_n hx hb dX10_remembered_15 rfl (lv_at hl 1 rfl) ?_
    rw [← hQ]
    exact o_ri cx rx hw dX10_remembered_16 ⟨fr, (by intro V h hB; have h1 : NV σ a0 V := h; have p9 := p7_1; rw [show σ.1 327 b582 = V from (rfl).trans (hB b582 hF582)] at p9; have h2 := nv_a2 h1 p7_0 (by decide +kernel) (hF585) (fun B q => ⟨p9.1 B q, p9.2⟩); exact h2)⟩
abbrev fs_X10_turn : List Nat := [330]
abbrev ts_X10_turn : List Nat := []
set_option maxHeartbeats 4000000 in
set_option maxRecDepth 100000 in
theorem c_X10_turn (a0 : Nat) (ha0 : oA L τ a0 9) (a1 : Int32) (a2 : Int32) : oMet l A L τ cy D K yX10_turn cX10_turn 4 (some .int) 1 23 [.ref a0, .int a1, .int a2] σ (va_Qi (fun r σ1 => oFr τ fs_X10_turn ts_X10_turn σ σ1 ∧ Iv r (-2) 1) (oPo A L τ cy D) A) := by
  refine oMk (by decide) (Nat.le_of_ble_eq_true rfl) rfl ?_
  intro p e s m args below meth c ls cx rx hA hw hl
  generalize hQ : MQ below _ args s 0 0 A = Q
  have hx := cx.1.1
  have hb := cx.1.2.1
  have hml := cx.1.2.2.1
  have hown := cx.1.2.2.2.1
  have hts := cx.1.2.2.2.2
  have hl : lv_has ls 4 [(0, .ref a0), (1, .int a1), (2, .int a2)] := hl
  have fr : oFr τ fs_X10_turn ts_X10_turn σ σ := oFr_rf
  refine lv_iload_n hx hb dX10_turn_0 rfl (lv_at hl 1 rfl) ?_
  refine lv_if_lt (tgt := 15) hx hb dX10_turn_1 (by decide) (fun c1 => ?_) (fun c1 => ?_)
  · --
    have i2 : Iv a1 (-2147483648) (-1) := iv_lt1 c1 (iv_top a1) (⟨by decide, by decide⟩ : Iv 0 0 0) (by decide)
    refine lv_iconst (v := (-1)) hx hb dX10_turn_15 (by decide) ?_
    rw [← hQ]
    exact o_ri cx rx hw dX10_turn_16 ⟨fr, (iv_w (⟨by decide, by decide⟩ : Iv (-1) (-1) (-1)) (by decide))⟩
  · --
    have i3 : Iv a1 0 2147483647 := iv_le2 (iv_nlt c1) (⟨by decide, by decide⟩ : Iv 0 0 0) (iv_top a1) (by decide)
    refine lv_iload_n hx hb dX10_turn_4 rfl (lv_at hl 1 rfl) ?_
    refine lv_aload_n hx hb dX10_turn_5 rfl (lv_at hl 0 rfl) ?_
    refine g_578 cx hw ha0 k_f_X10_26 dX10_turn_6 (fun v4 e4 h4 => ?_)
    refine g_66 cx hw h4 k_f_X10_306 dX10_turn_9 (fun v5 e5 i5 => ?_)
    refine lv_icmp_lt (tgt := 17) hx hb dX10_turn_12 (by decide) (fun c6 => ?_) (fun c6 => ?_)
    · --
      have i7 : Iv a1 0 5 := iv_lt1 c6 i3 i5 (by decide)
      have i8 : Iv v5 1 6 := iv_lt2 c6 i3 i5 (by decide)
      refine lv_aload_n hx hb dX10_turn_17 rfl (lv_at hl 0 rfl) ?_
      refine g_581 cx hw ha0 k_f_X10_49 dX10_turn_18 (fun v9 e9 h9 => ?_)
      refine lv_aload_n hx hb dX10_turn_21 rfl (lv_at hl 0 rfl) ?_
      refine g_578 cx hw ha0 k_f_X10_26 dX10_turn_22 (fun v10 e10 h10 => ?_)
      rw [show v10 = v4 from Option.some.inj (e10.symm.trans (e4))]
      refine g_67 cx hw h4 k_f_X10_309 dX10_turn_25 (fun v11 e11 h11 => ?_)
      refine lv_iload_n hx hb dX10_turn_28 rfl (lv_at hl 1 rfl) ?_
      refine o_iald cx hw h11 (by decide) rfl (iv_in i7 (by decide)) dX10_turn_29 (fun v12 e12 b12 => ?_)
      refine o_ci hw (oRunV cx hA hw q_X6_herdsAt k_m_X10_174 rfl h9 (by decide) (As := [.int v12]) (c_X6_herdsAt v9 h9 v12) (by decide) rfl hl.1 rfl (Nat.le_of_ble_eq_true rfl) dX10_turn_30 (by decide)) (fun v14 σ13 H locs hp hw => ?_)
      obtain ⟨p14_0, p14_1⟩ := hp
      rw [p14_0] at hw
      refine lv_if_eq (tgt := 39) hx hb dX10_turn_33 (by decide) (fun c15 => ?_) (fun c15 => ?_)
      · --
        have i16 : Iv v14 0 0 := iv_eq1 c15 p14_1 (⟨by decide, by decide⟩ : Iv 0 0 0) (by decide)
        refine lv_iload_n hx hb dX10_turn_39 rfl (lv_at hl 2 rfl) ?_
        have J_50 : ∀ (H : Heap) (locs : List Loc), oI A L τ cy D s.heap σ H locs → ∀ (ls : Array Slot), lv_has ls 4 [(0, .ref a0), (1, .int a1), (2, .int a2)] → W p l e ({ frames := 1, cells := 0, slots := 0, locals := 23 } : Room) s m args below meth c H locs 0 0 Q (F0 m 50 ls []) := by
          intro  H locs hw     ls hl
          refine lv_aload_n hx hb dX10_turn_50 rfl (lv_at hl 0 rfl) ?_
          refine g_581 cx hw ha0 k_f_X10_49 dX10_turn_51 (fun v17 e17 h17 => ?_)
          rw [show v17 = v9 from Option.some.inj (e17.symm.trans (e9))]
          refine g_330 cx hw h9 k_f_X10_154 dX10_turn_54 (fun v18 e18 => ?_)
          refine lv_iload_n hx hb dX10_turn_57 rfl (lv_at hl 1 rfl) ?_
          refine lv_ishr hx hb dX10_turn_58 ?_
          refine lv_topi (fun v19 e19 => ?_)
          refine lv_iconst (v := 1) hx hb dX10_turn_59 (by decide) ?_
          refine lv_iand hx hb dX10_turn_60 ?_
          refine lv_topi (fun v20 e20 => ?_)
          have i20 : Iv v20 0 1 := iv_and e20 (⟨by decide, by decide⟩ : Iv 1 1 1) (by decide)
          refine lv_istore_n (lv' := [(3, .int v20), (0, .ref a0), (1, .int a1), (2, .int a2)]) hx hb dX10_turn_61 rfl hl (by decide) rfl (fun ls hl => ?_)
          refine lv_aload_n hx hb dX10_turn_62 rfl (lv_at hl 1 rfl) ?_
          refine g_581 cx hw ha0 k_f_X10_49 dX10_turn_63 (fun v21 e21 h21 => ?_)
          rw [show v21 = v9 from Option.some.inj (e21.symm.trans (e9))]
          refine lv_aload_n hx hb dX10_turn_66 rfl (lv_at hl 1 rfl) ?_
          refine g_581 cx hw ha0 k_f_X10_49 dX10_turn_67 (fun v22 e22 h22 => ?_)
          rw [show v22 = v9 from Option.some.inj (e22.symm.trans (e9))]
          refine g_330 cx hw h9 k_f_X10_154 dX10_turn_70 (fun v23 e23 => ?_)
          rw [show v23 = v18 from e23.trans e18.symm]
          refine lv_iconst (v := 1) hx hb dX10_turn_73 (by decide) ?_
          refine lv_iload_n hx hb dX10_turn_74 rfl (lv_at hl 2 rfl) ?_
          refine lv_ishl hx hb dX10_turn_75 ?_
          refine lv_topi (fun v24 e24 => ?_)
          have i24 : Iv v24 1 32 := iv_shl1 e24 i7 (by decide)
          refine lv_iconst (v := (-1)) hx hb dX10_turn_76 (by decide) ?_
          refine lv_ixor hx hb dX10_turn_77 ?_
          refine lv_topi (fun v25 e25 => ?_)
          refine lv_iand hx hb dX10_turn_78 ?_
          refine lv_topi (fun v26 e26 => ?_)
          refine lv_iload_n hx hb dX10_turn_79 rfl (lv_at hl 3 rfl) ?_
          refine lv_iload_n hx hb dX10_turn_80 rfl (lv_at hl 2 rfl) ?_
          refine lv_ishl hx hb dX10_turn_81 ?_
          refine lv_topi (fun v27 e27 => ?_)
          refine lv_ior hx hb dX10_turn_82 ?_
          refine lv_topi (fun v28 e28 => ?_)
          refine p_330 cx hw h9 k_f_X10_154 dX10_turn_83 (fun σ29 H locs eσ29 hw => ?_)
          have fr := oFr_i fr eσ29 (by decide)
          refine lv_iload_n hx hb dX10_turn_86 rfl (lv_at hl 0 rfl) ?_
          rw [← hQ]
          exact o_ri cx rx hw dX10_turn_87 ⟨fr, (iv_w i20 (by decide))⟩
        refine lv_if_eq (tgt := 50) hx hb dX10_turn_40 (by decide) (fun c30 => ?_) (fun c30 => ?_)
        · --
          have i31 : Iv a2 0 0 := iv_eq1 c30 (iv_top a2) (⟨by decide, by decide⟩ : Iv 0 0 0) (by decide)
          exact J_50 _ _ hw _ (lv_sub hl [0, 1, 2] rfl)
        · --
          refine lv_iload_n hx hb dX10_turn_43 rfl (lv_at hl 2 rfl) ?_
          refine lv_iconst (v := 1) hx hb dX10_turn_44 (by decide) ?_
          refine lv_icmp_eq (tgt := 50) hx hb dX10_turn_45 (by decide) (fun c32 => ?_) (fun c32 => ?_)
          · --
            have i33 : Iv a2 1 1 := iv_eq1 c32 (iv_top a2) (⟨by decide, by decide⟩ : Iv 1 1 1) (by decide)
            exact J_50 _ _ hw _ (lv_sub hl [0, 1, 2] rfl)
          · --
            refine lv_iconst (v := (-1)) hx hb dX10_turn_48 (by decide) ?_
            rw [← hQ]
            exact o_ri cx rx hw dX10_turn_49 ⟨fr, (iv_w (⟨by decide, by decide⟩ : Iv (-1) (-1) (-1)) (by decide))⟩
      · --
        have i34 : Iv v14 1 63 := iv_ne1 c15 p14_1 (⟨by decide, by decide⟩ : Iv 0 0 0) (by decide)
        refine lv_bipush (v := (-2)) hx hb dX10_turn_36 (by decide) ?_
        rw [← hQ]
        exact o_ri cx rx hw dX10_turn_38 ⟨fr, (iv_w (⟨by decide, by decide⟩ : Iv (-2) (-2) (-2)) (by decide))⟩
    · --
      refine lv_iconst (v := (-1)) hx hb dX10_turn_15 (by decide) ?_
      rw [← hQ]
      exact o_ri cx rx hw dX10_turn_16 ⟨fr, (iv_w (⟨by decide, by decide⟩ : Iv (-1) (-1) (-1)) (by decide))⟩
set_option maxHeartbeats 4000000 in
set_option maxRecDepth 100000 in
theorem c_X0_beside (a0 : Int64) : oMet l A L τ cy D K yX0_beside cX0_beside 2 (some .long) 0 0 [.long a0] σ (va_Ql (fun r σ1 => σ1 = σ) (oPo A L τ cy D) A) := by
  refine oMk (by decide) (Nat.le_of_ble_eq_true rfl) rfl ?_
  intro p e s m args below meth c ls cx rx hA hw hl
  generalize hQ : MQ below _ args s 0 0 A = Q
  have hx := cx.1.1
  have hb := cx.1.2.1
  have hml := cx.1.2.2.1
  have hown := cx.1.2.2.2.1
  have hts := cx.1.2.2.2.2
  have hl : lv_has ls 2 [(0, .long a0)] := hl
  refine lv_lload_n hx hb dX0_beside_0 rfl (lv_at hl 0 rfl) ?_
  refine lv_bipush (v := 8) hx hb dX0_beside_1 (by decide) ?_
  refine lv_lushr hx hb dX0_beside_3 rfl ?_
  refine lv_topl (fun v1 e1 => ?_)
  refine lv_lload_n hx hb dX0_beside_4 rfl (lv_at hl 0 rfl) ?_
  refine lv_bipush (v := 8) hx hb dX0_beside_5 (by decide) ?_
  refine lv_lshl hx hb dX0_beside_7 rfl ?_
  refine lv_topl (fun v2 e2 => ?_)
  refine lv_lor hx hb dX0_beside_8 ?_
  refine lv_topl (fun v3 e3 => ?_)
  refine lv_lload_n hx hb dX0_beside_9 rfl (lv_at hl 0 rfl) ?_
  refine lv_ldc2 (v := 9187201950435737471) hx hb hown (hts _ k_k_X0_17) dX0_beside_10 ?_
  refine lv_land hx hb dX0_beside_13 ?_
  refine lv_topl (fun v4 e4 => ?_)
  refine lv_iconst (v := 1) hx hb dX0_beside_14 (by decide) ?_
  refine lv_lshl hx hb dX0_beside_15 rfl ?_
  refine lv_topl (fun v5 e5 => ?_)
  refine lv_lor hx hb dX0_beside_16 ?_
  refine lv_topl (fun v6 e6 => ?_)
  refine lv_lload_n hx hb dX0_beside_17 rfl (lv_at hl 0 rfl) ?_
  refine lv_ldc2 (v := (-72340172838076674)) hx hb hown (hts _ k_k_X0_19) dX0_beside_18 ?_
  refine lv_land hx hb dX0_beside_21 ?_
  refine lv_topl (fun v7 e7 => ?_)
  refine lv_iconst (v := 1) hx hb dX0_beside_22 (by decide) ?_
  refine lv_lushr hx hb dX0_beside_23 rfl ?_
  refine lv_topl (fun v8 e8 => ?_)
  refine lv_lor hx hb dX0_beside_24 ?_
  refine lv_topl (fun v9 e9 => ?_)
  rw [← hQ]
  exact o_rl cx rx hw dX0_beside_25 rfl
abbrev fs_X10_chase : List Nat := [329]
abbrev ts_X10_chase : List Nat := [32, 33]
set_option maxHeartbeats 4000000 in
set_option maxRecDepth 100000 in
theorem c_X10_chase (a0 : Nat) (ha0 : oA L τ a0 9) (a1 : Int32) (a2 : Int32) : oMet l A L τ cy D K yX10_chase cX10_chase 6 (some .int) 2 44 [.ref a0, .int a1, .int a2] σ (va_Qi (fun r σ1 => oFr τ fs_X10_chase ts_X10_chase σ σ1 ∧ Iv r (-2) 63) (oPo A L τ cy D) A) := by
  refine oMk (by decide) (Nat.le_of_ble_eq_true rfl) rfl ?_
  intro p e s m args below meth c ls cx rx hA hw hl
  generalize hQ : MQ below _ args s 0 0 A = Q
  have hx := cx.1.1
  have hb := cx.1.2.1
  have hml := cx.1.2.2.1
  have hown := cx.1.2.2.2.1
  have hts := cx.1.2.2.2.2
  have hl : lv_has ls 6 [(0, .ref a0), (1, .int a1), (2, .int a2)] := hl
  have fr : oFr τ fs_X10_chase ts_X10_chase σ σ := oFr_rf
  refine lv_aload_n hx hb dX10_chase_0 rfl (lv_at hl 0 rfl) ?_
  refine g_581 cx hw ha0 k_f_X10_49 dX10_chase_1 (fun v1 e1 h1 => ?_)
  refine lv_iload_n hx hb dX10_chase_4 rfl (lv_at hl 1 rfl) ?_
  refine o_ci hw (oRunV cx hA hw q_X6_hasHerd k_m_X10_178 rfl h1 (by decide) (As := [.int a1]) (c_X6_hasHerd v1 h1 a1) (by decide) rfl hl.1 rfl (Nat.le_of_ble_eq_true rfl) dX10_chase_5 (by decide)) (fun v3 σ2 H locs hp hw => ?_)
  obtain ⟨p3_0, p3_1, p3_2⟩ := hp
  rw [p3_0] at hw
  refine lv_if_eq (tgt := 22) hx hb dX10_chase_8 (by decide) (fun c4 => ?_) (fun c4 => ?_)
  · --
    have i5 : Iv v3 0 0 := iv_eq1 c4 p3_1 (⟨by decide, by decide⟩ : Iv 0 0 0) (by decide)
    refine lv_iconst (v := (-1)) hx hb dX10_chase_22 (by decide) ?_
    rw [← hQ]
    exact o_ri cx rx hw dX10_chase_23 ⟨fr, (iv_w (⟨by decide, by decide⟩ : Iv (-1) (-1) (-1)) (by decide))⟩
  · --
    have i6 : Iv v3 1 1 := iv_ne1 c4 p3_1 (⟨by decide, by decide⟩ : Iv 0 0 0) (by decide)
    have i7 : Iv a1 0 5 := p3_2 c4
    refine lv_aload_n hx hb dX10_chase_11 rfl (lv_at hl 0 rfl) ?_
    refine g_578 cx hw ha0 k_f_X10_26 dX10_chase_12 (fun v8 e8 h8 => ?_)
    refine lv_iload_n hx hb dX10_chase_15 rfl (lv_at hl 2 rfl) ?_
    refine o_ci hw (oRunV cx hA hw q_X2_isThere k_m_X10_135 rfl h8 (by decide) (As := [.int a2]) (c_X2_isThere v8 h8 a2) (by decide) rfl hl.1 rfl (Nat.le_of_ble_eq_true rfl) dX10_chase_16 (by decide)) (fun v10 σ9 H locs hp hw => ?_)
    obtain ⟨p10_0, p10_1, p10_2⟩ := hp
    rw [p10_0] at hw
    refine lv_if_ne (tgt := 24) hx hb dX10_chase_19 (by decide) (fun c11 => ?_) (fun c11 => ?_)
    · --
      have i12 : Iv v10 1 1 := iv_ne1 c11 p10_1 (⟨by decide, by decide⟩ : Iv 0 0 0) (by decide)
      have i13 : Iv a2 0 63 := p10_2 c11
      refine lv_aload_n hx hb dX10_chase_24 rfl (lv_at hl 0 rfl) ?_
      refine g_581 cx hw ha0 k_f_X10_49 dX10_chase_25 (fun v14 e14 h14 => ?_)
      rw [show v14 = v1 from Option.some.inj (e14.symm.trans (e1))]
      refine g_325 cx hw h1 k_f_X10_183 dX10_chase_28 (fun v15 e15 h15 => ?_)
      refine lv_iload_n hx hb dX10_chase_31 rfl (lv_at hl 1 rfl) ?_
      refine o_iald cx hw h15 (by decide) rfl (iv_in i7 (by decide)) dX10_chase_32 (fun v16 e16 b16 => ?_)
      have i16 : Iv v16 0 63 := b16
      refine lv_istore_n (lv' := [(3, .int v16), (0, .ref a0), (1, .int a1), (2, .int a2)]) hx hb dX10_chase_33 rfl hl (by decide) rfl (fun ls hl => ?_)
      refine lv_iload_n hx hb dX10_chase_34 rfl (lv_at hl 0 rfl) ?_
      refine o_cl hw (oRunS cx hA hw q_X0_bit k_m_X10_312 (As := [.int v16]) (c_X0_bit v16) (by decide) rfl hl.1 rfl (Nat.le_of_ble_eq_true rfl) dX10_chase_35 (by decide)) (fun v18 σ17 H locs hp hw => ?_)
      obtain ⟨p18_0, p18_1⟩ := hp
      rw [p18_0] at hw
      refine o_cl hw (oRunS cx hA hw q_X0_beside k_m_X10_317 (As := [.long v18]) (c_X0_beside v18) (by decide) rfl hl.1 rfl (Nat.le_of_ble_eq_true rfl) dX10_chase_38 (by decide)) (fun v20 σ19 H locs hp hw => ?_)
      have p20_0 := hp
      rw [p20_0] at hw
      refine lv_aload_n hx hb dX10_chase_41 rfl (lv_at hl 1 rfl) ?_
      refine g_578 cx hw ha0 k_f_X10_26 dX10_chase_42 (fun v21 e21 h21 => ?_)
      rw [show v21 = v8 from Option.some.inj (e21.symm.trans (e8))]
      refine lv_aload_n hx hb dX10_chase_45 rfl (lv_at hl 1 rfl) ?_
      refine g_581 cx hw ha0 k_f_X10_49 dX10_chase_46 (fun v22 e22 h22 => ?_)
      rw [show v22 = v1 from Option.some.inj (e22.symm.trans (e1))]
      refine g_330 cx hw h1 k_f_X10_154 dX10_chase_49 (fun v23 e23 => ?_)
      refine o_cl hw (oRunV cx hA hw q_X2_openTo k_m_X10_195 rfl h8 (by decide) (As := [.int v23]) (c_X2_openTo v8 h8 v23) (by decide) rfl hl.1 rfl (Nat.le_of_ble_eq_true rfl) dX10_chase_52 (by decide)) (fun v25 σ24 H locs hp hw => ?_)
      have p25_0 := hp
      rw [p25_0] at hw
      refine lv_land hx hb dX10_chase_55 ?_
      refine lv_topl (fun v26 e26 => ?_)
      refine lv_lstore (lv' := [(4, .long v26), (3, .int v16), (0, .ref a0), (1, .int a1), (2, .int a2)]) hx hb dX10_chase_56 hl (by decide) rfl (fun ls hl => ?_)
      refine lv_lload hx hb dX10_chase_58 (lv_at hl 0 rfl) ?_
      refine lv_iload_n hx hb dX10_chase_60 rfl (lv_at hl 4 rfl) ?_
      refine o_ci hw (oRunS cx hA hw q_X0_has k_m_X10_321 (As := [.long v26, .int a2]) (c_X0_has v26 a2) (by decide) rfl hl.1 rfl (Nat.le_of_ble_eq_true rfl) dX10_chase_61 (by decide)) (fun v28 σ27 H locs hp hw => ?_)
      obtain ⟨p28_0, p28_1, p28_2, p28_3⟩ := hp
      rw [p28_0] at hw
      refine lv_if_ne (tgt := 70) hx hb dX10_chase_64 (by decide) (fun c29 => ?_) (fun c29 => ?_)
      · --
        have i30 : Iv v28 1 1 := iv_ne1 c29 p28_1 (⟨by decide, by decide⟩ : Iv 0 0 0) (by decide)
        have i31 : Iv a2 0 63 := p28_2 c29
        refine lv_aload_n hx hb dX10_chase_70 rfl (lv_at hl 2 rfl) ?_
        refine g_581 cx hw ha0 k_f_X10_49 dX10_chase_71 (fun v32 e32 h32 => ?_)
        rw [show v32 = v1 from Option.some.inj (e32.symm.trans (e1))]
        refine lv_iload_n hx hb dX10_chase_74 rfl (lv_at hl 3 rfl) ?_
        refine lv_iload_n hx hb dX10_chase_75 rfl (lv_at hl 4 rfl) ?_
        refine o_cv hw (oRunV cx hA hw q_X6_tread k_m_X10_325 rfl h1 (by decide) (As := [.int a1, .int a2]) (c_X6_tread v1 h1 a1 (iv_w i7 (by decide)) a2 (iv_w i31 (by decide))) (by decide) rfl hl.1 rfl (Nat.le_of_ble_eq_true rfl) dX10_chase_76 (by decide)) (fun σ33 H locs hp hw => ?_)
        have p34_0 := hp
        have fr := oFr_tr fr p34_0 (by decide)
        refine lv_iload_n hx hb dX10_chase_79 rfl (lv_at hl 1 rfl) ?_
        rw [← hQ]
        exact o_ri cx rx hw dX10_chase_80 ⟨fr, (iv_w i16 (by decide))⟩
      · --
        have i35 : Iv v28 0 0 := iv_eq1 c29 p28_1 (⟨by decide, by decide⟩ : Iv 0 0 0) (by decide)
        refine lv_bipush (v := (-2)) hx hb dX10_chase_67 (by decide) ?_
        rw [← hQ]
        exact o_ri cx rx hw dX10_chase_69 ⟨fr, (iv_w (⟨by decide, by decide⟩ : Iv (-2) (-2) (-2)) (by decide))⟩
    · --
      have i36 : Iv v10 0 0 := iv_eq1 c11 p10_1 (⟨by decide, by decide⟩ : Iv 0 0 0) (by decide)
      refine lv_iconst (v := (-1)) hx hb dX10_chase_22 (by decide) ?_
      rw [← hQ]
      exact o_ri cx rx hw dX10_chase_23 ⟨fr, (iv_w (⟨by decide, by decide⟩ : Iv (-1) (-1) (-1)) (by decide))⟩
abbrev fs_X6_graze : List Nat := []
abbrev ts_X6_graze : List Nat := [32]
set_option maxHeartbeats 4000000 in
set_option maxRecDepth 100000 in
theorem c_X6_graze (a0 : Nat) (ha0 : oA L τ a0 5) (a1 : Int32) (ia1 : Iv a1 0 63) : oMet l A L τ cy D K yX6_graze cX6_graze 2 none 0 0 [.ref a0, .int a1] σ (va_Qv (fun σ1 => oFr τ fs_X6_graze ts_X6_graze σ σ1) (oPo A L τ cy D) A) := by
  refine oMk (by decide) (Nat.le_of_ble_eq_true rfl) rfl ?_
  intro p e s m args below meth c ls cx rx hA hw hl
  generalize hQ : MQ below _ args s 0 0 A = Q
  have hx := cx.1.1
  have hb := cx.1.2.1
  have hml := cx.1.2.2.1
  have hown := cx.1.2.2.2.1
  have hts := cx.1.2.2.2.2
  have hl : lv_has ls 2 [(0, .ref a0), (1, .int a1)] := hl
  have fr : oFr τ fs_X6_graze ts_X6_graze σ σ := oFr_rf
  refine lv_aload_n hx hb dX6_graze_0 rfl (lv_at hl 0 rfl) ?_
  refine g_320 cx hw ha0 k_f_X6_9 dX6_graze_1 (fun v1 e1 h1 => ?_)
  refine lv_iload_n hx hb dX6_graze_4 rfl (lv_at hl 1 rfl) ?_
  refine o_iald cx hw h1 (by decide) rfl (iv_in ia1 (by decide)) dX6_graze_5 (fun v2 e2 b2 => ?_)
  refine lv_if_le (tgt := 22) hx hb dX6_graze_6 (by decide) (fun c3 => ?_) (fun c3 => ?_)
  · --
    have i4 : Iv v2 (-2147483648) 0 := iv_le1 c3 (iv_top v2) (⟨by decide, by decide⟩ : Iv 0 0 0) (by decide)
    refine lv_aload_n hx hb dX6_graze_22 rfl (lv_at hl 0 rfl) ?_
    refine g_321 cx hw ha0 k_f_X6_15 dX6_graze_23 (fun v5 e5 h5 => ?_)
    refine lv_iload_n hx hb dX6_graze_26 rfl (lv_at hl 1 rfl) ?_
    refine o_iald cx hw h5 (by decide) rfl (iv_in ia1 (by decide)) dX6_graze_27 (fun v6 e6 b6 => ?_)
    refine lv_if_le (tgt := 41) hx hb dX6_graze_28 (by decide) (fun c7 => ?_) (fun c7 => ?_)
    · --
      have i8 : Iv v6 (-2147483648) 0 := iv_le1 c7 (iv_top v6) (⟨by decide, by decide⟩ : Iv 0 0 0) (by decide)
      rw [← hQ]
      exact o_rv cx rx hw dX6_graze_41 fr
    · --
      have i9 : Iv v6 1 2147483647 := iv_lt2 (iv_nle c7) (⟨by decide, by decide⟩ : Iv 0 0 0) (iv_top v6) (by decide)
      refine lv_aload_n hx hb dX6_graze_31 rfl (lv_at hl 0 rfl) ?_
      refine g_321 cx hw ha0 k_f_X6_15 dX6_graze_32 (fun v10 e10 h10 => ?_)
      rw [show v10 = v5 from Option.some.inj (e10.symm.trans (e5))]
      refine lv_iload_n hx hb dX6_graze_35 rfl (lv_at hl 1 rfl) ?_
      refine lv_dup2_11 hx hb dX6_graze_36 rfl rfl ?_
      refine o_iald cx hw h5 (by decide) rfl (iv_in ia1 (by decide)) dX6_graze_37 (fun v11 e11 b11 => ?_)
      refine lv_iconst (v := 1) hx hb dX6_graze_38 (by decide) ?_
      refine lv_isub hx hb dX6_graze_39 ?_
      refine lv_topi (fun v12 e12 => ?_)
      refine o_iast cx hw h5 (by decide) rfl (iv_in ia1 (by decide)) trivial dX6_graze_40 (fun σ13 H locs eσ13 hw => ?_)
      have fr := oFr_p fr eσ13 h5 (by decide)
      rw [← hQ]
      exact o_rv cx rx hw dX6_graze_41 fr
  · --
    have i14 : Iv v2 1 2147483647 := iv_lt2 (iv_nle c3) (⟨by decide, by decide⟩ : Iv 0 0 0) (iv_top v2) (by decide)
    refine lv_aload_n hx hb dX6_graze_9 rfl (lv_at hl 0 rfl) ?_
    refine g_320 cx hw ha0 k_f_X6_9 dX6_graze_10 (fun v15 e15 h15 => ?_)
    rw [show v15 = v1 from Option.some.inj (e15.symm.trans (e1))]
    refine lv_iload_n hx hb dX6_graze_13 rfl (lv_at hl 1 rfl) ?_
    refine lv_dup2_11 hx hb dX6_graze_14 rfl rfl ?_
    refine o_iald cx hw h1 (by decide) rfl (iv_in ia1 (by decide)) dX6_graze_15 (fun v16 e16 b16 => ?_)
    refine lv_iconst (v := 1) hx hb dX6_graze_16 (by decide) ?_
    refine lv_isub hx hb dX6_graze_17 ?_
    refine lv_topi (fun v17 e17 => ?_)
    refine o_iast cx hw h1 (by decide) rfl (iv_in ia1 (by decide)) trivial dX6_graze_18 (fun σ18 H locs eσ18 hw => ?_)
    have fr := oFr_p fr eσ18 h1 (by decide)
    refine lv_goto (tgt := 41) hx hb dX6_graze_19 (by decide) ?_
    rw [← hQ]
    exact o_rv cx rx hw dX6_graze_41 fr
set_option maxHeartbeats 4000000 in
set_option maxRecDepth 100000 in
theorem c_X6_herdCells (a0 : Nat) (ha0 : oA L τ a0 5) : oMet l A L τ cy D K yX6_herdCells cX6_herdCells 4 (some .long) 1 20 [.ref a0] σ (va_Ql (fun r σ1 => σ1 = σ) (oPo A L τ cy D) A) := by
  refine oMk (by decide) (Nat.le_of_ble_eq_true rfl) rfl ?_
  intro p e s m args below meth c ls cx rx hA hw hl
  generalize hQ : MQ below _ args s 0 0 A = Q
  have hx := cx.1.1
  have hb := cx.1.2.1
  have hml := cx.1.2.2.1
  have hown := cx.1.2.2.2.1
  have hts := cx.1.2.2.2.2
  have hl : lv_has ls 4 [(0, .ref a0)] := hl
  refine lv_lconst (v := 0) hx hb dX6_herdCells_0 (by decide) ?_
  refine lv_lstore_n (lv' := [(1, .long 0), (0, .ref a0)]) hx hb dX6_herdCells_1 rfl hl (by decide) rfl (fun ls hl => ?_)
  refine lv_iconst (v := 0) hx hb dX6_herdCells_2 (by decide) ?_
  refine lv_istore_n (lv' := [(3, .int 0), (1, .long 0), (0, .ref a0)]) hx hb dX6_herdCells_3 rfl hl (by decide) rfl (fun ls hl => ?_)
  have J_4 : ∀ n4 : Nat, ∀ (j4_1 : Int64) (j4_3 : Int32) (ij4_3 : Iv j4_3 0 6), ∀ (H : Heap) (locs : List Loc), oI A L τ cy D s.heap σ H locs → (6 - j4_3.toInt).toNat < n4 → ∀ (ls : Array Slot), lv_has ls 4 [(0, .ref a0), (1, .long j4_1), (3, .int j4_3)] → W p l e ({ frames := 1, cells := 0, slots := 0, locals := 20 } : Room) s m args below meth c H locs 0 0 Q (F0 m 4 ls []) := by
    intro n4
    induction n4 with
    | zero => intro j4_1 j4_3 ij4_3 H locs hw  hn_4   ls hl; exact absurd hn_4 (Nat.not_lt_zero _)
    | succ n4 ih_4 =>
      intro j4_1 j4_3 ij4_3 H locs hw  hn_4   ls hl
      refine lv_iload_n hx hb dX6_herdCells_4 rfl (lv_at hl 2 rfl) ?_
      refine lv_aload_n hx hb dX6_herdCells_5 rfl (lv_at hl 0 rfl) ?_
      refine g_327 cx hw ha0 k_f_X6_39 dX6_herdCells_6 (fun v1 e1 i1 => ?_)
      refine lv_icmp_ge (tgt := 30) hx hb dX6_herdCells_9 (by decide) (fun c2 => ?_) (fun c2 => ?_)
      · --
        refine lv_lload_n hx hb dX6_herdCells_30 rfl (lv_at hl 1 rfl) ?_
        rw [← hQ]
        exact o_rl cx rx hw dX6_herdCells_31 rfl
      · --
        have i3 : Iv j4_3 0 5 := iv_lt1 (iv_nle c2) ij4_3 i1 (by decide)
        have i4 : Iv v1 1 6 := iv_lt2 (iv_nle c2) ij4_3 i1 (by decide)
        refine lv_lload_n hx hb dX6_herdCells_12 rfl (lv_at hl 1 rfl) ?_
        refine lv_aload_n hx hb dX6_herdCells_13 rfl (lv_at hl 0 rfl) ?_
        refine g_325 cx hw ha0 k_f_X6_27 dX6_herdCells_14 (fun v5 e5 h5 => ?_)
        refine lv_iload_n hx hb dX6_herdCells_17 rfl (lv_at hl 2 rfl) ?_
        refine o_iald cx hw h5 (by decide) rfl (iv_in i3 (by decide)) dX6_herdCells_18 (fun v6 e6 b6 => ?_)
        have i6 : Iv v6 0 63 := b6
        refine o_cl hw (oRunS cx hA hw q_X0_bit k_m_X6_69 (As := [.int v6]) (c_X0_bit v6) (by decide) rfl hl.1 rfl (Nat.le_of_ble_eq_true rfl) dX6_herdCells_19 (by decide)) (fun v8 σ7 H locs hp hw => ?_)
        obtain ⟨p8_0, p8_1⟩ := hp
        rw [p8_0] at hw
        refine lv_lor hx hb dX6_herdCells_22 ?_
        refine lv_topl (fun v9 e9 => ?_)
        refine lv_lstore_n (lv' := [(1, .long v9), (0, .ref a0), (3, .int j4_3)]) hx hb dX6_herdCells_23 rfl hl (by decide) rfl (fun ls hl => ?_)
        obtain ⟨v10, e10⟩ : ∃ y : Int32, y = j4_3 + 1 := ⟨_, rfl⟩
        have i10 : Iv v10 1 6 := iv_add e10 i3 (⟨by decide, by decide⟩ : Iv 1 1 1) (by decide)
        have x10 : v10.toInt = j4_3.toInt + 1 := ex_add e10 i3 (⟨by decide, by decide⟩ : Iv 1 1 1) (by decide)
        refine lv_iinc (v := v10) (lv' := [(3, .int v10), (1, .long v9), (0, .ref a0)]) hx hb dX6_herdCells_24 hl (k := 2) rfl (by rw [e10]; rfl) (by decide) rfl (fun ls hl => ?_)
        refine lv_goto (tgt := 4) hx hb dX6_herdCells_27 (by decide) ?_
        exact ih_4 v9 v10 (iv_w i10 (by decide)) _ _ hw (ms_up x10 (by decide) (iv_w (a' := 0) (b' := 6) i10 (by decide)).2 hn_4) _ (lv_sub hl [2, 1, 0] rfl)
  exact J_4 _ 0 0 (iv_w (⟨by decide, by decide⟩ : Iv 0 0 0) (by decide)) _ _ hw (Nat.lt_succ_self _) _ (lv_sub hl [2, 1, 0] rfl)
abbrev fs_X9_grow : List Nat := []
abbrev ts_X9_grow : List Nat := [32]
set_option maxHeartbeats 4000000 in
set_option maxRecDepth 100000 in
theorem c_X9_grow (a0 : Nat) (ha0 : oA L τ a0 8) (a1 : Nat) (ha1 : oA L τ a1 5) : oMet l A L τ cy D K yX9_grow cX9_grow 5 none 2 43 [.ref a0, .ref a1] σ (va_Qv (fun σ1 => oFr τ fs_X9_grow ts_X9_grow σ σ1) (oPo A L τ cy D) A) := by
  refine oMk (by decide) (Nat.le_of_ble_eq_true rfl) rfl ?_
  intro p e s m args below meth c ls cx rx hA hw hl
  generalize hQ : MQ below _ args s 0 0 A = Q
  have hx := cx.1.1
  have hb := cx.1.2.1
  have hml := cx.1.2.2.1
  have hown := cx.1.2.2.2.1
  have hts := cx.1.2.2.2.2
  have hl : lv_has ls 5 [(0, .ref a0), (1, .ref a1)] := hl
  have fr : oFr τ fs_X9_grow ts_X9_grow σ σ := oFr_rf
  refine lv_aload_n hx hb dX9_grow_0 rfl (lv_at hl 1 rfl) ?_
  refine o_cl hw (oRunV cx hA hw q_X6_herdCells k_m_X9_132 rfl ha1 (by decide) (As := []) (c_X6_herdCells a1 ha1) (by decide) rfl hl.1 rfl (Nat.le_of_ble_eq_true rfl) dX9_grow_1 (by decide)) (fun v2 σ1 H locs hp hw => ?_)
  have p2_0 := hp
  rw [p2_0] at hw
  refine lv_lstore_n (lv' := [(2, .long v2), (0, .ref a0), (1, .ref a1)]) hx hb dX9_grow_4 rfl hl (by decide) rfl (fun ls hl => ?_)
  refine lv_iconst (v := 0) hx hb dX9_grow_5 (by decide) ?_
  refine lv_istore (lv' := [(4, .int 0), (2, .long v2), (0, .ref a0), (1, .ref a1)]) hx hb dX9_grow_6 hl (by decide) rfl (fun ls hl => ?_)
  have frE_8 := fr
  have J_8 : ∀ n8 : Nat, ∀ (j8_4 : Int32) (ij8_4 : Iv j8_4 0 64), ∀ (σ_8 : oSt) (H : Heap) (locs : List Loc), oI A L τ cy D s.heap σ_8 H locs → oFr τ fs_X9_grow ts_X9_grow σ σ_8 → (64 - j8_4.toInt).toNat < n8 → ∀ (ls : Array Slot), lv_has ls 5 [(0, .ref a0), (1, .ref a1), (2, .long v2), (4, .int j8_4)] → W p l e ({ frames := 2, cells := 0, slots := 0, locals := 43 } : Room) s m args below meth c H locs 0 0 Q (F0 m 8 ls []) := by
    intro n8
    induction n8 with
    | zero => intro j8_4 ij8_4 σ_8 H locs hw fr   hn_8   ls hl; exact absurd hn_8 (Nat.not_lt_zero _)
    | succ n8 ih_8 =>
      intro j8_4 ij8_4 σ_8 H locs hw fr   hn_8   ls hl
      have fr_8 := fr
      refine lv_iload hx hb dX9_grow_8 (lv_at hl 3 rfl) ?_
      refine lv_bipush (v := 64) hx hb dX9_grow_10 (by decide) ?_
      refine lv_icmp_ge (tgt := 63) hx hb dX9_grow_12 (by decide) (fun c3 => ?_) (fun c3 => ?_)
      · --
        have i4 : Iv j8_4 64 64 := iv_le2 c3 (⟨by decide, by decide⟩ : Iv 64 64 64) ij8_4 (by decide)
        rw [← hQ]
        exact o_rv cx rx hw dX9_grow_63 fr
      · --
        have i5 : Iv j8_4 0 63 := iv_lt1 (iv_nle c3) ij8_4 (⟨by decide, by decide⟩ : Iv 64 64 64) (by decide)
        refine lv_aload_n hx hb dX9_grow_15 rfl (lv_at hl 0 rfl) ?_
        refine g_512 cx hw ha0 k_f_X9_24 dX9_grow_16 (fun v6 e6 h6 => ?_)
        refine lv_iload hx hb dX9_grow_19 (lv_at hl 3 rfl) ?_
        refine o_ci hw (oRunV cx hA hw q_X2_isPlain k_m_X9_136 rfl h6 (by decide) (As := [.int j8_4]) (c_X2_isPlain v6 h6 j8_4) (by decide) rfl hl.1 rfl (Nat.le_of_ble_eq_true rfl) dX9_grow_21 (by decide)) (fun v8 σ7 H locs hp hw => ?_)
        obtain ⟨p8_0, p8_1, p8_2, p8_3⟩ := hp
        rw [p8_0] at hw
        have frE_57 := fr
        have J_57 : ∀ (σ_57 : oSt) (H : Heap) (locs : List Loc), oI A L τ cy D s.heap σ_57 H locs → oFr τ fs_X9_grow ts_X9_grow σ σ_57 → ∀ (ls : Array Slot), lv_has ls 5 [(0, .ref a0), (1, .ref a1), (2, .long v2), (4, .int j8_4)] → W p l e ({ frames := 2, cells := 0, slots := 0, locals := 43 } : Room) s m args below meth c H locs 0 0 Q (F0 m 57 ls []) := by
          intro  σ_57 H locs hw fr      ls hl
          have fr_57 := fr
          obtain ⟨v9, e9⟩ : ∃ y : Int32, y = j8_4 + 1 := ⟨_, rfl⟩
          have i9 : Iv v9 1 64 := iv_add e9 i5 (⟨by decide, by decide⟩ : Iv 1 1 1) (by decide)
          have x9 : v9.toInt = j8_4.toInt + 1 := ex_add e9 i5 (⟨by decide, by decide⟩ : Iv 1 1 1) (by decide)
          refine lv_iinc (v := v9) (lv' := [(4, .int v9), (0, .ref a0), (1, .ref a1), (2, .long v2)]) hx hb dX9_grow_57 hl (k := 3) rfl (by rw [e9]; rfl) (by decide) rfl (fun ls hl => ?_)
          refine lv_goto (tgt := 8) hx hb dX9_grow_60 (by decide) ?_
          exact ih_8 v9 (iv_w i9 (by decide)) σ_57 _ _ hw fr (ms_up x9 (by decide) (iv_w (a' := 0) (b' := 64) i9 (by decide)).2 hn_8) _ (lv_sub hl [1, 2, 3, 0] rfl)
        refine lv_if_eq (tgt := 57) hx hb dX9_grow_24 (by decide) (fun c10 => ?_) (fun c10 => ?_)
        · --
          have i11 : Iv v8 0 0 := iv_eq1 c10 p8_1 (⟨by decide, by decide⟩ : Iv 0 0 0) (by decide)
          exact J_57 σ_8 _ _ hw fr _ (lv_sub hl [0, 1, 2, 3] rfl)
        · --
          have i12 : Iv v8 1 1 := iv_ne1 c10 p8_1 (⟨by decide, by decide⟩ : Iv 0 0 0) (by decide)
          have i13 : Iv j8_4 0 63 := p8_2 c10
          refine lv_lload_n hx hb dX9_grow_27 rfl (lv_at hl 2 rfl) ?_
          refine lv_iload hx hb dX9_grow_28 (lv_at hl 3 rfl) ?_
          refine o_ci hw (oRunS cx hA hw q_X0_has k_m_X9_96 (As := [.long v2, .int j8_4]) (c_X0_has v2 j8_4) (by decide) rfl hl.1 rfl (Nat.le_of_ble_eq_true rfl) dX9_grow_30 (by decide)) (fun v15 σ14 H locs hp hw => ?_)
          obtain ⟨p15_0, p15_1, p15_2, p15_3⟩ := hp
          rw [p15_0] at hw
          refine lv_if_ne (tgt := 57) hx hb dX9_grow_33 (by decide) (fun c16 => ?_) (fun c16 => ?_)
          · --
            have i17 : Iv v15 1 1 := iv_ne1 c16 p15_1 (⟨by decide, by decide⟩ : Iv 0 0 0) (by decide)
            have i18 : Iv j8_4 0 63 := p15_2 c16
            exact J_57 σ_8 _ _ hw fr _ (lv_sub hl [0, 1, 2, 3] rfl)
          · --
            have i19 : Iv v15 0 0 := iv_eq1 c16 p15_1 (⟨by decide, by decide⟩ : Iv 0 0 0) (by decide)
            refine lv_aload_n hx hb dX9_grow_36 rfl (lv_at hl 1 rfl) ?_
            refine g_320 cx hw ha1 k_f_X9_103 dX9_grow_37 (fun v20 e20 h20 => ?_)
            refine lv_iload hx hb dX9_grow_40 (lv_at hl 3 rfl) ?_
            refine lv_bipush (v := 9) hx hb dX9_grow_42 (by decide) ?_
            refine lv_aload_n hx hb dX9_grow_44 rfl (lv_at hl 1 rfl) ?_
            refine g_320 cx hw ha1 k_f_X9_103 dX9_grow_45 (fun v21 e21 h21 => ?_)
            rw [show v21 = v20 from Option.some.inj (e21.symm.trans (e20))]
            refine lv_iload hx hb dX9_grow_48 (lv_at hl 3 rfl) ?_
            refine o_iald cx hw h20 (by decide) rfl (iv_in i13 (by decide)) dX9_grow_50 (fun v22 e22 b22 => ?_)
            refine lv_iconst (v := 1) hx hb dX9_grow_51 (by decide) ?_
            refine lv_iadd hx hb dX9_grow_52 ?_
            refine lv_topi (fun v23 e23 => ?_)
            refine va_mmin hx hb (hml.trans hl.1.symm) hown (hts _ k_m_X9_140) (hts _ k_s_J9_min_7cf53) (hts _ k_i_J9) (hts _ k_code_J9_min_7cf53) (by decide) (Nat.le_of_ble_eq_true rfl) (by decide) (by decide) dX9_grow_53 ?_
            refine lv_topi (fun v24 e24 => ?_)
            have i24 : Iv v24 (-2147483648) 9 := iv_min e24 (⟨by decide, by decide⟩ : Iv 9 9 9) (iv_top v23) (by decide)
            refine o_iast cx hw h20 (by decide) rfl (iv_in i13 (by decide)) trivial dX9_grow_56 (fun σ25 H locs eσ25 hw => ?_)
            have fr := oFr_p fr eσ25 h20 (by decide)
            exact J_57 σ25 _ _ hw fr _ (lv_sub hl [0, 1, 2, 3] rfl)
  exact J_8 _ 0 (iv_w (⟨by decide, by decide⟩ : Iv 0 0 0) (by decide)) σ _ _ hw fr (Nat.lt_succ_self _) _ (lv_sub hl [2, 3, 1, 0] rfl)
abbrev fs_X9_pass : List Nat := [329, 331, 517]
abbrev ts_X9_pass : List Nat := [32, 33, 37, 38]
set_option maxHeartbeats 4000000 in
set_option maxRecDepth 100000 in
theorem c_X9_pass (a0 : Nat) (ha0 : oA L τ a0 8) (a1 : Nat) (ha1 : oA L τ a1 5) : oMet l A L τ cy D K yX9_pass cX9_pass 8 (some .int) 3 79 [.ref a0, .ref a1] σ (va_Qi (fun r σ1 => oFr τ fs_X9_pass ts_X9_pass σ σ1) (oPo A L τ cy D) A) := by
  refine oMk (by decide) (Nat.le_of_ble_eq_true rfl) rfl ?_
  intro p e s m args below meth c ls cx rx hA hw hl
  generalize hQ : MQ below _ args s 0 0 A = Q
  have hx := cx.1.1
  have hb := cx.1.2.1
  have hml := cx.1.2.2.1
  have hown := cx.1.2.2.2.1
  have hts := cx.1.2.2.2.2
  have hl : lv_has ls 8 [(0, .ref a0), (1, .ref a1)] := hl
  have fr : oFr τ fs_X9_pass ts_X9_pass σ σ := oFr_rf
  refine lv_aload_n hx hb dX9_pass_0 rfl (lv_at hl 0 rfl) ?_
  refine g_512 cx hw ha0 k_f_X9_24 dX9_pass_1 (fun v1 e1 h1 => ?_)
  refine lv_aload_n hx hb dX9_pass_4 rfl (lv_at hl 1 rfl) ?_
  refine g_330 cx hw ha1 k_f_X9_40 dX9_pass_5 (fun v2 e2 => ?_)
  refine o_cl hw (oRunV cx hA hw q_X2_openTo k_m_X9_45 rfl h1 (by decide) (As := [.int v2]) (c_X2_openTo v1 h1 v2) (by decide) rfl hl.1 rfl (Nat.le_of_ble_eq_true rfl) dX9_pass_8 (by decide)) (fun v4 σ3 H locs hp hw => ?_)
  have p4_0 := hp
  rw [p4_0] at hw
  refine lv_lstore_n (lv' := [(2, .long v4), (0, .ref a0), (1, .ref a1)]) hx hb dX9_pass_11 rfl hl (by decide) rfl (fun ls hl => ?_)
  refine lv_iconst (v := 0) hx hb dX9_pass_12 (by decide) ?_
  refine lv_istore (lv' := [(4, .int 0), (2, .long v4), (0, .ref a0), (1, .ref a1)]) hx hb dX9_pass_13 hl (by decide) rfl (fun ls hl => ?_)
  refine lv_aload_n hx hb dX9_pass_15 rfl (lv_at hl 3 rfl) ?_
  refine lv_dup hx hb dX9_pass_16 rfl ?_
  refine g_331 cx hw ha1 k_f_X9_51 dX9_pass_17 (fun v5 e5 => ?_)
  refine lv_iconst (v := 1) hx hb dX9_pass_20 (by decide) ?_
  refine lv_iadd hx hb dX9_pass_21 ?_
  refine lv_topi (fun v6 e6 => ?_)
  refine p_331 cx hw ha1 k_f_X9_51 dX9_pass_22 (fun σ7 H locs eσ7 hw => ?_)
  have fr := oFr_i fr eσ7 (by decide)
  refine lv_iconst (v := 0) hx hb dX9_pass_25 (by decide) ?_
  refine lv_istore (lv' := [(5, .int 0), (4, .int 0), (2, .long v4), (0, .ref a0), (1, .ref a1)]) hx hb dX9_pass_26 hl (by decide) rfl (fun ls hl => ?_)
  have frE_28 := fr
  have J_28 : ∀ n28 : Nat, ∀ (j28_4 : Int32) (j28_5 : Int32) (ij28_5 : Iv j28_5 0 6), ∀ (σ_28 : oSt) (H : Heap) (locs : List Loc), oI A L τ cy D s.heap σ_28 H locs → oFr τ fs_X9_pass ts_X9_pass σ σ_28 → (6 - j28_5.toInt).toNat < n28 → ∀ (ls : Array Slot), lv_has ls 8 [(0, .ref a0), (1, .ref a1), (2, .long v4), (4, .int j28_4), (5, .int j28_5)] → W p l e ({ frames := 3, cells := 0, slots := 0, locals := 79 } : Room) s m args below meth c H locs 0 0 Q (F0 m 28 ls []) := by
    intro n28
    induction n28 with
    | zero => intro j28_4 j28_5 ij28_5 σ_28 H locs hw fr   hn_28   ls hl; exact absurd hn_28 (Nat.not_lt_zero _)
    | succ n28 ih_28 =>
      intro j28_4 j28_5 ij28_5 σ_28 H locs hw fr   hn_28   ls hl
      have fr_28 := fr
      refine lv_iload hx hb dX9_pass_28 (lv_at hl 4 rfl) ?_
      refine lv_aload_n hx hb dX9_pass_30 rfl (lv_at hl 1 rfl) ?_
      refine g_327 cx hw ha1 k_f_X9_54 dX9_pass_31 (fun v8 e8 i8 => ?_)
      refine lv_icmp_ge (tgt := 102) hx hb dX9_pass_34 (by decide) (fun c9 => ?_) (fun c9 => ?_)
      · --
        refine lv_aload_n hx hb dX9_pass_102 rfl (lv_at hl 0 rfl) ?_
        refine g_515 cx hw ha0 k_f_X9_15 dX9_pass_103 (fun v10 e10 => ?_)
        refine lv_if_le (tgt := 126) hx hb dX9_pass_106 (by decide) (fun c11 => ?_) (fun c11 => ?_)
        · --
          have i12 : Iv v10 (-2147483648) 0 := iv_le1 c11 (iv_top v10) (⟨by decide, by decide⟩ : Iv 0 0 0) (by decide)
          refine lv_iload hx hb dX9_pass_126 (lv_at hl 3 rfl) ?_
          rw [← hQ]
          exact o_ri cx rx hw dX9_pass_128 fr
        · --
          have i13 : Iv v10 1 2147483647 := iv_lt2 (iv_nle c11) (⟨by decide, by decide⟩ : Iv 0 0 0) (iv_top v10) (by decide)
          refine lv_aload_n hx hb dX9_pass_109 rfl (lv_at hl 1 rfl) ?_
          refine g_331 cx hw ha1 k_f_X9_51 dX9_pass_110 (fun v14 e14 => ?_)
          refine lv_aload_n hx hb dX9_pass_113 rfl (lv_at hl 0 rfl) ?_
          refine g_515 cx hw ha0 k_f_X9_15 dX9_pass_114 (fun v15 e15 => ?_)
          rw [show v15 = v10 from e15.trans e10.symm]
          refine lv_irem hx hb dX9_pass_117 (iv_nz i13 (by decide)) ?_
          refine lv_topi (fun v16 e16 => ?_)
          have i16 : Iv v16 (-2147483646) 2147483646 := iv_remA e16 i13 (by decide)
          refine lv_if_ne (tgt := 126) hx hb dX9_pass_118 (by decide) (fun c17 => ?_) (fun c17 => ?_)
          · --
            refine lv_iload hx hb dX9_pass_126 (lv_at hl 3 rfl) ?_
            rw [← hQ]
            exact o_ri cx rx hw dX9_pass_128 fr
          · --
            have i18 : Iv v16 0 0 := iv_eq1 c17 i16 (⟨by decide, by decide⟩ : Iv 0 0 0) (by decide)
            refine lv_aload_n hx hb dX9_pass_121 rfl (lv_at hl 0 rfl) ?_
            refine lv_aload_n hx hb dX9_pass_122 rfl (lv_at hl 1 rfl) ?_
            refine o_cv hw (oRunV cx hA hw q_X9_grow k_m_X9_75 rfl ha0 (by decide) (As := [.ref a1]) (c_X9_grow a0 ha0 a1 ha1) (by decide) rfl hl.1 rfl (Nat.le_of_ble_eq_true rfl) dX9_pass_123 (by decide)) (fun σ19 H locs hp hw => ?_)
            have p20_0 := hp
            have fr := oFr_tr fr p20_0 (by decide)
            refine lv_iload hx hb dX9_pass_126 (lv_at hl 3 rfl) ?_
            rw [← hQ]
            exact o_ri cx rx hw dX9_pass_128 fr
      · --
        have i21 : Iv j28_5 0 5 := iv_lt1 (iv_nle c9) ij28_5 i8 (by decide)
        have i22 : Iv v8 1 6 := iv_lt2 (iv_nle c9) ij28_5 i8 (by decide)
        refine lv_aload_n hx hb dX9_pass_37 rfl (lv_at hl 1 rfl) ?_
        refine g_325 cx hw ha1 k_f_X9_57 dX9_pass_38 (fun v23 e23 h23 => ?_)
        refine lv_iload hx hb dX9_pass_41 (lv_at hl 4 rfl) ?_
        refine o_iald cx hw h23 (by decide) rfl (iv_in i21 (by decide)) dX9_pass_43 (fun v24 e24 b24 => ?_)
        have i24 : Iv v24 0 63 := b24
        refine lv_istore (lv' := [(6, .int v24), (0, .ref a0), (1, .ref a1), (2, .long v4), (4, .int j28_4), (5, .int j28_5)]) hx hb dX9_pass_44 hl (by decide) rfl (fun ls hl => ?_)
        refine lv_aload_n hx hb dX9_pass_46 rfl (lv_at hl 1 rfl) ?_
        refine lv_aload_n hx hb dX9_pass_47 rfl (lv_at hl 2 rfl) ?_
        refine lv_iload hx hb dX9_pass_48 (lv_at hl 5 rfl) ?_
        refine lv_lload_n hx hb dX9_pass_50 rfl (lv_at hl 3 rfl) ?_
        refine o_ci hw (oRunV cx hA hw q_X9_choose k_m_X9_60 rfl ha0 (by decide) (As := [.ref a1, .int j28_5, .long v4]) (c_X9_choose a0 ha0 a1 ha1 j28_5 (iv_w i21 (by decide)) v4) (by decide) rfl hl.1 rfl (Nat.le_of_ble_eq_true rfl) dX9_pass_51 (by decide)) (fun v26 σ25 H locs hp hw => ?_)
        obtain ⟨p26_0, p26_1⟩ := hp
        have fr := oFr_tr fr p26_0 (by decide)
        refine lv_istore (lv' := [(7, .int v26), (6, .int v24), (0, .ref a0), (1, .ref a1), (2, .long v4), (4, .int j28_4), (5, .int j28_5)]) hx hb dX9_pass_54 hl (by decide) rfl (fun ls hl => ?_)
        refine lv_aload_n hx hb dX9_pass_56 rfl (lv_at hl 3 rfl) ?_
        refine lv_iload hx hb dX9_pass_57 (lv_at hl 6 rfl) ?_
        refine lv_iload hx hb dX9_pass_59 (lv_at hl 0 rfl) ?_
        refine o_cv hw (oRunV cx hA hw q_X6_tread k_m_X9_64 rfl ha1 (by decide) (As := [.int j28_5, .int v26]) (c_X6_tread a1 ha1 j28_5 (iv_w i21 (by decide)) v26 (iv_w p26_1 (by decide))) (by decide) rfl hl.1 rfl (Nat.le_of_ble_eq_true rfl) dX9_pass_61 (by decide)) (fun σ27 H locs hp hw => ?_)
        have p28_0 := hp
        have fr := oFr_tr fr p28_0 (by decide)
        refine lv_aload_n hx hb dX9_pass_64 rfl (lv_at hl 3 rfl) ?_
        refine lv_iload hx hb dX9_pass_65 (lv_at hl 0 rfl) ?_
        refine o_cv hw (oRunV cx hA hw q_X6_graze k_m_X9_68 rfl ha1 (by decide) (As := [.int v26]) (c_X6_graze a1 ha1 v26 (iv_w p26_1 (by decide))) (by decide) rfl hl.1 rfl (Nat.le_of_ble_eq_true rfl) dX9_pass_67 (by decide)) (fun σ29 H locs hp hw => ?_)
        have p30_0 := hp
        have fr := oFr_tr fr p30_0 (by decide)
        refine lv_iload hx hb dX9_pass_70 (lv_at hl 0 rfl) ?_
        refine lv_iload hx hb dX9_pass_72 (lv_at hl 1 rfl) ?_
        have frE_96 := fr
        have J_96 : ∀ (j96_4 : Int32), ∀ (σ_96 : oSt) (H : Heap) (locs : List Loc), oI A L τ cy D s.heap σ_96 H locs → oFr τ fs_X9_pass ts_X9_pass σ σ_96 → ∀ (ls : Array Slot), lv_has ls 8 [(0, .ref a0), (1, .ref a1), (2, .long v4), (4, .int j96_4), (5, .int j28_5), (6, .int v24), (7, .int v26)] → W p l e ({ frames := 3, cells := 0, slots := 0, locals := 79 } : Room) s m args below meth c H locs 0 0 Q (F0 m 96 ls []) := by
          intro j96_4 σ_96 H locs hw fr      ls hl
          have fr_96 := fr
          obtain ⟨v31, e31⟩ : ∃ y : Int32, y = j28_5 + 1 := ⟨_, rfl⟩
          have i31 : Iv v31 1 6 := iv_add e31 i21 (⟨by decide, by decide⟩ : Iv 1 1 1) (by decide)
          have x31 : v31.toInt = j28_5.toInt + 1 := ex_add e31 i21 (⟨by decide, by decide⟩ : Iv 1 1 1) (by decide)
          refine lv_iinc (v := v31) (lv' := [(5, .int v31), (0, .ref a0), (1, .ref a1), (2, .long v4), (4, .int j96_4), (6, .int v24), (7, .int v26)]) hx hb dX9_pass_96 hl (k := 4) rfl (by rw [e31]; rfl) (by decide) rfl (fun ls hl => ?_)
          refine lv_goto (tgt := 28) hx hb dX9_pass_99 (by decide) ?_
          exact ih_28 j96_4 v31 (iv_w i31 (by decide)) σ_96 _ _ hw fr (ms_up x31 (by decide) (iv_w (a' := 0) (b' := 6) i31 (by decide)).2 hn_28) _ (lv_sub hl [1, 2, 3, 4, 0] rfl)
        refine lv_icmp_ne (tgt := 93) hx hb dX9_pass_74 (by decide) (fun c32 => ?_) (fun c32 => ?_)
        · --
          obtain ⟨v33, e33⟩ : ∃ y : Int32, y = j28_4 + 1 := ⟨_, rfl⟩
          refine lv_iinc (v := v33) (lv' := [(4, .int v33), (7, .int v26), (6, .int v24), (0, .ref a0), (1, .ref a1), (2, .long v4), (5, .int j28_5)]) hx hb dX9_pass_93 hl (k := 5) rfl (by rw [e33]; rfl) (by decide) rfl (fun ls hl => ?_)
          exact J_96 v33 σ29 _ _ hw fr _ (lv_sub hl [3, 4, 5, 0, 6, 2, 1] rfl)
        · --
          refine lv_aload_n hx hb dX9_pass_77 rfl (lv_at hl 3 rfl) ?_
          refine lv_dup hx hb dX9_pass_78 rfl ?_
          refine g_329 cx hw ha1 k_f_X9_72 dX9_pass_79 (fun v34 e34 => ?_)
          refine lv_iconst (v := 1) hx hb dX9_pass_82 (by decide) ?_
          refine lv_iload hx hb dX9_pass_83 (lv_at hl 6 rfl) ?_
          refine lv_ishl hx hb dX9_pass_85 ?_
          refine lv_topi (fun v35 e35 => ?_)
          have i35 : Iv v35 1 32 := iv_shl1 e35 i21 (by decide)
          refine lv_ior hx hb dX9_pass_86 ?_
          refine lv_topi (fun v36 e36 => ?_)
          refine p_329 cx hw ha1 k_f_X9_72 dX9_pass_87 (fun σ37 H locs eσ37 hw => ?_)
          have fr := oFr_i fr eσ37 (by decide)
          refine lv_goto (tgt := 96) hx hb dX9_pass_90 (by decide) ?_
          exact J_96 j28_4 σ37 _ _ hw fr _ (lv_sub hl [2, 3, 4, 5, 6, 1, 0] rfl)
  exact J_28 _ 0 0 (iv_w (⟨by decide, by decide⟩ : Iv 0 0 0) (by decide)) σ7 _ _ hw fr (Nat.lt_succ_self _) _ (lv_sub hl [3, 4, 2, 1, 0] rfl)
abbrev fs_X4_start : List Nat := [193]
abbrev ts_X4_start : List Nat := []
set_option maxHeartbeats 4000000 in
set_option maxRecDepth 100000 in
theorem c_X4_start (a0 : Nat) (ha0 : oA L τ a0 3) : oMet l A L τ cy D K yX4_start cX4_start 1 none 0 0 [.ref a0] σ (va_Qv (fun σ1 => oFr τ fs_X4_start ts_X4_start σ σ1) (oPo A L τ cy D) A) := by
  refine oMk (by decide) (Nat.le_of_ble_eq_true rfl) rfl ?_
  intro p e s m args below meth c ls cx rx hA hw hl
  generalize hQ : MQ below _ args s 0 0 A = Q
  have hx := cx.1.1
  have hb := cx.1.2.1
  have hml := cx.1.2.2.1
  have hown := cx.1.2.2.2.1
  have hts := cx.1.2.2.2.2
  have hl : lv_has ls 1 [(0, .ref a0)] := hl
  have fr : oFr τ fs_X4_start ts_X4_start σ σ := oFr_rf
  refine lv_aload_n hx hb dX4_start_0 rfl (lv_at hl 0 rfl) ?_
  refine lv_iconst (v := 0) hx hb dX4_start_1 (by decide) ?_
  refine p_193 cx hw ha0 (iv_w (⟨by decide, by decide⟩ : Iv 0 0 0) (by decide)) k_f_X4_13 dX4_start_2 (fun σ1 H locs eσ1 hw => ?_)
  have fr := oFr_i fr eσ1 (by decide)
  rw [← hQ]
  exact o_rv cx rx hw dX4_start_5 fr
abbrev fs_X4_put : List Nat := [193]
abbrev ts_X4_put : List Nat := [36]
set_option maxHeartbeats 4000000 in
set_option maxRecDepth 100000 in
theorem c_X4_put (a0 : Nat) (ha0 : oA L τ a0 3) (a1 : Int64) : oMet l A L τ cy D K yX4_put cX4_put 3 none 0 0 [.ref a0, .long a1] σ (va_Qv (fun σ1 => oFr τ fs_X4_put ts_X4_put σ σ1) (oPo A L τ cy D) A) := by
  refine oMk (by decide) (Nat.le_of_ble_eq_true rfl) rfl ?_
  intro p e s m args below meth c ls cx rx hA hw hl
  generalize hQ : MQ below _ args s 0 0 A = Q
  have hx := cx.1.1
  have hb := cx.1.2.1
  have hml := cx.1.2.2.1
  have hown := cx.1.2.2.2.1
  have hts := cx.1.2.2.2.2
  have hl : lv_has ls 3 [(0, .ref a0), (1, .long a1)] := hl
  have fr : oFr τ fs_X4_put ts_X4_put σ σ := oFr_rf
  refine lv_aload_n hx hb dX4_put_0 rfl (lv_at hl 0 rfl) ?_
  refine g_193 cx hw ha0 k_f_X4_13 dX4_put_1 (fun v1 e1 i1 => ?_)
  refine lv_bipush (v := 14) hx hb dX4_put_4 (by decide) ?_
  refine lv_icmp_ge (tgt := 29) hx hb dX4_put_6 (by decide) (fun c2 => ?_) (fun c2 => ?_)
  · --
    have i3 : Iv v1 14 14 := iv_le2 c2 (⟨by decide, by decide⟩ : Iv 14 14 14) i1 (by decide)
    rw [← hQ]
    exact o_rv cx rx hw dX4_put_29 fr
  · --
    have i4 : Iv v1 0 13 := iv_lt1 (iv_nle c2) i1 (⟨by decide, by decide⟩ : Iv 14 14 14) (by decide)
    refine lv_aload_n hx hb dX4_put_9 rfl (lv_at hl 0 rfl) ?_
    refine g_192 cx hw ha0 k_f_X4_9 dX4_put_10 (fun v5 e5 h5 => ?_)
    refine lv_aload_n hx hb dX4_put_13 rfl (lv_at hl 0 rfl) ?_
    refine g_193 cx hw ha0 k_f_X4_13 dX4_put_14 (fun v6 e6 i6 => ?_)
    rw [show v6 = v1 from e6.trans e1.symm]
    refine lv_lload_n hx hb dX4_put_17 rfl (lv_at hl 1 rfl) ?_
    refine o_last cx hw h5 (by decide) rfl (iv_in i4 (by decide)) dX4_put_18 (fun σ7 H locs eσ7 hw => ?_)
    have fr := oFr_q fr eσ7 h5 (by decide)
    refine lv_aload_n hx hb dX4_put_19 rfl (lv_at hl 0 rfl) ?_
    refine lv_dup hx hb dX4_put_20 rfl ?_
    refine g_193 cx hw ha0 k_f_X4_13 dX4_put_21 (fun v8 e8 i8 => ?_)
    rw [show v8 = v1 from e8.trans ((kp_q eσ7).trans e1.symm)]
    refine lv_iconst (v := 1) hx hb dX4_put_24 (by decide) ?_
    refine lv_iadd hx hb dX4_put_25 ?_
    refine lv_topi (fun v9 e9 => ?_)
    have i9 : Iv v9 1 14 := iv_add e9 i4 (⟨by decide, by decide⟩ : Iv 1 1 1) (by decide)
    have x9 : v9.toInt = v1.toInt + 1 := ex_add e9 i4 (⟨by decide, by decide⟩ : Iv 1 1 1) (by decide)
    refine p_193 cx hw ha0 (iv_w i9 (by decide)) k_f_X4_13 dX4_put_26 (fun σ10 H locs eσ10 hw => ?_)
    have fr := oFr_i fr eσ10 (by decide)
    rw [← hQ]
    exact o_rv cx rx hw dX4_put_29 fr
abbrev fs_X10_tellPlaces : List Nat := [193]
abbrev ts_X10_tellPlaces : List Nat := [36]
set_option maxHeartbeats 4000000 in
set_option maxRecDepth 100000 in
theorem c_X10_tellPlaces (a0 : Nat) (ha0 : oA L τ a0 9) (a1 : Nat) (ha1 : oA L τ a1 5) : oMet l A L τ cy D K yX10_tellPlaces cX10_tellPlaces 3 none 1 22 [.ref a0, .ref a1] σ (va_Qv (fun σ1 => oFr τ fs_X10_tellPlaces ts_X10_tellPlaces σ σ1) (oPo A L τ cy D) A) := by
  refine oMk (by decide) (Nat.le_of_ble_eq_true rfl) rfl ?_
  intro p e s m args below meth c ls cx rx hA hw hl
  generalize hQ : MQ below _ args s 0 0 A = Q
  have hx := cx.1.1
  have hb := cx.1.2.1
  have hml := cx.1.2.2.1
  have hown := cx.1.2.2.2.1
  have hts := cx.1.2.2.2.2
  have hl : lv_has ls 3 [(0, .ref a0), (1, .ref a1)] := hl
  have fr : oFr τ fs_X10_tellPlaces ts_X10_tellPlaces σ σ := oFr_rf
  refine lv_aload_n hx hb dX10_tellPlaces_0 rfl (lv_at hl 0 rfl) ?_
  refine g_577 cx hw ha0 k_f_X10_19 dX10_tellPlaces_1 (fun v1 e1 h1 => ?_)
  refine o_cv hw (oRunV cx hA hw q_X4_start k_m_X10_292 rfl h1 (by decide) (As := []) (c_X4_start v1 h1) (by decide) rfl hl.1 rfl (Nat.le_of_ble_eq_true rfl) dX10_tellPlaces_4 (by decide)) (fun σ2 H locs hp hw => ?_)
  have p3_0 := hp
  have fr := oFr_tr fr p3_0 (by decide)
  refine lv_iconst (v := 0) hx hb dX10_tellPlaces_7 (by decide) ?_
  refine lv_istore_n (lv' := [(2, .int 0), (0, .ref a0), (1, .ref a1)]) hx hb dX10_tellPlaces_8 rfl hl (by decide) rfl (fun ls hl => ?_)
  have frE_9 := fr
  have J_9 : ∀ n9 : Nat, ∀ (j9_2 : Int32) (ij9_2 : Iv j9_2 0 6), ∀ (σ_9 : oSt) (H : Heap) (locs : List Loc), oI A L τ cy D s.heap σ_9 H locs → oFr τ fs_X10_tellPlaces ts_X10_tellPlaces σ σ_9 → (6 - j9_2.toInt).toNat < n9 → ∀ (ls : Array Slot), lv_has ls 3 [(0, .ref a0), (1, .ref a1), (2, .int j9_2)] → W p l e ({ frames := 1, cells := 0, slots := 0, locals := 22 } : Room) s m args below meth c H locs 0 0 Q (F0 m 9 ls []) := by
    intro n9
    induction n9 with
    | zero => intro j9_2 ij9_2 σ_9 H locs hw fr   hn_9   ls hl; exact absurd hn_9 (Nat.not_lt_zero _)
    | succ n9 ih_9 =>
      intro j9_2 ij9_2 σ_9 H locs hw fr   hn_9   ls hl
      have fr_9 := fr
      refine lv_iload_n hx hb dX10_tellPlaces_9 rfl (lv_at hl 2 rfl) ?_
      refine lv_aload_n hx hb dX10_tellPlaces_10 rfl (lv_at hl 1 rfl) ?_
      refine g_327 cx hw ha1 k_f_X10_206 dX10_tellPlaces_11 (fun v4 e4 i4 => ?_)
      refine lv_icmp_ge (tgt := 37) hx hb dX10_tellPlaces_14 (by decide) (fun c5 => ?_) (fun c5 => ?_)
      · --
        rw [← hQ]
        exact o_rv cx rx hw dX10_tellPlaces_37 fr
      · --
        have i6 : Iv j9_2 0 5 := iv_lt1 (iv_nle c5) ij9_2 i4 (by decide)
        have i7 : Iv v4 1 6 := iv_lt2 (iv_nle c5) ij9_2 i4 (by decide)
        refine lv_aload_n hx hb dX10_tellPlaces_17 rfl (lv_at hl 0 rfl) ?_
        refine g_577 cx hw ha0 k_f_X10_19 dX10_tellPlaces_18 (fun v8 e8 h8 => ?_)
        rw [show v8 = v1 from Option.some.inj (e8.symm.trans (((kr_c fr_9 (by decide)).trans ((kr_c frE_9 (by decide)).symm.trans (((kr_c p3_0 (by decide)).trans e1))))))]
        refine lv_aload_n hx hb dX10_tellPlaces_21 rfl (lv_at hl 1 rfl) ?_
        refine g_325 cx hw ha1 k_f_X10_183 dX10_tellPlaces_22 (fun v9 e9 h9 => ?_)
        refine lv_iload_n hx hb dX10_tellPlaces_25 rfl (lv_at hl 2 rfl) ?_
        refine o_iald cx hw h9 (by decide) rfl (iv_in i6 (by decide)) dX10_tellPlaces_26 (fun v10 e10 b10 => ?_)
        have i10 : Iv v10 0 63 := b10
        refine lv_i2l hx hb dX10_tellPlaces_27 rfl ?_
        refine lv_topl (fun v11 e11 => ?_)
        refine o_cv hw (oRunV cx hA hw q_X4_put k_m_X10_295 rfl h1 (by decide) (As := [.long v11]) (c_X4_put v1 h1 v11) (by decide) rfl hl.1 rfl (Nat.le_of_ble_eq_true rfl) dX10_tellPlaces_28 (by decide)) (fun σ12 H locs hp hw => ?_)
        have p13_0 := hp
        have fr := oFr_tr fr p13_0 (by decide)
        obtain ⟨v14, e14⟩ : ∃ y : Int32, y = j9_2 + 1 := ⟨_, rfl⟩
        have i14 : Iv v14 1 6 := iv_add e14 i6 (⟨by decide, by decide⟩ : Iv 1 1 1) (by decide)
        have x14 : v14.toInt = j9_2.toInt + 1 := ex_add e14 i6 (⟨by decide, by decide⟩ : Iv 1 1 1) (by decide)
        refine lv_iinc (v := v14) (lv' := [(2, .int v14), (0, .ref a0), (1, .ref a1)]) hx hb dX10_tellPlaces_31 hl (k := 2) rfl (by rw [e14]; rfl) (by decide) rfl (fun ls hl => ?_)
        refine lv_goto (tgt := 9) hx hb dX10_tellPlaces_34 (by decide) ?_
        exact ih_9 v14 (iv_w i14 (by decide)) σ12 _ _ hw fr (ms_up x14 (by decide) (iv_w (a' := 0) (b' := 6) i14 (by decide)).2 hn_9) _ (lv_sub hl [1, 2, 0] rfl)
  exact J_9 _ 0 (iv_w (⟨by decide, by decide⟩ : Iv 0 0 0) (by decide)) σ2 _ _ hw fr (Nat.lt_succ_self _) _ (lv_sub hl [1, 2, 0] rfl)
abbrev fs_X9_passMany : List Nat := [329, 331, 517]
abbrev ts_X9_passMany : List Nat := [32, 33, 37, 38]
set_option maxHeartbeats 4000000 in
set_option maxRecDepth 100000 in
theorem c_X9_passMany (a0 : Nat) (ha0 : oA L τ a0 8) (a1 : Nat) (ha1 : oA L τ a1 5) (a2 : Int32) : oMet l A L τ cy D K yX9_passMany cX9_passMany 5 (some .int) 4 106 [.ref a0, .ref a1, .int a2] σ (va_Qi (fun r σ1 => oFr τ fs_X9_passMany ts_X9_passMany σ σ1) (oPo A L τ cy D) A) := by
  refine oMk (by decide) (Nat.le_of_ble_eq_true rfl) rfl ?_
  intro p e s m args below meth c ls cx rx hA hw hl
  generalize hQ : MQ below _ args s 0 0 A = Q
  have hx := cx.1.1
  have hb := cx.1.2.1
  have hml := cx.1.2.2.1
  have hown := cx.1.2.2.2.1
  have hts := cx.1.2.2.2.2
  have hl : lv_has ls 5 [(0, .ref a0), (1, .ref a1), (2, .int a2)] := hl
  have fr : oFr τ fs_X9_passMany ts_X9_passMany σ σ := oFr_rf
  refine lv_iconst (v := 0) hx hb dX9_passMany_0 (by decide) ?_
  refine lv_istore_n (lv' := [(3, .int 0), (0, .ref a0), (1, .ref a1), (2, .int a2)]) hx hb dX9_passMany_1 rfl hl (by decide) rfl (fun ls hl => ?_)
  refine lv_iconst (v := 0) hx hb dX9_passMany_2 (by decide) ?_
  refine lv_istore (lv' := [(4, .int 0), (3, .int 0), (0, .ref a0), (1, .ref a1), (2, .int a2)]) hx hb dX9_passMany_3 hl (by decide) rfl (fun ls hl => ?_)
  have frE_5 := fr
  have J_5 : ∀ n5 : Nat, ∀ (j5_3 : Int32) (j5_4 : Int32) (ij5_4 : Iv j5_4 0 2147483647), ∀ (σ_5 : oSt) (H : Heap) (locs : List Loc), oI A L τ cy D s.heap σ_5 H locs → oFr τ fs_X9_passMany ts_X9_passMany σ σ_5 → (2147483647 - j5_4.toInt).toNat < n5 → ∀ (ls : Array Slot), lv_has ls 5 [(0, .ref a0), (1, .ref a1), (2, .int a2), (3, .int j5_3), (4, .int j5_4)] → W p l e ({ frames := 4, cells := 0, slots := 0, locals := 106 } : Room) s m args below meth c H locs 0 0 Q (F0 m 5 ls []) := by
    intro n5
    induction n5 with
    | zero => intro j5_3 j5_4 ij5_4 σ_5 H locs hw fr   hn_5   ls hl; exact absurd hn_5 (Nat.not_lt_zero _)
    | succ n5 ih_5 =>
      intro j5_3 j5_4 ij5_4 σ_5 H locs hw fr   hn_5   ls hl
      have fr_5 := fr
      refine lv_iload hx hb dX9_passMany_5 (lv_at hl 4 rfl) ?_
      refine lv_iload_n hx hb dX9_passMany_7 rfl (lv_at hl 2 rfl) ?_
      refine lv_icmp_ge (tgt := 25) hx hb dX9_passMany_8 (by decide) (fun c1 => ?_) (fun c1 => ?_)
      · --
        refine lv_iload_n hx hb dX9_passMany_25 rfl (lv_at hl 3 rfl) ?_
        rw [← hQ]
        exact o_ri cx rx hw dX9_passMany_26 fr
      · --
        have i2 : Iv j5_4 0 2147483646 := iv_lt1 (iv_nle c1) ij5_4 (iv_top a2) (by decide)
        have i3 : Iv a2 1 2147483647 := iv_lt2 (iv_nle c1) ij5_4 (iv_top a2) (by decide)
        refine lv_iload_n hx hb dX9_passMany_11 rfl (lv_at hl 3 rfl) ?_
        refine lv_aload_n hx hb dX9_passMany_12 rfl (lv_at hl 0 rfl) ?_
        refine lv_aload_n hx hb dX9_passMany_13 rfl (lv_at hl 1 rfl) ?_
        refine o_ci hw (oRunV cx hA hw q_X9_pass k_m_X9_79 rfl ha0 (by decide) (As := [.ref a1]) (c_X9_pass a0 ha0 a1 ha1) (by decide) rfl hl.1 rfl (Nat.le_of_ble_eq_true rfl) dX9_passMany_14 (by decide)) (fun v5 σ4 H locs hp hw => ?_)
        have p5_0 := hp
        have fr := oFr_tr fr p5_0 (by decide)
        refine lv_iadd hx hb dX9_passMany_17 ?_
        refine lv_topi (fun v6 e6 => ?_)
        refine lv_istore_n (lv' := [(3, .int v6), (0, .ref a0), (1, .ref a1), (2, .int a2), (4, .int j5_4)]) hx hb dX9_passMany_18 rfl hl (by decide) rfl (fun ls hl => ?_)
        obtain ⟨v7, e7⟩ : ∃ y : Int32, y = j5_4 + 1 := ⟨_, rfl⟩
        have i7 : Iv v7 1 2147483647 := iv_add e7 i2 (⟨by decide, by decide⟩ : Iv 1 1 1) (by decide)
        have x7 : v7.toInt = j5_4.toInt + 1 := ex_add e7 i2 (⟨by decide, by decide⟩ : Iv 1 1 1) (by decide)
        refine lv_iinc (v := v7) (lv' := [(4, .int v7), (3, .int v6), (0, .ref a0), (1, .ref a1), (2, .int a2)]) hx hb dX9_passMany_19 hl (k := 4) rfl (by rw [e7]; rfl) (by decide) rfl (fun ls hl => ?_)
        refine lv_goto (tgt := 5) hx hb dX9_passMany_22 (by decide) ?_
        exact ih_5 v6 v7 (iv_w i7 (by decide)) σ4 _ _ hw fr (ms_up x7 (by decide) (iv_w (a' := 0) (b' := 2147483647) i7 (by decide)).2 hn_5) _ (lv_sub hl [2, 3, 4, 1, 0] rfl)
  exact J_5 _ 0 0 (iv_w (⟨by decide, by decide⟩ : Iv 0 0 0) (by decide)) σ _ _ hw fr (Nat.lt_succ_self _) _ (lv_sub hl [2, 3, 4, 1, 0] rfl)
end OM
