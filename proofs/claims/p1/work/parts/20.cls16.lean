section OM
variable {l : Launch} {A : Nat → Prop} {L : List Nat} {τ : Nat → Nat} {cy : Nat → ClassId} {D : va_G} {K : (Nat → Nat) × (Nat → Nat)} {σ : oSt}
set_option maxHeartbeats 4000000 in
set_option maxRecDepth 100000 in
theorem c_X10_count (a0 : Nat) (ha0 : oA L τ a0 9) (a1 : Int32) (hg0 : ∀ p, σ.2.2.2.2 581 a0 = some p → ∀ b, σ.2.2.2.2 320 p = some b → ∀ i, i < 64 → σ.2.2.1 b i = 0) (hb581_330 : ∀ b, σ.2.2.2.2 581 a0 = some b → Iv (σ.1 330 b) 0 0) (hb581_329 : ∀ b, σ.2.2.2.2 581 a0 = some b → Iv (σ.1 329 b) 0 0) (hb581_331 : ∀ b, σ.2.2.2.2 581 a0 = some b → Iv (σ.1 331 b) 0 0) (hb580_514 : ∀ b, σ.2.2.2.2 580 a0 = some b → Iv (σ.1 514 b) 12 12) (hb580_515 : ∀ b, σ.2.2.2.2 580 a0 = some b → Iv (σ.1 515 b) 6 6) (hb585_130 : ∀ b, σ.2.2.2.2 585 a0 = some b → Iv (σ.1 130 b) 0 0) (hb577_193 : ∀ b, σ.2.2.2.2 577 a0 = some b → Iv (σ.1 193 b) 0 0) (hb576_385 : ∀ b, σ.2.2.2.2 576 a0 = some b → Iv (σ.1 385 b) 0 0) : oMet l A L τ cy D K yX10_count cX10_count 2 (some .int) 1 22 [.ref a0, .int a1] σ (va_Qi (fun r σ1 => σ1 = σ ∧ Iv r (-1) 12 ∧ ((a1.toInt = 7 ∧ r.toInt = 12) ∨ (a1.toInt = 8 ∧ r.toInt = 6) ∨ ((0 ≤ a1.toInt ∧ a1.toInt ≤ 12 ∧ a1.toInt ≠ 7 ∧ a1.toInt ≠ 8) ∧ r.toInt = 0) ∨ ((a1.toInt < 0 ∨ 12 < a1.toInt) ∧ r.toInt = -1))) (oPo A L τ cy D) A) := by
  refine oMk (by decide) (Nat.le_of_ble_eq_true rfl) rfl ?_
  intro p e s m args below meth c ls cx rx hA hw hl
  generalize hQ : MQ below _ args s 0 0 A = Q
  have hx := cx.1.1
  have hb := cx.1.2.1
  have hml := cx.1.2.2.1
  have hown := cx.1.2.2.2.1
  have hts := cx.1.2.2.2.2
  have hl : lv_has ls 2 [(0, .ref a0), (1, .int a1)] := hl
  obtain ⟨b576, hF576, hb576⟩ := hw.2.2.2.2.2 576 a0 6 (by rw [ha0.2]; rfl) ha0.1
  obtain ⟨b577, hF577, hb577⟩ := hw.2.2.2.2.2 577 a0 3 (by rw [ha0.2]; rfl) ha0.1
  obtain ⟨b580, hF580, hb580⟩ := hw.2.2.2.2.2 580 a0 8 (by rw [ha0.2]; rfl) ha0.1
  obtain ⟨b581, hF581, hb581⟩ := hw.2.2.2.2.2 581 a0 5 (by rw [ha0.2]; rfl) ha0.1
  obtain ⟨b585, hF585, hb585⟩ := hw.2.2.2.2.2 585 a0 2 (by rw [ha0.2]; rfl) ha0.1
  have zb581_330 := hb581_330 b581 hF581
  have zb581_329 := hb581_329 b581 hF581
  have zb581_331 := hb581_331 b581 hF581
  have zb580_514 := hb580_514 b580 hF580
  have zb580_515 := hb580_515 b580 hF580
  have zb585_130 := hb585_130 b585 hF585
  have zb577_193 := hb577_193 b577 hF577
  have zb576_385 := hb576_385 b576 hF576
  refine lv_iload_n hx hb dX10_count_0 rfl (lv_at hl 1 rfl) ?_
  by_cases q1 : a1 = 0
  · --
    refine lv_tableIn (tgt := 68) hx hb dX10_count_1 (by rw [q1]; decide) (by rw [q1]; decide) (by rw [q1]; rfl) (by decide) ?_
    have i2 : Iv a1 0 0 := iv_eq1 q1 (iv_top a1) (⟨by decide, by decide⟩ : Iv 0 0 0) (by decide)
    refine lv_aload_n hx hb dX10_count_68 rfl (lv_at hl 0 rfl) ?_
    refine g_578 cx hw ha0 k_f_X10_26 dX10_count_69 (fun v3 e3 h3 => ?_)
    refine g_64 cx hw h3 k_f_X10_121 dX10_count_72 (fun v4 e4 i4 => ?_)
    have z4 : v4.toInt = (σ.1 64 v3).toInt := congrArg Int32.toInt e4
    rw [← hQ]
    exact o_ri cx rx hw dX10_count_75 ⟨rfl, (iv_w i4 (by decide)), (by exact (by have := (i2).1; have := (i2).2; have := (i4).1; have := (i4).2; have := (zb581_330).1; have := (zb581_330).2; have := (zb581_329).1; have := (zb581_329).2; have := (zb581_331).1; have := (zb581_331).2; have := (zb580_514).1; have := (zb580_514).2; have := (zb580_515).1; have := (zb580_515).2; have := (zb585_130).1; have := (zb585_130).2; have := (zb577_193).1; have := (zb577_193).2; have := (zb576_385).1; have := (zb576_385).2; have : (σ.1 64 v3).toInt = (v4 : Int32).toInt := congrArg Int32.toInt (show σ.1 64 v3 = v4 from e4.symm); omega))⟩
  by_cases q5 : a1 = 1
  · --
    refine lv_tableIn (tgt := 76) hx hb dX10_count_1 (by rw [q5]; decide) (by rw [q5]; decide) (by rw [q5]; rfl) (by decide) ?_
    have i6 : Iv a1 1 1 := iv_eq1 q5 (iv_top a1) (⟨by decide, by decide⟩ : Iv 1 1 1) (by decide)
    refine lv_aload_n hx hb dX10_count_76 rfl (lv_at hl 0 rfl) ?_
    refine g_578 cx hw ha0 k_f_X10_26 dX10_count_77 (fun v7 e7 h7 => ?_)
    refine g_65 cx hw h7 k_f_X10_124 dX10_count_80 (fun v8 e8 i8 => ?_)
    have z8 : v8.toInt = (σ.1 65 v7).toInt := congrArg Int32.toInt e8
    rw [← hQ]
    exact o_ri cx rx hw dX10_count_83 ⟨rfl, (iv_w i8 (by decide)), (by exact (by have := (i6).1; have := (i6).2; have := (i8).1; have := (i8).2; have := (zb581_330).1; have := (zb581_330).2; have := (zb581_329).1; have := (zb581_329).2; have := (zb581_331).1; have := (zb581_331).2; have := (zb580_514).1; have := (zb580_514).2; have := (zb580_515).1; have := (zb580_515).2; have := (zb585_130).1; have := (zb585_130).2; have := (zb577_193).1; have := (zb577_193).2; have := (zb576_385).1; have := (zb576_385).2; have : (σ.1 65 v7).toInt = (v8 : Int32).toInt := congrArg Int32.toInt (show σ.1 65 v7 = v8 from e8.symm); omega))⟩
  by_cases q9 : a1 = 2
  · --
    refine lv_tableIn (tgt := 84) hx hb dX10_count_1 (by rw [q9]; decide) (by rw [q9]; decide) (by rw [q9]; rfl) (by decide) ?_
    have i10 : Iv a1 2 2 := iv_eq1 q9 (iv_top a1) (⟨by decide, by decide⟩ : Iv 2 2 2) (by decide)
    refine lv_aload_n hx hb dX10_count_84 rfl (lv_at hl 0 rfl) ?_
    refine g_578 cx hw ha0 k_f_X10_26 dX10_count_85 (fun v11 e11 h11 => ?_)
    refine g_66 cx hw h11 k_f_X10_306 dX10_count_88 (fun v12 e12 i12 => ?_)
    have z12 : v12.toInt = (σ.1 66 v11).toInt := congrArg Int32.toInt e12
    rw [← hQ]
    exact o_ri cx rx hw dX10_count_91 ⟨rfl, (iv_w i12 (by decide)), (by exact (by have := (i10).1; have := (i10).2; have := (i12).1; have := (i12).2; have := (zb581_330).1; have := (zb581_330).2; have := (zb581_329).1; have := (zb581_329).2; have := (zb581_331).1; have := (zb581_331).2; have := (zb580_514).1; have := (zb580_514).2; have := (zb580_515).1; have := (zb580_515).2; have := (zb585_130).1; have := (zb585_130).2; have := (zb577_193).1; have := (zb577_193).2; have := (zb576_385).1; have := (zb576_385).2; have : (σ.1 66 v11).toInt = (v12 : Int32).toInt := congrArg Int32.toInt (show σ.1 66 v11 = v12 from e12.symm); omega))⟩
  by_cases q13 : a1 = 3
  · --
    refine lv_tableIn (tgt := 92) hx hb dX10_count_1 (by rw [q13]; decide) (by rw [q13]; decide) (by rw [q13]; rfl) (by decide) ?_
    have i14 : Iv a1 3 3 := iv_eq1 q13 (iv_top a1) (⟨by decide, by decide⟩ : Iv 3 3 3) (by decide)
    refine lv_aload_n hx hb dX10_count_92 rfl (lv_at hl 0 rfl) ?_
    refine g_581 cx hw ha0 k_f_X10_49 dX10_count_93 (fun v15 e15 h15 => ?_)
    rw [show v15 = b581 from Option.some.inj (e15.symm.trans (hF581))]
    refine g_330 cx hw hb581 k_f_X10_154 dX10_count_96 (fun v16 e16 => ?_)
    rw [show v16 = (σ.1 330 b581) from e16.trans rfl]
    rw [← hQ]
    exact o_ri cx rx hw dX10_count_99 ⟨rfl, (iv_w zb581_330 (by decide)), (by exact (by have := (i14).1; have := (i14).2; have := (zb581_330).1; have := (zb581_330).2; have := (zb581_329).1; have := (zb581_329).2; have := (zb581_331).1; have := (zb581_331).2; have := (zb580_514).1; have := (zb580_514).2; have := (zb580_515).1; have := (zb580_515).2; have := (zb585_130).1; have := (zb585_130).2; have := (zb577_193).1; have := (zb577_193).2; have := (zb576_385).1; have := (zb576_385).2; omega))⟩
  by_cases q17 : a1 = 4
  · --
    refine lv_tableIn (tgt := 100) hx hb dX10_count_1 (by rw [q17]; decide) (by rw [q17]; decide) (by rw [q17]; rfl) (by decide) ?_
    have i18 : Iv a1 4 4 := iv_eq1 q17 (iv_top a1) (⟨by decide, by decide⟩ : Iv 4 4 4) (by decide)
    refine lv_aload_n hx hb dX10_count_100 rfl (lv_at hl 0 rfl) ?_
    refine g_581 cx hw ha0 k_f_X10_49 dX10_count_101 (fun v19 e19 h19 => ?_)
    rw [show v19 = b581 from Option.some.inj (e19.symm.trans (hF581))]
    refine g_327 cx hw hb581 k_f_X10_206 dX10_count_104 (fun v20 e20 i20 => ?_)
    have z20 : v20.toInt = (σ.1 327 b581).toInt := congrArg Int32.toInt e20
    rw [← hQ]
    exact o_ri cx rx hw dX10_count_107 ⟨rfl, (iv_w i20 (by decide)), (by exact (by have := (i18).1; have := (i18).2; have := (i20).1; have := (i20).2; have := (zb581_330).1; have := (zb581_330).2; have := (zb581_329).1; have := (zb581_329).2; have := (zb581_331).1; have := (zb581_331).2; have := (zb580_514).1; have := (zb580_514).2; have := (zb580_515).1; have := (zb580_515).2; have := (zb585_130).1; have := (zb585_130).2; have := (zb577_193).1; have := (zb577_193).2; have := (zb576_385).1; have := (zb576_385).2; have : (σ.1 327 b581).toInt = (v20 : Int32).toInt := congrArg Int32.toInt (show σ.1 327 b581 = v20 from e20.symm); omega))⟩
  by_cases q21 : a1 = 5
  · --
    refine lv_tableIn (tgt := 108) hx hb dX10_count_1 (by rw [q21]; decide) (by rw [q21]; decide) (by rw [q21]; rfl) (by decide) ?_
    have i22 : Iv a1 5 5 := iv_eq1 q21 (iv_top a1) (⟨by decide, by decide⟩ : Iv 5 5 5) (by decide)
    refine lv_aload_n hx hb dX10_count_108 rfl (lv_at hl 0 rfl) ?_
    refine g_581 cx hw ha0 k_f_X10_49 dX10_count_109 (fun v23 e23 h23 => ?_)
    rw [show v23 = b581 from Option.some.inj (e23.symm.trans (hF581))]
    refine g_329 cx hw hb581 k_f_X10_192 dX10_count_112 (fun v24 e24 => ?_)
    rw [show v24 = (σ.1 329 b581) from e24.trans rfl]
    rw [← hQ]
    exact o_ri cx rx hw dX10_count_115 ⟨rfl, (iv_w zb581_329 (by decide)), (by exact (by have := (i22).1; have := (i22).2; have := (zb581_329).1; have := (zb581_329).2; have := (zb581_330).1; have := (zb581_330).2; have := (zb581_331).1; have := (zb581_331).2; have := (zb580_514).1; have := (zb580_514).2; have := (zb580_515).1; have := (zb580_515).2; have := (zb585_130).1; have := (zb585_130).2; have := (zb577_193).1; have := (zb577_193).2; have := (zb576_385).1; have := (zb576_385).2; omega))⟩
  by_cases q25 : a1 = 6
  · --
    refine lv_tableIn (tgt := 116) hx hb dX10_count_1 (by rw [q25]; decide) (by rw [q25]; decide) (by rw [q25]; rfl) (by decide) ?_
    have i26 : Iv a1 6 6 := iv_eq1 q25 (iv_top a1) (⟨by decide, by decide⟩ : Iv 6 6 6) (by decide)
    refine lv_aload_n hx hb dX10_count_116 rfl (lv_at hl 0 rfl) ?_
    refine g_581 cx hw ha0 k_f_X10_49 dX10_count_117 (fun v27 e27 h27 => ?_)
    rw [show v27 = b581 from Option.some.inj (e27.symm.trans (hF581))]
    refine g_331 cx hw hb581 k_f_X10_463 dX10_count_120 (fun v28 e28 => ?_)
    rw [show v28 = (σ.1 331 b581) from e28.trans rfl]
    rw [← hQ]
    exact o_ri cx rx hw dX10_count_123 ⟨rfl, (iv_w zb581_331 (by decide)), (by exact (by have := (i26).1; have := (i26).2; have := (zb581_331).1; have := (zb581_331).2; have := (zb581_330).1; have := (zb581_330).2; have := (zb581_329).1; have := (zb581_329).2; have := (zb580_514).1; have := (zb580_514).2; have := (zb580_515).1; have := (zb580_515).2; have := (zb585_130).1; have := (zb585_130).2; have := (zb577_193).1; have := (zb577_193).2; have := (zb576_385).1; have := (zb576_385).2; omega))⟩
  by_cases q29 : a1 = 7
  · --
    refine lv_tableIn (tgt := 124) hx hb dX10_count_1 (by rw [q29]; decide) (by rw [q29]; decide) (by rw [q29]; rfl) (by decide) ?_
    have i30 : Iv a1 7 7 := iv_eq1 q29 (iv_top a1) (⟨by decide, by decide⟩ : Iv 7 7 7) (by decide)
    refine lv_aload_n hx hb dX10_count_124 rfl (lv_at hl 0 rfl) ?_
    refine g_580 cx hw ha0 k_f_X10_42 dX10_count_125 (fun v31 e31 h31 => ?_)
    rw [show v31 = b580 from Option.some.inj (e31.symm.trans (hF580))]
    refine g_514 cx hw hb580 k_f_X10_167 dX10_count_128 (fun v32 e32 => ?_)
    rw [show v32 = (σ.1 514 b580) from e32.trans rfl]
    rw [← hQ]
    exact o_ri cx rx hw dX10_count_131 ⟨rfl, (iv_w zb580_514 (by decide)), (by exact (by have := (i30).1; have := (i30).2; have := (zb580_514).1; have := (zb580_514).2; have := (zb581_330).1; have := (zb581_330).2; have := (zb581_329).1; have := (zb581_329).2; have := (zb581_331).1; have := (zb581_331).2; have := (zb580_515).1; have := (zb580_515).2; have := (zb585_130).1; have := (zb585_130).2; have := (zb577_193).1; have := (zb577_193).2; have := (zb576_385).1; have := (zb576_385).2; omega))⟩
  by_cases q33 : a1 = 8
  · --
    refine lv_tableIn (tgt := 132) hx hb dX10_count_1 (by rw [q33]; decide) (by rw [q33]; decide) (by rw [q33]; rfl) (by decide) ?_
    have i34 : Iv a1 8 8 := iv_eq1 q33 (iv_top a1) (⟨by decide, by decide⟩ : Iv 8 8 8) (by decide)
    refine lv_aload_n hx hb dX10_count_132 rfl (lv_at hl 0 rfl) ?_
    refine g_580 cx hw ha0 k_f_X10_42 dX10_count_133 (fun v35 e35 h35 => ?_)
    rw [show v35 = b580 from Option.some.inj (e35.symm.trans (hF580))]
    refine g_515 cx hw hb580 k_f_X10_203 dX10_count_136 (fun v36 e36 => ?_)
    rw [show v36 = (σ.1 515 b580) from e36.trans rfl]
    rw [← hQ]
    exact o_ri cx rx hw dX10_count_139 ⟨rfl, (iv_w zb580_515 (by decide)), (by exact (by have := (i34).1; have := (i34).2; have := (zb580_515).1; have := (zb580_515).2; have := (zb581_330).1; have := (zb581_330).2; have := (zb581_329).1; have := (zb581_329).2; have := (zb581_331).1; have := (zb581_331).2; have := (zb580_514).1; have := (zb580_514).2; have := (zb585_130).1; have := (zb585_130).2; have := (zb577_193).1; have := (zb577_193).2; have := (zb576_385).1; have := (zb576_385).2; omega))⟩
  by_cases q37 : a1 = 9
  · --
    refine lv_tableIn (tgt := 140) hx hb dX10_count_1 (by rw [q37]; decide) (by rw [q37]; decide) (by rw [q37]; rfl) (by decide) ?_
    have i38 : Iv a1 9 9 := iv_eq1 q37 (iv_top a1) (⟨by decide, by decide⟩ : Iv 9 9 9) (by decide)
    refine lv_aload_n hx hb dX10_count_140 rfl (lv_at hl 0 rfl) ?_
    refine g_581 cx hw ha0 k_f_X10_49 dX10_count_141 (fun v39 e39 h39 => ?_)
    rw [show v39 = b581 from Option.some.inj (e39.symm.trans (hF581))]
    refine o_ci hw (oRunV cx hA hw q_X6_grassInAll k_m_X10_466 rfl hb581 (by decide) (As := []) (c_X6_grassInAll b581 hb581 (fun b q => hg0 b581 hF581 b q)) (by decide) rfl hl.1 rfl (Nat.le_of_ble_eq_true rfl) dX10_count_144 (by decide)) (fun v41 σ40 H locs hp hw => ?_)
    obtain ⟨p41_0, p41_1⟩ := hp
    rw [p41_0] at hw
    rw [← hQ]
    exact o_ri cx rx hw dX10_count_147 ⟨rfl, (iv_w p41_1 (by decide)), (by exact (by have := (i38).1; have := (i38).2; have := (p41_1).1; have := (p41_1).2; have := (zb581_330).1; have := (zb581_330).2; have := (zb581_329).1; have := (zb581_329).2; have := (zb581_331).1; have := (zb581_331).2; have := (zb580_514).1; have := (zb580_514).2; have := (zb580_515).1; have := (zb580_515).2; have := (zb585_130).1; have := (zb585_130).2; have := (zb577_193).1; have := (zb577_193).2; have := (zb576_385).1; have := (zb576_385).2; omega))⟩
  by_cases q42 : a1 = 10
  · --
    refine lv_tableIn (tgt := 148) hx hb dX10_count_1 (by rw [q42]; decide) (by rw [q42]; decide) (by rw [q42]; rfl) (by decide) ?_
    have i43 : Iv a1 10 10 := iv_eq1 q42 (iv_top a1) (⟨by decide, by decide⟩ : Iv 10 10 10) (by decide)
    refine lv_aload_n hx hb dX10_count_148 rfl (lv_at hl 0 rfl) ?_
    refine g_585 cx hw ha0 k_f_X10_75 dX10_count_149 (fun v44 e44 h44 => ?_)
    rw [show v44 = b585 from Option.some.inj (e44.symm.trans (hF585))]
    refine g_130 cx hw hb585 k_f_X10_303 dX10_count_152 (fun v45 e45 i45 => ?_)
    rw [show v45 = (σ.1 130 b585) from e45.trans rfl]
    rw [← hQ]
    exact o_ri cx rx hw dX10_count_155 ⟨rfl, (iv_w zb585_130 (by decide)), (by exact (by have := (i43).1; have := (i43).2; have := (zb585_130).1; have := (zb585_130).2; have := (zb581_330).1; have := (zb581_330).2; have := (zb581_329).1; have := (zb581_329).2; have := (zb581_331).1; have := (zb581_331).2; have := (zb580_514).1; have := (zb580_514).2; have := (zb580_515).1; have := (zb580_515).2; have := (zb577_193).1; have := (zb577_193).2; have := (zb576_385).1; have := (zb576_385).2; omega))⟩
  by_cases q46 : a1 = 11
  · --
    refine lv_tableIn (tgt := 156) hx hb dX10_count_1 (by rw [q46]; decide) (by rw [q46]; decide) (by rw [q46]; rfl) (by decide) ?_
    have i47 : Iv a1 11 11 := iv_eq1 q46 (iv_top a1) (⟨by decide, by decide⟩ : Iv 11 11 11) (by decide)
    refine lv_aload_n hx hb dX10_count_156 rfl (lv_at hl 0 rfl) ?_
    refine g_577 cx hw ha0 k_f_X10_19 dX10_count_157 (fun v48 e48 h48 => ?_)
    rw [show v48 = b577 from Option.some.inj (e48.symm.trans (hF577))]
    refine g_193 cx hw hb577 k_f_X10_469 dX10_count_160 (fun v49 e49 i49 => ?_)
    rw [show v49 = (σ.1 193 b577) from e49.trans rfl]
    rw [← hQ]
    exact o_ri cx rx hw dX10_count_163 ⟨rfl, (iv_w zb577_193 (by decide)), (by exact (by have := (i47).1; have := (i47).2; have := (zb577_193).1; have := (zb577_193).2; have := (zb581_330).1; have := (zb581_330).2; have := (zb581_329).1; have := (zb581_329).2; have := (zb581_331).1; have := (zb581_331).2; have := (zb580_514).1; have := (zb580_514).2; have := (zb580_515).1; have := (zb580_515).2; have := (zb585_130).1; have := (zb585_130).2; have := (zb576_385).1; have := (zb576_385).2; omega))⟩
  by_cases q50 : a1 = 12
  · --
    refine lv_tableIn (tgt := 164) hx hb dX10_count_1 (by rw [q50]; decide) (by rw [q50]; decide) (by rw [q50]; rfl) (by decide) ?_
    have i51 : Iv a1 12 12 := iv_eq1 q50 (iv_top a1) (⟨by decide, by decide⟩ : Iv 12 12 12) (by decide)
    refine lv_aload_n hx hb dX10_count_164 rfl (lv_at hl 0 rfl) ?_
    refine g_576 cx hw ha0 k_f_X10_10 dX10_count_165 (fun v52 e52 h52 => ?_)
    rw [show v52 = b576 from Option.some.inj (e52.symm.trans (hF576))]
    refine g_385 cx hw hb576 k_f_X10_100 dX10_count_168 (fun v53 e53 i53 => ?_)
    rw [show v53 = (σ.1 385 b576) from e53.trans rfl]
    rw [← hQ]
    exact o_ri cx rx hw dX10_count_171 ⟨rfl, (iv_w zb576_385 (by decide)), (by exact (by have := (i51).1; have := (i51).2; have := (zb576_385).1; have := (zb576_385).2; have := (zb581_330).1; have := (zb581_330).2; have := (zb581_329).1; have := (zb581_329).2; have := (zb581_331).1; have := (zb581_331).2; have := (zb580_514).1; have := (zb580_514).2; have := (zb580_515).1; have := (zb580_515).2; have := (zb585_130).1; have := (zb585_130).2; have := (zb577_193).1; have := (zb577_193).2; omega))⟩
  have q1 := iv_nt q1 (k := 0) (by decide)
  have q5 := iv_nt q5 (k := 1) (by decide)
  have q9 := iv_nt q9 (k := 2) (by decide)
  have q13 := iv_nt q13 (k := 3) (by decide)
  have q17 := iv_nt q17 (k := 4) (by decide)
  have q21 := iv_nt q21 (k := 5) (by decide)
  have q25 := iv_nt q25 (k := 6) (by decide)
  have q29 := iv_nt q29 (k := 7) (by decide)
  have q33 := iv_nt q33 (k := 8) (by decide)
  have q37 := iv_nt q37 (k := 9) (by decide)
  have q42 := iv_nt q42 (k := 10) (by decide)
  have q46 := iv_nt q46 (k := 11) (by decide)
  have q50 := iv_nt q50 (k := 12) (by decide)
  refine lv_tableOut (tgt := 172) hx hb dX10_count_1 (by omega) (by decide) ?_
  refine lv_iconst (v := (-1)) hx hb dX10_count_172 (by decide) ?_
  rw [← hQ]
  exact o_ri cx rx hw dX10_count_173 ⟨rfl, (iv_w (⟨by decide, by decide⟩ : Iv (-1) (-1) (-1)) (by decide)), (by exact (by have := (zb581_330).1; have := (zb581_330).2; have := (zb581_329).1; have := (zb581_329).2; have := (zb581_331).1; have := (zb581_331).2; have := (zb580_514).1; have := (zb580_514).2; have := (zb580_515).1; have := (zb580_515).2; have := (zb585_130).1; have := (zb585_130).2; have := (zb577_193).1; have := (zb577_193).2; have := (zb576_385).1; have := (zb576_385).2; have : ((-1) : Int32).toInt = (-1) := (by decide); omega))⟩
set_option maxHeartbeats 4000000 in
set_option maxRecDepth 100000 in
theorem c_X11_thrown (a0 : Nat) (ha0 : oA L τ a0 10) : oMet l A L τ cy D K yX11_thrown cX11_thrown 1 (some .int) 0 0 [.ref a0] σ (va_Qi (fun r σ1 => σ1 = σ ∧ (r = σ.1 658 a0)) (oPo A L τ cy D) A) := by
  refine oMk (by decide) (Nat.le_of_ble_eq_true rfl) rfl ?_
  intro p e s m args below meth c ls cx rx hA hw hl
  generalize hQ : MQ below _ args s 0 0 A = Q
  have hx := cx.1.1
  have hb := cx.1.2.1
  have hml := cx.1.2.2.1
  have hown := cx.1.2.2.2.1
  have hts := cx.1.2.2.2.2
  have hl : lv_has ls 1 [(0, .ref a0)] := hl
  refine lv_aload_n hx hb dX11_thrown_0 rfl (lv_at hl 0 rfl) ?_
  refine g_658 cx hw ha0 k_f_X11_89 dX11_thrown_1 (fun v1 e1 => ?_)
  have z1 : v1.toInt = (σ.1 658 a0).toInt := congrArg Int32.toInt e1
  rw [← hQ]
  exact o_ri cx rx hw dX11_thrown_4 ⟨rfl, (by exact e1)⟩
abbrev fs_X11_sign : List Nat := [655, 658]
abbrev ts_X11_sign : List Nat := [51]
set_option maxHeartbeats 4000000 in
set_option maxRecDepth 100000 in
theorem c_X11_sign (a0 : Nat) (ha0 : oA L τ a0 10) (a1 : Int32) : oMet l A L τ cy D K yX11_sign cX11_sign 3 (some .int) 0 0 [.ref a0, .int a1] σ (va_Qi (fun r σ1 => oFr τ fs_X11_sign ts_X11_sign σ σ1 ∧ Iv r (-1) 80 ∧ (((σ.1 655 a0).toInt + 4 ≤ 80 ∧ r.toInt = (σ.1 655 a0).toInt + 4 ∧ (σ1.1 655 a0).toInt = (σ.1 655 a0).toInt + 4) ∨ (80 < (σ.1 655 a0).toInt + 4 ∧ r.toInt = -1 ∧ (σ1.1 655 a0).toInt = (σ.1 655 a0).toInt)) ∧ ((80 < (σ.1 655 a0).toInt + 4 ∧ oRw σ1 654 a0 = oRw σ 654 a0) ∨ ((σ.1 655 a0).toInt + 4 ≤ 80 ∧ tAppR (oRw σ 654 a0) (oRw σ1 654 a0) (σ.1 655 a0).toInt a1))) (oPo A L τ cy D) A) := by
  refine oMk (by decide) (Nat.le_of_ble_eq_true rfl) rfl ?_
  intro p e s m args below meth c ls cx rx hA hw hl
  generalize hQ : MQ below _ args s 0 0 A = Q
  have hx := cx.1.1
  have hb := cx.1.2.1
  have hml := cx.1.2.2.1
  have hown := cx.1.2.2.2.1
  have hts := cx.1.2.2.2.2
  have hl : lv_has ls 3 [(0, .ref a0), (1, .int a1)] := hl
  have fr : oFr τ fs_X11_sign ts_X11_sign σ σ := oFr_rf
  obtain ⟨b654, hF654, hb654⟩ := hw.2.2.2.2.2 654 a0 51 (by rw [ha0.2]; rfl) ha0.1
  have iz655 : Iv (σ.1 655 a0) (0) 80 := o_fb (j := 655) hw ha0 rfl
  refine lv_aload_n hx hb dX11_sign_0 rfl (lv_at hl 0 rfl) ?_
  refine lv_iconst (v := 0) hx hb dX11_sign_1 (by decide) ?_
  refine p_658 cx hw ha0 k_f_X11_89 dX11_sign_2 (fun σ1 H locs eσ1 hw => ?_)
  have fr := oFr_i fr eσ1 (by decide)
  refine lv_aload_n hx hb dX11_sign_5 rfl (lv_at hl 0 rfl) ?_
  refine g_655 cx hw ha0 k_f_X11_108 dX11_sign_6 (fun v2 e2 i2 => ?_)
  rw [show v2 = (σ.1 655 a0) from e2.trans ((kp_i eσ1 (by decide)).trans rfl)]
  refine lv_iconst (v := 4) hx hb dX11_sign_9 (by decide) ?_
  refine lv_iadd hx hb dX11_sign_10 ?_
  refine lv_topi (fun v3 e3 => ?_)
  have i3 : Iv v3 4 84 := iv_add e3 iz655 (⟨by decide, by decide⟩ : Iv 4 4 4) (by decide)
  have x3 : v3.toInt = (σ.1 655 a0).toInt + 4 := ex_add e3 iz655 (⟨by decide, by decide⟩ : Iv 4 4 4) (by decide)
  refine lv_bipush (v := 80) hx hb dX11_sign_11 (by decide) ?_
  refine lv_icmp_le (tgt := 18) hx hb dX11_sign_13 (by decide) (fun c4 => ?_) (fun c4 => ?_)
  · --
    have i5 : Iv v3 4 80 := iv_le1 c4 i3 (⟨by decide, by decide⟩ : Iv 80 80 80) (by decide)
    have i6 : Iv (σ.1 655 a0) 0 76 := iv_lin x3 i5 iz655 (by decide)
    refine lv_iconst (v := 3) hx hb dX11_sign_18 (by decide) ?_
    refine lv_istore_n (lv' := [(2, .int 3), (0, .ref a0), (1, .int a1)]) hx hb dX11_sign_19 rfl hl (by decide) rfl (fun ls hl => ?_)
    refine lv_iload_n hx hb dX11_sign_20 rfl (lv_at hl 0 rfl) ?_
    refine lv_if_lt (tgt := 53) hx hb dX11_sign_21 (by decide) (fun c7 => ?_) (fun c7 => ?_)
    · --
      exact iv_no (iv_lt1 (b' := 2) c7 (⟨by decide, by decide⟩ : Iv 3 3 3) (⟨by decide, by decide⟩ : Iv 0 0 0) (by decide)) (by decide)
    · --
      refine lv_aload_n hx hb dX11_sign_24 rfl (lv_at hl 1 rfl) ?_
      refine g_654 cx hw ha0 k_f_X11_32 dX11_sign_25 (fun v8 e8 h8 => ?_)
      rw [show v8 = b654 from Option.some.inj (e8.symm.trans (((kr_i eσ1).trans hF654)))]
      refine lv_aload_n hx hb dX11_sign_28 rfl (lv_at hl 1 rfl) ?_
      refine lv_dup hx hb dX11_sign_29 rfl ?_
      refine g_655 cx hw ha0 k_f_X11_108 dX11_sign_30 (fun v9 e9 i9 => ?_)
      rw [show v9 = (σ.1 655 a0) from e9.trans ((kp_i eσ1 (by decide)).trans rfl)]
      refine lv_dup_x1 hx hb dX11_sign_33 rfl rfl ?_
      refine lv_iconst (v := 1) hx hb dX11_sign_34 (by decide) ?_
      refine lv_iadd hx hb dX11_sign_35 ?_
      refine lv_topi (fun v10 e10 => ?_)
      have i10 : Iv v10 1 77 := iv_add e10 i6 (⟨by decide, by decide⟩ : Iv 1 1 1) (by decide)
      have x10 : v10.toInt = (σ.1 655 a0).toInt + 1 := ex_add e10 i6 (⟨by decide, by decide⟩ : Iv 1 1 1) (by decide)
      refine p_655 cx hw ha0 (iv_w i10 (by decide)) k_f_X11_108 dX11_sign_36 (fun σ11 H locs eσ11 hw => ?_)
      have fr := oFr_i fr eσ11 (by decide)
      refine lv_iload_n hx hb dX11_sign_39 rfl (lv_at hl 2 rfl) ?_
      refine lv_bipush (v := 8) hx hb dX11_sign_40 (by decide) ?_
      refine lv_iload_n hx hb dX11_sign_42 rfl (lv_at hl 0 rfl) ?_
      refine lv_imul hx hb dX11_sign_43 ?_
      refine lv_topi (fun v12 e12 => ?_)
      have i12 : Iv v12 24 24 := iv_mul e12 (⟨by decide, by decide⟩ : Iv 8 8 8) (⟨by decide, by decide⟩ : Iv 3 3 3) (by decide)
      refine lv_ishr hx hb dX11_sign_44 ?_
      refine lv_topi (fun v13 e13 => ?_)
      refine lv_i2b hx hb dX11_sign_45 rfl ?_
      refine lv_topi (fun v14 e14 => ?_)
      refine o_bast cx hw hb654 (by decide) rfl (iv_in i6 (by decide)) (rb_byte _) dX11_sign_46 (fun σ15 H locs eσ15 hw => ?_)
      have fr := oFr_p fr eσ15 hb654 (by decide)
      refine lv_iinc (v := 2) (lv' := [(2, .int 2), (0, .ref a0), (1, .int a1)]) hx hb dX11_sign_47 hl (k := 0) rfl (by decide) (by decide) rfl (fun ls hl => ?_)
      refine lv_goto (tgt := 20) hx hb dX11_sign_50 (by decide) ?_
      refine lv_iload_n hx hb dX11_sign_20 rfl (lv_at hl 0 rfl) ?_
      refine lv_if_lt (tgt := 53) hx hb dX11_sign_21 (by decide) (fun c17 => ?_) (fun c17 => ?_)
      · --
        exact iv_no (iv_lt1 (b' := 1) c17 (⟨by decide, by decide⟩ : Iv 2 2 2) (⟨by decide, by decide⟩ : Iv 0 0 0) (by decide)) (by decide)
      · --
        refine lv_aload_n hx hb dX11_sign_24 rfl (lv_at hl 1 rfl) ?_
        refine g_654 cx hw ha0 k_f_X11_32 dX11_sign_25 (fun v18 e18 h18 => ?_)
        rw [show v18 = b654 from Option.some.inj (e18.symm.trans (((kr_p eσ15).trans ((kr_i eσ11).trans ((kr_i eσ1).trans hF654)))))]
        refine lv_aload_n hx hb dX11_sign_28 rfl (lv_at hl 1 rfl) ?_
        refine lv_dup hx hb dX11_sign_29 rfl ?_
        refine g_655 cx hw ha0 k_f_X11_108 dX11_sign_30 (fun v19 e19 i19 => ?_)
        rw [show v19 = v10 from e19.trans ((kp_p eσ15).trans (kp_s eσ11))]
        refine lv_dup_x1 hx hb dX11_sign_33 rfl rfl ?_
        refine lv_iconst (v := 1) hx hb dX11_sign_34 (by decide) ?_
        refine lv_iadd hx hb dX11_sign_35 ?_
        refine lv_topi (fun v20 e20 => ?_)
        have i20 : Iv v20 2 78 := iv_add e20 i10 (⟨by decide, by decide⟩ : Iv 1 1 1) (by decide)
        have x20 : v20.toInt = v10.toInt + 1 := ex_add e20 i10 (⟨by decide, by decide⟩ : Iv 1 1 1) (by decide)
        refine p_655 cx hw ha0 (iv_w i20 (by decide)) k_f_X11_108 dX11_sign_36 (fun σ21 H locs eσ21 hw => ?_)
        have fr := oFr_i fr eσ21 (by decide)
        refine lv_iload_n hx hb dX11_sign_39 rfl (lv_at hl 2 rfl) ?_
        refine lv_bipush (v := 8) hx hb dX11_sign_40 (by decide) ?_
        refine lv_iload_n hx hb dX11_sign_42 rfl (lv_at hl 0 rfl) ?_
        refine lv_imul hx hb dX11_sign_43 ?_
        refine lv_topi (fun v22 e22 => ?_)
        have i22 : Iv v22 16 16 := iv_mul e22 (⟨by decide, by decide⟩ : Iv 8 8 8) (⟨by decide, by decide⟩ : Iv 2 2 2) (by decide)
        refine lv_ishr hx hb dX11_sign_44 ?_
        refine lv_topi (fun v23 e23 => ?_)
        refine lv_i2b hx hb dX11_sign_45 rfl ?_
        refine lv_topi (fun v24 e24 => ?_)
        refine o_bast cx hw hb654 (by decide) rfl (iv_in i10 (by decide)) (rb_byte _) dX11_sign_46 (fun σ25 H locs eσ25 hw => ?_)
        have fr := oFr_p fr eσ25 hb654 (by decide)
        refine lv_iinc (v := 1) (lv' := [(2, .int 1), (0, .ref a0), (1, .int a1)]) hx hb dX11_sign_47 hl (k := 0) rfl (by decide) (by decide) rfl (fun ls hl => ?_)
        refine lv_goto (tgt := 20) hx hb dX11_sign_50 (by decide) ?_
        refine lv_iload_n hx hb dX11_sign_20 rfl (lv_at hl 0 rfl) ?_
        refine lv_if_lt (tgt := 53) hx hb dX11_sign_21 (by decide) (fun c27 => ?_) (fun c27 => ?_)
        · --
          exact iv_no (iv_lt1 (b' := 0) c27 (⟨by decide, by decide⟩ : Iv 1 1 1) (⟨by decide, by decide⟩ : Iv 0 0 0) (by decide)) (by decide)
        · --
          refine lv_aload_n hx hb dX11_sign_24 rfl (lv_at hl 1 rfl) ?_
          refine g_654 cx hw ha0 k_f_X11_32 dX11_sign_25 (fun v28 e28 h28 => ?_)
          rw [show v28 = b654 from Option.some.inj (e28.symm.trans (((kr_p eσ25).trans ((kr_i eσ21).trans ((kr_p eσ15).trans ((kr_i eσ11).trans ((kr_i eσ1).trans hF654)))))))]
          refine lv_aload_n hx hb dX11_sign_28 rfl (lv_at hl 1 rfl) ?_
          refine lv_dup hx hb dX11_sign_29 rfl ?_
          refine g_655 cx hw ha0 k_f_X11_108 dX11_sign_30 (fun v29 e29 i29 => ?_)
          rw [show v29 = v20 from e29.trans ((kp_p eσ25).trans (kp_s eσ21))]
          refine lv_dup_x1 hx hb dX11_sign_33 rfl rfl ?_
          refine lv_iconst (v := 1) hx hb dX11_sign_34 (by decide) ?_
          refine lv_iadd hx hb dX11_sign_35 ?_
          refine lv_topi (fun v30 e30 => ?_)
          have i30 : Iv v30 3 79 := iv_add e30 i20 (⟨by decide, by decide⟩ : Iv 1 1 1) (by decide)
          have x30 : v30.toInt = v20.toInt + 1 := ex_add e30 i20 (⟨by decide, by decide⟩ : Iv 1 1 1) (by decide)
          refine p_655 cx hw ha0 (iv_w i30 (by decide)) k_f_X11_108 dX11_sign_36 (fun σ31 H locs eσ31 hw => ?_)
          have fr := oFr_i fr eσ31 (by decide)
          refine lv_iload_n hx hb dX11_sign_39 rfl (lv_at hl 2 rfl) ?_
          refine lv_bipush (v := 8) hx hb dX11_sign_40 (by decide) ?_
          refine lv_iload_n hx hb dX11_sign_42 rfl (lv_at hl 0 rfl) ?_
          refine lv_imul hx hb dX11_sign_43 ?_
          refine lv_topi (fun v32 e32 => ?_)
          have i32 : Iv v32 8 8 := iv_mul e32 (⟨by decide, by decide⟩ : Iv 8 8 8) (⟨by decide, by decide⟩ : Iv 1 1 1) (by decide)
          refine lv_ishr hx hb dX11_sign_44 ?_
          refine lv_topi (fun v33 e33 => ?_)
          refine lv_i2b hx hb dX11_sign_45 rfl ?_
          refine lv_topi (fun v34 e34 => ?_)
          refine o_bast cx hw hb654 (by decide) rfl (iv_in i20 (by decide)) (rb_byte _) dX11_sign_46 (fun σ35 H locs eσ35 hw => ?_)
          have fr := oFr_p fr eσ35 hb654 (by decide)
          refine lv_iinc (v := 0) (lv' := [(2, .int 0), (0, .ref a0), (1, .int a1)]) hx hb dX11_sign_47 hl (k := 0) rfl (by decide) (by decide) rfl (fun ls hl => ?_)
          refine lv_goto (tgt := 20) hx hb dX11_sign_50 (by decide) ?_
          refine lv_iload_n hx hb dX11_sign_20 rfl (lv_at hl 0 rfl) ?_
          refine lv_if_lt (tgt := 53) hx hb dX11_sign_21 (by decide) (fun c37 => ?_) (fun c37 => ?_)
          · --
            exact iv_no (iv_lt1 (b' := (-1)) c37 (⟨by decide, by decide⟩ : Iv 0 0 0) (⟨by decide, by decide⟩ : Iv 0 0 0) (by decide)) (by decide)
          · --
            refine lv_aload_n hx hb dX11_sign_24 rfl (lv_at hl 1 rfl) ?_
            refine g_654 cx hw ha0 k_f_X11_32 dX11_sign_25 (fun v38 e38 h38 => ?_)
            rw [show v38 = b654 from Option.some.inj (e38.symm.trans (((kr_p eσ35).trans ((kr_i eσ31).trans ((kr_p eσ25).trans ((kr_i eσ21).trans ((kr_p eσ15).trans ((kr_i eσ11).trans ((kr_i eσ1).trans hF654)))))))))]
            refine lv_aload_n hx hb dX11_sign_28 rfl (lv_at hl 1 rfl) ?_
            refine lv_dup hx hb dX11_sign_29 rfl ?_
            refine g_655 cx hw ha0 k_f_X11_108 dX11_sign_30 (fun v39 e39 i39 => ?_)
            rw [show v39 = v30 from e39.trans ((kp_p eσ35).trans (kp_s eσ31))]
            refine lv_dup_x1 hx hb dX11_sign_33 rfl rfl ?_
            refine lv_iconst (v := 1) hx hb dX11_sign_34 (by decide) ?_
            refine lv_iadd hx hb dX11_sign_35 ?_
            refine lv_topi (fun v40 e40 => ?_)
            have i40 : Iv v40 4 80 := iv_add e40 i30 (⟨by decide, by decide⟩ : Iv 1 1 1) (by decide)
            have x40 : v40.toInt = v30.toInt + 1 := ex_add e40 i30 (⟨by decide, by decide⟩ : Iv 1 1 1) (by decide)
            refine p_655 cx hw ha0 (iv_w i40 (by decide)) k_f_X11_108 dX11_sign_36 (fun σ41 H locs eσ41 hw => ?_)
            have fr := oFr_i fr eσ41 (by decide)
            refine lv_iload_n hx hb dX11_sign_39 rfl (lv_at hl 2 rfl) ?_
            refine lv_bipush (v := 8) hx hb dX11_sign_40 (by decide) ?_
            refine lv_iload_n hx hb dX11_sign_42 rfl (lv_at hl 0 rfl) ?_
            refine lv_imul hx hb dX11_sign_43 ?_
            refine lv_topi (fun v42 e42 => ?_)
            have i42 : Iv v42 0 0 := iv_mul e42 (⟨by decide, by decide⟩ : Iv 8 8 8) (⟨by decide, by decide⟩ : Iv 0 0 0) (by decide)
            refine lv_ishr hx hb dX11_sign_44 ?_
            refine lv_topi (fun v43 e43 => ?_)
            refine lv_i2b hx hb dX11_sign_45 rfl ?_
            refine lv_topi (fun v44 e44 => ?_)
            refine o_bast cx hw hb654 (by decide) rfl (iv_in i30 (by decide)) (rb_byte _) dX11_sign_46 (fun σ45 H locs eσ45 hw => ?_)
            have fr := oFr_p fr eσ45 hb654 (by decide)
            refine lv_iinc (v := (-1)) (lv' := [(2, .int (-1)), (0, .ref a0), (1, .int a1)]) hx hb dX11_sign_47 hl (k := 0) rfl (by decide) (by decide) rfl (fun ls hl => ?_)
            refine lv_goto (tgt := 20) hx hb dX11_sign_50 (by decide) ?_
            refine lv_iload_n hx hb dX11_sign_20 rfl (lv_at hl 0 rfl) ?_
            refine lv_if_lt (tgt := 53) hx hb dX11_sign_21 (by decide) (fun c47 => ?_) (fun c47 => ?_)
            · --
              refine lv_aload_n hx hb dX11_sign_53 rfl (lv_at hl 1 rfl) ?_
              refine g_655 cx hw ha0 k_f_X11_108 dX11_sign_54 (fun v48 e48 i48 => ?_)
              rw [show v48 = v40 from e48.trans ((kp_p eσ45).trans (kp_s eσ41))]
              rw [← hQ]
              exact o_ri cx rx hw dX11_sign_57 ⟨fr, (iv_w i40 (by decide)), (by exact (by have := (i40).1; have := (i40).2; have := (i6).1; have := (i6).2; have := (i5).1; have := (i5).2; have := (i10).1; have := (i10).2; have := (i12).1; have := (i12).2; have := (i20).1; have := (i20).2; have := (i22).1; have := (i22).2; have := (i30).1; have := (i30).2; have := (i32).1; have := (i32).2; have := (i42).1; have := (i42).2; have : (σ45.1 658 a0).toInt = (0 : Int32).toInt := congrArg Int32.toInt (show σ45.1 658 a0 = 0 from ((kp_p eσ45).trans ((kp_i eσ41 (by decide)).trans ((kp_p eσ35).trans ((kp_i eσ31 (by decide)).trans ((kp_p eσ25).trans ((kp_i eσ21 (by decide)).trans ((kp_p eσ15).trans ((kp_i eσ11 (by decide)).trans (kp_s eσ1)))))))))); have : (σ45.1 655 a0).toInt = (v40 : Int32).toInt := congrArg Int32.toInt (show σ45.1 655 a0 = v40 from ((kp_p eσ45).trans (kp_s eσ41))); have : (v3 : Int32).toInt ≤ (80 : Int32).toInt := iv_le.mp c4; have : (0 : Int32).toInt ≤ (3 : Int32).toInt := iv_le.mp (iv_nlt c7); have : (0 : Int32).toInt ≤ (2 : Int32).toInt := iv_le.mp (iv_nlt c17); have : (0 : Int32).toInt ≤ (1 : Int32).toInt := iv_le.mp (iv_nlt c27); have : (0 : Int32).toInt ≤ (0 : Int32).toInt := iv_le.mp (iv_nlt c37); have : ((-1) : Int32).toInt < (0 : Int32).toInt := iv_lt.mp c47; have : ((-1) : Int32).toInt = (-1) := (by decide); have : (0 : Int32).toInt = 0 := (by decide); have : (1 : Int32).toInt = 1 := (by decide); have : (2 : Int32).toInt = 2 := (by decide); have : (3 : Int32).toInt = 3 := (by decide); have : (80 : Int32).toInt = 80 := (by decide); omega)), (by refine Or.inr ⟨(by have := (i40).1; have := (i40).2; have := (i6).1; have := (i6).2; have := (i5).1; have := (i5).2; have := (i10).1; have := (i10).2; have := (i12).1; have := (i12).2; have := (i20).1; have := (i20).2; have := (i22).1; have := (i22).2; have := (i30).1; have := (i30).2; have := (i32).1; have := (i32).2; have := (i42).1; have := (i42).2; have : (σ45.1 658 a0).toInt = (0 : Int32).toInt := congrArg Int32.toInt (show σ45.1 658 a0 = 0 from ((kp_p eσ45).trans ((kp_i eσ41 (by decide)).trans ((kp_p eσ35).trans ((kp_i eσ31 (by decide)).trans ((kp_p eσ25).trans ((kp_i eσ21 (by decide)).trans ((kp_p eσ15).trans ((kp_i eσ11 (by decide)).trans (kp_s eσ1)))))))))); have : (σ45.1 655 a0).toInt = (v40 : Int32).toInt := congrArg Int32.toInt (show σ45.1 655 a0 = v40 from ((kp_p eσ45).trans (kp_s eσ41))); have : (v3 : Int32).toInt ≤ (80 : Int32).toInt := iv_le.mp c4; have : (0 : Int32).toInt ≤ (3 : Int32).toInt := iv_le.mp (iv_nlt c7); have : (0 : Int32).toInt ≤ (2 : Int32).toInt := iv_le.mp (iv_nlt c17); have : (0 : Int32).toInt ≤ (1 : Int32).toInt := iv_le.mp (iv_nlt c27); have : (0 : Int32).toInt ≤ (0 : Int32).toInt := iv_le.mp (iv_nlt c37); have : ((-1) : Int32).toInt < (0 : Int32).toInt := iv_lt.mp c47; have : ((-1) : Int32).toInt = (-1) := (by decide); have : (0 : Int32).toInt = 0 := (by decide); have : (1 : Int32).toInt = 1 := (by decide); have : (2 : Int32).toInt = 2 := (by decide); have : (3 : Int32).toInt = 3 := (by decide); have : (80 : Int32).toInt = 80 := (by decide); omega), ?_⟩; rw [oRw_s (((kr_p eσ45).trans ((kr_i eσ41).trans ((kr_p eσ35).trans ((kr_i eσ31).trans ((kr_p eσ25).trans ((kr_i eσ21).trans ((kr_p eσ15).trans ((kr_i eσ11).trans ((kr_i eσ1).trans hF654)))))))))), oRw_s hF654, show σ45.2.2.1 b654 = _ from rfl, ← show σ11.2.2.1 b654 = σ.2.2.1 b654 from ((rw_i eσ11).trans ((rw_i eσ1).trans rfl))]; exact tAppR_of (app4 (rw_s eσ15) (((rw_i eσ21).trans rfl)) (rw_s eσ25) (((rw_i eσ31).trans rfl)) (rw_s eσ35) (((rw_i eσ41).trans rfl)) (rw_s eσ45) (by have := (i40).1; have := (i40).2; have := (i6).1; have := (i6).2; have := (i5).1; have := (i5).2; have := (i10).1; have := (i10).2; have := (i12).1; have := (i12).2; have := (i20).1; have := (i20).2; have := (i22).1; have := (i22).2; have := (i30).1; have := (i30).2; have := (i32).1; have := (i32).2; have := (i42).1; have := (i42).2; have : (σ45.1 658 a0).toInt = (0 : Int32).toInt := congrArg Int32.toInt (show σ45.1 658 a0 = 0 from ((kp_p eσ45).trans ((kp_i eσ41 (by decide)).trans ((kp_p eσ35).trans ((kp_i eσ31 (by decide)).trans ((kp_p eσ25).trans ((kp_i eσ21 (by decide)).trans ((kp_p eσ15).trans ((kp_i eσ11 (by decide)).trans (kp_s eσ1)))))))))); have : (σ45.1 655 a0).toInt = (v40 : Int32).toInt := congrArg Int32.toInt (show σ45.1 655 a0 = v40 from ((kp_p eσ45).trans (kp_s eσ41))); have : (v3 : Int32).toInt ≤ (80 : Int32).toInt := iv_le.mp c4; have : (0 : Int32).toInt ≤ (3 : Int32).toInt := iv_le.mp (iv_nlt c7); have : (0 : Int32).toInt ≤ (2 : Int32).toInt := iv_le.mp (iv_nlt c17); have : (0 : Int32).toInt ≤ (1 : Int32).toInt := iv_le.mp (iv_nlt c27); have : (0 : Int32).toInt ≤ (0 : Int32).toInt := iv_le.mp (iv_nlt c37); have : ((-1) : Int32).toInt < (0 : Int32).toInt := iv_lt.mp c47; have : ((-1) : Int32).toInt = (-1) := (by decide); have : (0 : Int32).toInt = 0 := (by decide); have : (1 : Int32).toInt = 1 := (by decide); have : (2 : Int32).toInt = 2 := (by decide); have : (3 : Int32).toInt = 3 := (by decide); have : (80 : Int32).toInt = 80 := (by decide); omega)) (tb_r a1 v12 24 (by rw [e12]; decide) (by rw [e12]; decide) (by decide) e13 e14) (tb_r a1 v22 16 (by rw [e22]; decide) (by rw [e22]; decide) (by decide) e23 e24) (tb_r a1 v32 8 (by rw [e32]; decide) (by rw [e32]; decide) (by decide) e33 e34) (tb_r a1 v42 0 (by rw [e42]; decide) (by rw [e42]; decide) (by decide) e43 e44))⟩
            · --
              exact iv_no (iv_le1 (b' := (-1)) (iv_nlt c47) (⟨by decide, by decide⟩ : Iv 0 0 0) (⟨by decide, by decide⟩ : Iv (-1) (-1) (-1)) (by decide)) (by decide)
  · --
    have i49 : Iv v3 81 84 := iv_lt2 (iv_nle c4) (⟨by decide, by decide⟩ : Iv 80 80 80) i3 (by decide)
    have i50 : Iv (σ.1 655 a0) 77 80 := iv_lin x3 i49 iz655 (by decide)
    refine lv_iconst (v := (-1)) hx hb dX11_sign_16 (by decide) ?_
    rw [← hQ]
    exact o_ri cx rx hw dX11_sign_17 ⟨fr, (iv_w (⟨by decide, by decide⟩ : Iv (-1) (-1) (-1)) (by decide)), (by exact (by have := (i50).1; have := (i50).2; have := (i49).1; have := (i49).2; have : (σ1.1 655 a0).toInt = ((σ.1 655 a0) : Int32).toInt := congrArg Int32.toInt (show σ1.1 655 a0 = (σ.1 655 a0) from ((kp_i eσ1 (by decide)).trans rfl)); have : (σ1.1 658 a0).toInt = (0 : Int32).toInt := congrArg Int32.toInt (show σ1.1 658 a0 = 0 from (kp_s eσ1)); have : (80 : Int32).toInt < (v3 : Int32).toInt := iv_lt.mp (iv_nle c4); have : ((-1) : Int32).toInt = (-1) := (by decide); have : (0 : Int32).toInt = 0 := (by decide); have : (80 : Int32).toInt = 80 := (by decide); omega)), (by exact Or.inl ⟨(by have := (i50).1; have := (i50).2; have := (i49).1; have := (i49).2; have : (σ1.1 655 a0).toInt = ((σ.1 655 a0) : Int32).toInt := congrArg Int32.toInt (show σ1.1 655 a0 = (σ.1 655 a0) from ((kp_i eσ1 (by decide)).trans rfl)); have : (σ1.1 658 a0).toInt = (0 : Int32).toInt := congrArg Int32.toInt (show σ1.1 658 a0 = 0 from (kp_s eσ1)); have : (80 : Int32).toInt < (v3 : Int32).toInt := iv_lt.mp (iv_nle c4); have : ((-1) : Int32).toInt = (-1) := (by decide); have : (0 : Int32).toInt = 0 := (by decide); have : (80 : Int32).toInt = 80 := (by decide); omega), by rw [oRw_s (((kr_i eσ1).trans hF654)), oRw_s hF654]; exact ((rw_i eσ1).trans rfl)⟩)⟩
abbrev fs_X11_end : List Nat := [655, 658]
abbrev ts_X11_end : List Nat := []
set_option maxHeartbeats 4000000 in
set_option maxRecDepth 100000 in
theorem c_X11_end (a0 : Nat) (ha0 : oA L τ a0 10) (a1 : Int32) : oMet l A L τ cy D K yX11_end cX11_end 2 (some .boolean) 1 22 [.ref a0, .int a1] σ (va_Qi (fun r σ1 => oFr τ fs_X11_end ts_X11_end σ σ1 ∧ Iv r 0 1 ∧ ((0 ≤ a1.toInt ∧ a1.toInt ≤ (σ.1 655 a0).toInt ∧ r.toInt = 1 ∧ (σ1.1 655 a0).toInt = a1.toInt) ∨ ((a1.toInt < 0 ∨ (σ.1 655 a0).toInt < a1.toInt) ∧ r.toInt = 0 ∧ (σ1.1 655 a0).toInt = (σ.1 655 a0).toInt))) (oPo A L τ cy D) A) := by
  refine oMk (by decide) (Nat.le_of_ble_eq_true rfl) rfl ?_
  intro p e s m args below meth c ls cx rx hA hw hl
  generalize hQ : MQ below _ args s 0 0 A = Q
  have hx := cx.1.1
  have hb := cx.1.2.1
  have hml := cx.1.2.2.1
  have hown := cx.1.2.2.2.1
  have hts := cx.1.2.2.2.2
  have hl : lv_has ls 2 [(0, .ref a0), (1, .int a1)] := hl
  have fr : oFr τ fs_X11_end ts_X11_end σ σ := oFr_rf
  have iz655 : Iv (σ.1 655 a0) (0) 80 := o_fb (j := 655) hw ha0 rfl
  refine lv_aload_n hx hb dX11_end_0 rfl (lv_at hl 0 rfl) ?_
  refine lv_iconst (v := 0) hx hb dX11_end_1 (by decide) ?_
  refine p_658 cx hw ha0 k_f_X11_89 dX11_end_2 (fun σ1 H locs eσ1 hw => ?_)
  have fr := oFr_i fr eσ1 (by decide)
  refine lv_iload_n hx hb dX11_end_5 rfl (lv_at hl 1 rfl) ?_
  refine lv_iconst (v := 0) hx hb dX11_end_6 (by decide) ?_
  refine lv_aload_n hx hb dX11_end_7 rfl (lv_at hl 0 rfl) ?_
  refine g_655 cx hw ha0 k_f_X11_108 dX11_end_8 (fun v2 e2 i2 => ?_)
  rw [show v2 = (σ.1 655 a0) from e2.trans ((kp_i eσ1 (by decide)).trans rfl)]
  refine o_ci hw (oRunS cx hA hw q_X11_in k_m_X11_95 (As := [.int a1, .int 0, .int (σ.1 655 a0)]) (c_X11_in a1 0 (σ.1 655 a0)) (by decide) rfl hl.1 rfl (Nat.le_of_ble_eq_true rfl) dX11_end_11 (by decide)) (fun v4 σ3 H locs hp hw => ?_)
  obtain ⟨p4_0, p4_1, p4_2, p4_3, p4_4⟩ := hp
  rw [p4_0] at hw
  refine lv_if_ne (tgt := 19) hx hb dX11_end_14 (by decide) (fun c5 => ?_) (fun c5 => ?_)
  · --
    have i6 : Iv v4 1 1 := iv_ne1 c5 p4_1 (⟨by decide, by decide⟩ : Iv 0 0 0) (by decide)
    have l7 : a1.toInt ≤ (σ.1 655 a0).toInt + 0 := le_of (p4_2 c5).2
    have i8 : Iv a1 0 80 := (fun h => iv_rel (p4_2 h) (⟨by decide, by decide⟩ : Iv 0 0 0) iz655) c5
    refine lv_aload_n hx hb dX11_end_19 rfl (lv_at hl 0 rfl) ?_
    refine lv_iload_n hx hb dX11_end_20 rfl (lv_at hl 1 rfl) ?_
    refine p_655 cx hw ha0 (iv_w i8 (by decide)) k_f_X11_108 dX11_end_21 (fun σ9 H locs eσ9 hw => ?_)
    have fr := oFr_i fr eσ9 (by decide)
    refine lv_iconst (v := 1) hx hb dX11_end_24 (by decide) ?_
    rw [← hQ]
    exact o_rz cx rx hw (iv_nz01 (iv_w (⟨by decide, by decide⟩ : Iv 1 1 1) (by decide))) dX11_end_25 ⟨fr, (iv_w (⟨by decide, by decide⟩ : Iv 1 1 1) (by decide)), (by exact (by have := (i8).1; have := (i8).2; have := (iz655).1; have := (iz655).2; have := (i6).1; have := (i6).2; have : (σ9.1 658 a0).toInt = (0 : Int32).toInt := congrArg Int32.toInt (show σ9.1 658 a0 = 0 from ((kp_i eσ9 (by decide)).trans (kp_s eσ1))); have : (σ9.1 655 a0).toInt = (a1 : Int32).toInt := congrArg Int32.toInt (show σ9.1 655 a0 = a1 from (kp_s eσ9)); have : (0 : Int32).toInt = 0 := (by decide); have : (1 : Int32).toInt = 1 := (by decide); omega))⟩
  · --
    have i10 : Iv v4 0 0 := iv_eq1 c5 p4_1 (⟨by decide, by decide⟩ : Iv 0 0 0) (by decide)
    refine lv_iconst (v := 0) hx hb dX11_end_17 (by decide) ?_
    rw [← hQ]
    exact o_rz cx rx hw (iv_nz01 (iv_w (⟨by decide, by decide⟩ : Iv 0 0 0) (by decide))) dX11_end_18 ⟨fr, (iv_w (⟨by decide, by decide⟩ : Iv 0 0 0) (by decide)), (by exact (by have := (iz655).1; have := (iz655).2; have := (i10).1; have := (i10).2; have : (σ1.1 655 a0).toInt = ((σ.1 655 a0) : Int32).toInt := congrArg Int32.toInt (show σ1.1 655 a0 = (σ.1 655 a0) from ((kp_i eσ1 (by decide)).trans rfl)); have : (σ1.1 658 a0).toInt = (0 : Int32).toInt := congrArg Int32.toInt (show σ1.1 658 a0 = 0 from (kp_s eσ1)); have : (v4 : Int32).toInt = (0 : Int32).toInt := congrArg Int32.toInt c5; have : (0 : Int32).toInt = 0 := (by decide); omega))⟩
abbrev fs_X11_herds : List Nat := [655, 658, 659, 660, 661, 662, 663]
abbrev ts_X11_herds : List Nat := []
set_option maxHeartbeats 4000000 in
set_option maxRecDepth 100000 in
theorem c_X11_herds (a0 : Nat) (ha0 : oA L τ a0 10) (hf655 : Iv (σ.1 655 a0) 0 0) : oMet l A L τ cy D K yX11_herds cX11_herds 4 (some .int) 1 23 [.ref a0] σ (va_Qi (fun r σ1 => oFr τ fs_X11_herds ts_X11_herds σ σ1 ∧ Iv r 0 0) (oPo A L τ cy D) A) := by
  refine oMk (by decide) (Nat.le_of_ble_eq_true rfl) rfl ?_
  intro p e s m args below meth c ls cx rx hA hw hl
  generalize hQ : MQ below _ args s 0 0 A = Q
  have hx := cx.1.1
  have hb := cx.1.2.1
  have hml := cx.1.2.2.1
  have hown := cx.1.2.2.2.1
  have hts := cx.1.2.2.2.2
  have hl : lv_has ls 4 [(0, .ref a0)] := hl
  have fr : oFr τ fs_X11_herds ts_X11_herds σ σ := oFr_rf
  refine lv_aload_n hx hb dX11_herds_0 rfl (lv_at hl 0 rfl) ?_
  refine lv_iconst (v := 0) hx hb dX11_herds_1 (by decide) ?_
  refine p_658 cx hw ha0 k_f_X11_89 dX11_herds_2 (fun σ1 H locs eσ1 hw => ?_)
  have fr := oFr_i fr eσ1 (by decide)
  refine lv_aload_n hx hb dX11_herds_5 rfl (lv_at hl 0 rfl) ?_
  refine lv_aload_n hx hb dX11_herds_6 rfl (lv_at hl 0 rfl) ?_
  refine g_654 cx hw ha0 k_f_X11_32 dX11_herds_7 (fun v2 e2 h2 => ?_)
  refine lv_aload_n hx hb dX11_herds_10 rfl (lv_at hl 0 rfl) ?_
  refine g_655 cx hw ha0 k_f_X11_108 dX11_herds_11 (fun v3 e3 i3 => ?_)
  rw [show v3 = (σ.1 655 a0) from e3.trans ((kp_i eσ1 (by decide)).trans rfl)]
  refine lv_bipush (v := 76) hx hb dX11_herds_14 (by decide) ?_
  have i4 : Iv (σ1.1 660 a0) 0 0 := o_fb (j := 660) hw ha0 rfl
  have i5 : Iv (σ1.1 661 a0) 0 80 := o_fb (j := 661) hw ha0 rfl
  refine o_cv hw (oRunV cx hA hw q_X11_begin k_m_X11_142 rfl ha0 (by decide) (As := [.ref v2, .int (σ.1 655 a0), .int 76]) (c_X11_beginT a0 ha0 v2 h2 (σ.1 655 a0) (iv_w hf655 (by decide)) 76 (iv_w (⟨by decide, by decide⟩ : Iv 76 76 76) (by decide))) (by decide) rfl hl.1 rfl (Nat.le_of_ble_eq_true rfl) dX11_herds_16 (by decide)) (fun σ6 H locs hp hw => ?_)
  obtain ⟨p7_0, p7_1, p7_2, p7_3, p7_4, p7_5, p7_6⟩ := hp
  have fr := oFr_tr fr p7_0 (by decide)
  refine lv_aload_n hx hb dX11_herds_19 rfl (lv_at hl 0 rfl) ?_
  refine lv_iconst (v := 0) hx hb dX11_herds_20 (by decide) ?_
  refine p_655 cx hw ha0 (iv_w (⟨by decide, by decide⟩ : Iv 0 0 0) (by decide)) k_f_X11_108 dX11_herds_21 (fun σ8 H locs eσ8 hw => ?_)
  have fr := oFr_i fr eσ8 (by decide)
  refine lv_aload_n hx hb dX11_herds_24 rfl (lv_at hl 0 rfl) ?_
  refine g_660 cx hw ha0 k_f_X11_114 dX11_herds_25 (fun v9 e9 i9 => ?_)
  rw [show v9 = (σ6.1 660 a0) from e9.trans ((kp_i eσ8 (by decide)).trans rfl)]
  refine lv_if_ne (tgt := 33) hx hb dX11_herds_28 (by decide) (fun c10 => ?_) (fun c10 => ?_)
  · --
    exact iv_no (iv_ne1 c10 p7_2 (⟨by decide, by decide⟩ : Iv 0 0 0) (by decide)) (by decide)
  · --
    refine lv_iconst (v := 0) hx hb dX11_herds_31 (by decide) ?_
    rw [← hQ]
    exact o_ri cx rx hw dX11_herds_32 ⟨fr, (iv_w (⟨by decide, by decide⟩ : Iv 0 0 0) (by decide))⟩
abbrev fs_X11_rule : List Nat := [655, 658, 659, 660, 661, 662, 663, 668, 669]
abbrev ts_X11_rule : List Nat := []
set_option maxHeartbeats 4000000 in
set_option maxRecDepth 100000 in
theorem c_X11_rule (a0 : Nat) (ha0 : oA L τ a0 10) (hf655 : Iv (σ.1 655 a0) 0 0) : oMet l A L τ cy D K yX11_rule cX11_rule 3 (some .int) 1 23 [.ref a0] σ (va_Qi (fun r σ1 => oFr τ fs_X11_rule ts_X11_rule σ σ1 ∧ Iv r 0 0) (oPo A L τ cy D) A) := by
  refine oMk (by decide) (Nat.le_of_ble_eq_true rfl) rfl ?_
  intro p e s m args below meth c ls cx rx hA hw hl
  generalize hQ : MQ below _ args s 0 0 A = Q
  have hx := cx.1.1
  have hb := cx.1.2.1
  have hml := cx.1.2.2.1
  have hown := cx.1.2.2.2.1
  have hts := cx.1.2.2.2.2
  have hl : lv_has ls 3 [(0, .ref a0)] := hl
  have fr : oFr τ fs_X11_rule ts_X11_rule σ σ := oFr_rf
  refine lv_aload_n hx hb dX11_rule_0 rfl (lv_at hl 0 rfl) ?_
  refine lv_iconst (v := 0) hx hb dX11_rule_1 (by decide) ?_
  refine p_658 cx hw ha0 k_f_X11_89 dX11_rule_2 (fun σ1 H locs eσ1 hw => ?_)
  have fr := oFr_i fr eσ1 (by decide)
  refine lv_aload_n hx hb dX11_rule_5 rfl (lv_at hl 0 rfl) ?_
  refine g_655 cx hw ha0 k_f_X11_108 dX11_rule_6 (fun v2 e2 i2 => ?_)
  rw [show v2 = (σ.1 655 a0) from e2.trans ((kp_i eσ1 (by decide)).trans rfl)]
  refine lv_istore_n (lv' := [(1, .int (σ.1 655 a0)), (0, .ref a0)]) hx hb dX11_rule_9 rfl hl (by decide) rfl (fun ls hl => ?_)
  refine lv_aload_n hx hb dX11_rule_10 rfl (lv_at hl 1 rfl) ?_
  refine lv_aload_n hx hb dX11_rule_11 rfl (lv_at hl 1 rfl) ?_
  refine g_654 cx hw ha0 k_f_X11_32 dX11_rule_12 (fun v3 e3 h3 => ?_)
  refine lv_iload_n hx hb dX11_rule_15 rfl (lv_at hl 0 rfl) ?_
  refine lv_bipush (v := 40) hx hb dX11_rule_16 (by decide) ?_
  have i4 : Iv (σ1.1 660 a0) 0 0 := o_fb (j := 660) hw ha0 rfl
  have i5 : Iv (σ1.1 661 a0) 0 80 := o_fb (j := 661) hw ha0 rfl
  refine o_cv hw (oRunV cx hA hw q_X11_begin k_m_X11_142 rfl ha0 (by decide) (As := [.ref v3, .int (σ.1 655 a0), .int 40]) (c_X11_beginT a0 ha0 v3 h3 (σ.1 655 a0) (iv_w hf655 (by decide)) 40 (iv_w (⟨by decide, by decide⟩ : Iv 40 40 40) (by decide))) (by decide) rfl hl.1 rfl (Nat.le_of_ble_eq_true rfl) dX11_rule_18 (by decide)) (fun σ6 H locs hp hw => ?_)
  obtain ⟨p7_0, p7_1, p7_2, p7_3, p7_4, p7_5, p7_6⟩ := hp
  have fr := oFr_tr fr p7_0 (by decide)
  refine lv_aload_n hx hb dX11_rule_21 rfl (lv_at hl 1 rfl) ?_
  refine lv_iconst (v := 0) hx hb dX11_rule_22 (by decide) ?_
  refine p_655 cx hw ha0 (iv_w (⟨by decide, by decide⟩ : Iv 0 0 0) (by decide)) k_f_X11_108 dX11_rule_23 (fun σ8 H locs eσ8 hw => ?_)
  have fr := oFr_i fr eσ8 (by decide)
  refine lv_aload_n hx hb dX11_rule_26 rfl (lv_at hl 1 rfl) ?_
  refine lv_iconst (v := 0) hx hb dX11_rule_27 (by decide) ?_
  refine p_669 cx hw ha0 (iv_w (⟨by decide, by decide⟩ : Iv 0 0 0) (by decide)) k_f_X11_205 dX11_rule_28 (fun σ9 H locs eσ9 hw => ?_)
  have fr := oFr_i fr eσ9 (by decide)
  refine lv_iload_n hx hb dX11_rule_31 rfl (lv_at hl 0 rfl) ?_
  have J_71 : ∀ (H : Heap) (locs : List Loc), oI A L τ cy D s.heap σ9 H locs → ∀ (ls : Array Slot), lv_has ls 3 [(0, .ref a0), (1, .int (σ.1 655 a0))] → W p l e ({ frames := 1, cells := 0, slots := 0, locals := 23 } : Room) s m args below meth c H locs 0 0 Q (F0 m 71 ls []) := by
    intro  H locs hw     ls hl
    refine lv_iconst (v := 0) hx hb dX11_rule_71 (by decide) ?_
    refine lv_istore_n (lv' := [(2, .int 0), (0, .ref a0), (1, .int (σ.1 655 a0))]) hx hb dX11_rule_72 rfl hl (by decide) rfl (fun ls hl => ?_)
    have J_73 : ∀ n73 : Nat, ∀ (H : Heap) (locs : List Loc), oI A L τ cy D s.heap σ9 H locs → 0 < n73 → ∀ (ls : Array Slot), lv_has ls 3 [(0, .ref a0), (1, .int (σ.1 655 a0)), (2, .int 0)] → W p l e ({ frames := 1, cells := 0, slots := 0, locals := 23 } : Room) s m args below meth c H locs 0 0 Q (F0 m 73 ls []) := by
      intro n73
      induction n73 with
      | zero => intro  H locs hw  hn_73   ls hl; exact absurd hn_73 (Nat.not_lt_zero _)
      | succ n73 ih_73 =>
        intro  H locs hw  hn_73   ls hl
        refine lv_iload_n hx hb dX11_rule_73 rfl (lv_at hl 2 rfl) ?_
        refine lv_iload_n hx hb dX11_rule_74 rfl (lv_at hl 1 rfl) ?_
        refine lv_icmp_ge (tgt := 96) hx hb dX11_rule_75 (by decide) (fun c10 => ?_) (fun c10 => ?_)
        · --
          refine lv_aload_n hx hb dX11_rule_96 rfl (lv_at hl 0 rfl) ?_
          refine lv_iload_n hx hb dX11_rule_97 rfl (lv_at hl 1 rfl) ?_
          refine p_668 cx hw ha0 (iv_w hf655 (by decide)) k_f_X11_208 dX11_rule_98 (fun σ11 H locs eσ11 hw => ?_)
          have fr := oFr_i fr eσ11 (by decide)
          refine lv_iconst (v := 0) hx hb dX11_rule_101 (by decide) ?_
          rw [← hQ]
          exact o_ri cx rx hw dX11_rule_102 ⟨fr, (iv_w (⟨by decide, by decide⟩ : Iv 0 0 0) (by decide))⟩
        · --
          exact iv_no (iv_lt1 (b' := (-1)) (iv_nle c10) (⟨by decide, by decide⟩ : Iv 0 0 0) hf655 (by decide)) (by decide)
    exact J_73 _ _ _ hw (Nat.lt_succ_self _) _ (lv_sub hl [1, 2, 0] rfl)
  refine lv_if_le (tgt := 71) hx hb dX11_rule_32 (by decide) (fun c12 => ?_) (fun c12 => ?_)
  · --
    exact J_71 _ _ hw _ (lv_sub hl [1, 0] rfl)
  · --
    exact iv_no (iv_lt1 (b' := (-1)) (iv_nle c12) (⟨by decide, by decide⟩ : Iv 0 0 0) hf655 (by decide)) (by decide)
abbrev fs_X11_cell : List Nat := [658]
abbrev ts_X11_cell : List Nat := []
set_option maxHeartbeats 4000000 in
set_option maxRecDepth 100000 in
theorem c_X11_cell (a0 : Nat) (ha0 : oA L τ a0 10) (a1 : Int32) (a2 : Int32) : oMet l A L τ cy D K yX11_cell cX11_cell 3 (some .int) 2 43 [.ref a0, .int a1, .int a2] σ (va_Qi (fun r σ1 => oFr τ fs_X11_cell ts_X11_cell σ σ1 ∧ Iv r 0 0 ∧ Iv (σ1.1 658 a0) 1 1) (oPo A L τ cy D) A) := by
  refine oMk (by decide) (Nat.le_of_ble_eq_true rfl) rfl ?_
  intro p e s m args below meth c ls cx rx hA hw hl
  generalize hQ : MQ below _ args s 0 0 A = Q
  have hx := cx.1.1
  have hb := cx.1.2.1
  have hml := cx.1.2.2.1
  have hown := cx.1.2.2.2.1
  have hts := cx.1.2.2.2.2
  have hl : lv_has ls 3 [(0, .ref a0), (1, .int a1), (2, .int a2)] := hl
  have fr : oFr τ fs_X11_cell ts_X11_cell σ σ := oFr_rf
  refine lv_aload_n hx hb dX11_cell_0 rfl (lv_at hl 0 rfl) ?_
  refine lv_iconst (v := 0) hx hb dX11_cell_1 (by decide) ?_
  refine p_658 cx hw ha0 k_f_X11_89 dX11_cell_2 (fun σ1 H locs eσ1 hw => ?_)
  have fr := oFr_i fr eσ1 (by decide)
  refine lv_aload_n hx hb dX11_cell_5 rfl (lv_at hl 0 rfl) ?_
  refine lv_iload_n hx hb dX11_cell_6 rfl (lv_at hl 1 rfl) ?_
  have i2 : Iv (σ1.1 641 a0) 0 0 := o_fb (j := 641) hw ha0 rfl
  have i3 : Iv (σ1.1 642 a0) 0 0 := o_fb (j := 642) hw ha0 rfl
  refine o_ci hw (oRunV cx hA hw q_X11_isCell k_m_X11_157 rfl ha0 (by decide) (As := [.int a1]) (c_X11_isCell a0 ha0 a1) (by decide) rfl hl.1 rfl (Nat.le_of_ble_eq_true rfl) dX11_cell_7 (by decide)) (fun v5 σ4 H locs hp hw => ?_)
  obtain ⟨p5_0, p5_1, p5_2, p5_3⟩ := hp
  rw [p5_0] at hw
  have J_23 : ∀ (H : Heap) (locs : List Loc), oI A L τ cy D s.heap σ1 H locs → ∀ (ls : Array Slot), lv_has ls 3 [(0, .ref a0), (1, .int a1), (2, .int a2)] → W p l e ({ frames := 2, cells := 0, slots := 0, locals := 43 } : Room) s m args below meth c H locs 0 0 Q (F0 m 23 ls []) := by
    intro  H locs hw     ls hl
    refine lv_aload_n hx hb dX11_cell_23 rfl (lv_at hl 0 rfl) ?_
    refine o_ci hw (oRunV cx hA hw q_X11_lost k_m_X11_230 rfl ha0 (by decide) (As := []) (c_X11_lost a0 ha0) (by decide) rfl hl.1 rfl (Nat.le_of_ble_eq_true rfl) dX11_cell_24 (by decide)) (fun v7 σ6 H locs hp hw => ?_)
    obtain ⟨p7_0, p7_1, p7_2⟩ := hp
    have fr := oFr_tr fr p7_0 (by decide)
    rw [← hQ]
    exact o_ri cx rx hw dX11_cell_27 ⟨fr, (iv_w p7_1 (by decide)), (kn_iv (rfl) (iv_w p7_2 (by decide)))⟩
  refine lv_if_eq (tgt := 23) hx hb dX11_cell_10 (by decide) (fun c8 => ?_) (fun c8 => ?_)
  · --
    exact J_23 _ _ hw _ (lv_sub hl [0, 1, 2] rfl)
  · --
    exact iv_no (iv_ne1 c8 p5_1 (⟨by decide, by decide⟩ : Iv 0 0 0) (by decide)) (by decide)
abbrev fs_X11_herd : List Nat := [658]
abbrev ts_X11_herd : List Nat := []
set_option maxHeartbeats 4000000 in
set_option maxRecDepth 100000 in
theorem c_X11_herd (a0 : Nat) (ha0 : oA L τ a0 10) (a1 : Int32) (a2 : Int32) : oMet l A L τ cy D K yX11_herd cX11_herd 3 (some .int) 2 43 [.ref a0, .int a1, .int a2] σ (va_Qi (fun r σ1 => oFr τ fs_X11_herd ts_X11_herd σ σ1 ∧ Iv r 0 0 ∧ Iv (σ1.1 658 a0) 1 1) (oPo A L τ cy D) A) := by
  refine oMk (by decide) (Nat.le_of_ble_eq_true rfl) rfl ?_
  intro p e s m args below meth c ls cx rx hA hw hl
  generalize hQ : MQ below _ args s 0 0 A = Q
  have hx := cx.1.1
  have hb := cx.1.2.1
  have hml := cx.1.2.2.1
  have hown := cx.1.2.2.2.1
  have hts := cx.1.2.2.2.2
  have hl : lv_has ls 3 [(0, .ref a0), (1, .int a1), (2, .int a2)] := hl
  have fr : oFr τ fs_X11_herd ts_X11_herd σ σ := oFr_rf
  refine lv_aload_n hx hb dX11_herd_0 rfl (lv_at hl 0 rfl) ?_
  refine lv_iconst (v := 0) hx hb dX11_herd_1 (by decide) ?_
  refine p_658 cx hw ha0 k_f_X11_89 dX11_herd_2 (fun σ1 H locs eσ1 hw => ?_)
  have fr := oFr_i fr eσ1 (by decide)
  refine lv_aload_n hx hb dX11_herd_5 rfl (lv_at hl 0 rfl) ?_
  refine lv_iload_n hx hb dX11_herd_6 rfl (lv_at hl 1 rfl) ?_
  refine o_ci hw (oRunV cx hA hw q_X11_isHerd k_m_X11_237 rfl ha0 (by decide) (As := [.int a1]) (c_X11_isHerd a0 ha0 a1) (by decide) rfl hl.1 rfl (Nat.le_of_ble_eq_true rfl) dX11_herd_7 (by decide)) (fun v3 σ2 H locs hp hw => ?_)
  obtain ⟨p3_0, p3_1, p3_2⟩ := hp
  rw [p3_0] at hw
  have J_22 : ∀ (H : Heap) (locs : List Loc), oI A L τ cy D s.heap σ1 H locs → ∀ (ls : Array Slot), lv_has ls 3 [(0, .ref a0), (1, .int a1), (2, .int a2)] → W p l e ({ frames := 2, cells := 0, slots := 0, locals := 43 } : Room) s m args below meth c H locs 0 0 Q (F0 m 22 ls []) := by
    intro  H locs hw     ls hl
    refine lv_aload_n hx hb dX11_herd_22 rfl (lv_at hl 0 rfl) ?_
    refine o_ci hw (oRunV cx hA hw q_X11_lost k_m_X11_230 rfl ha0 (by decide) (As := []) (c_X11_lost a0 ha0) (by decide) rfl hl.1 rfl (Nat.le_of_ble_eq_true rfl) dX11_herd_23 (by decide)) (fun v5 σ4 H locs hp hw => ?_)
    obtain ⟨p5_0, p5_1, p5_2⟩ := hp
    have fr := oFr_tr fr p5_0 (by decide)
    rw [← hQ]
    exact o_ri cx rx hw dX11_herd_26 ⟨fr, (iv_w p5_1 (by decide)), (kn_iv (rfl) (iv_w p5_2 (by decide)))⟩
  refine lv_if_eq (tgt := 22) hx hb dX11_herd_10 (by decide) (fun c6 => ?_) (fun c6 => ?_)
  · --
    exact J_22 _ _ hw _ (lv_sub hl [0, 1, 2] rfl)
  · --
    exact iv_no (iv_ne1 c6 p3_1 (⟨by decide, by decide⟩ : Iv 0 0 0) (by decide)) (by decide)
abbrev fs_X11_set : List Nat := [650, 651, 658]
abbrev ts_X11_set : List Nat := []
set_option maxHeartbeats 4000000 in
set_option maxRecDepth 100000 in
theorem c_X11_set (a0 : Nat) (ha0 : oA L τ a0 10) (a1 : Int32) (a2 : Int32) : oMet l A L τ cy D K yX11_set cX11_set 4 (some .int) 1 22 [.ref a0, .int a1, .int a2] σ (va_Qi (fun r σ1 => oFr τ fs_X11_set ts_X11_set σ σ1 ∧ ((a1.toInt = 0 ∧ 0 ≤ a2.toInt ∧ a2.toInt ≤ 99 ∧ r.toInt = (σ.1 650 a0).toInt ∧ (σ1.1 650 a0).toInt = a2.toInt ∧ (σ1.1 651 a0).toInt = (σ.1 651 a0).toInt) ∨ (a1.toInt = 1 ∧ 1 ≤ a2.toInt ∧ a2.toInt ≤ 99 ∧ r.toInt = (σ.1 651 a0).toInt ∧ (σ1.1 651 a0).toInt = a2.toInt ∧ (σ1.1 650 a0).toInt = (σ.1 650 a0).toInt) ∨ (¬ (a1.toInt = 0 ∧ 0 ≤ a2.toInt ∧ a2.toInt ≤ 99) ∧ ¬ (a1.toInt = 1 ∧ 1 ≤ a2.toInt ∧ a2.toInt ≤ 99) ∧ r.toInt = -1 ∧ (σ1.1 650 a0).toInt = (σ.1 650 a0).toInt ∧ (σ1.1 651 a0).toInt = (σ.1 651 a0).toInt))) (oPo A L τ cy D) A) := by
  refine oMk (by decide) (Nat.le_of_ble_eq_true rfl) rfl ?_
  intro p e s m args below meth c ls cx rx hA hw hl
  generalize hQ : MQ below _ args s 0 0 A = Q
  have hx := cx.1.1
  have hb := cx.1.2.1
  have hml := cx.1.2.2.1
  have hown := cx.1.2.2.2.1
  have hts := cx.1.2.2.2.2
  have hl : lv_has ls 4 [(0, .ref a0), (1, .int a1), (2, .int a2)] := hl
  have fr : oFr τ fs_X11_set ts_X11_set σ σ := oFr_rf
  have iz651 : Iv (σ.1 651 a0) (1) 99 := o_fb (j := 651) hw ha0 rfl
  refine lv_aload_n hx hb dX11_set_0 rfl (lv_at hl 0 rfl) ?_
  refine lv_iconst (v := 0) hx hb dX11_set_1 (by decide) ?_
  refine p_658 cx hw ha0 k_f_X11_89 dX11_set_2 (fun σ1 H locs eσ1 hw => ?_)
  have fr := oFr_i fr eσ1 (by decide)
  refine lv_iload_n hx hb dX11_set_5 rfl (lv_at hl 1 rfl) ?_
  refine lv_iconst (v := 0) hx hb dX11_set_6 (by decide) ?_
  refine lv_iconst (v := 1) hx hb dX11_set_7 (by decide) ?_
  refine o_ci hw (oRunS cx hA hw q_X11_in k_m_X11_95 (As := [.int a1, .int 0, .int 1]) (c_X11_in a1 0 1) (by decide) rfl hl.1 rfl (Nat.le_of_ble_eq_true rfl) dX11_set_8 (by decide)) (fun v3 σ2 H locs hp hw => ?_)
  obtain ⟨p3_0, p3_1, p3_2, p3_3, p3_4⟩ := hp
  rw [p3_0] at hw
  refine lv_if_eq (tgt := 24) hx hb dX11_set_11 (by decide) (fun c4 => ?_) (fun c4 => ?_)
  · --
    have i5 : Iv v3 0 0 := iv_eq1 c4 p3_1 (⟨by decide, by decide⟩ : Iv 0 0 0) (by decide)
    refine lv_iconst (v := (-1)) hx hb dX11_set_24 (by decide) ?_
    rw [← hQ]
    exact o_ri cx rx hw dX11_set_25 ⟨fr, (by exact (by have := (iz651).1; have := (iz651).2; have := (i5).1; have := (i5).2; have : (σ1.1 650 a0).toInt = ((σ.1 650 a0) : Int32).toInt := congrArg Int32.toInt (show σ1.1 650 a0 = (σ.1 650 a0) from ((kp_i eσ1 (by decide)).trans rfl)); have : (σ1.1 651 a0).toInt = ((σ.1 651 a0) : Int32).toInt := congrArg Int32.toInt (show σ1.1 651 a0 = (σ.1 651 a0) from ((kp_i eσ1 (by decide)).trans rfl)); have : (σ1.1 658 a0).toInt = (0 : Int32).toInt := congrArg Int32.toInt (show σ1.1 658 a0 = 0 from (kp_s eσ1)); have : (v3 : Int32).toInt = (0 : Int32).toInt := congrArg Int32.toInt c4; have : ((-1) : Int32).toInt = (-1) := (by decide); have : (0 : Int32).toInt = 0 := (by decide); have : (1 : Int32).toInt = 1 := (by decide); omega))⟩
  · --
    have i6 : Iv v3 1 1 := iv_ne1 c4 p3_1 (⟨by decide, by decide⟩ : Iv 0 0 0) (by decide)
    have i7 : Iv a1 0 1 := (fun h => iv_rel (p3_2 h) (⟨by decide, by decide⟩ : Iv 0 0 0) (⟨by decide, by decide⟩ : Iv 1 1 1)) c4
    refine lv_iload_n hx hb dX11_set_14 rfl (lv_at hl 2 rfl) ?_
    refine lv_iload_n hx hb dX11_set_15 rfl (lv_at hl 1 rfl) ?_
    refine lv_bipush (v := 99) hx hb dX11_set_16 (by decide) ?_
    refine o_ci hw (oRunS cx hA hw q_X11_in k_m_X11_95 (As := [.int a2, .int a1, .int 99]) (c_X11_in a2 a1 99) (by decide) rfl hl.1 rfl (Nat.le_of_ble_eq_true rfl) dX11_set_18 (by decide)) (fun v9 σ8 H locs hp hw => ?_)
    obtain ⟨p9_0, p9_1, p9_2, p9_3, p9_4⟩ := hp
    rw [p9_0] at hw
    refine lv_if_ne (tgt := 26) hx hb dX11_set_21 (by decide) (fun c10 => ?_) (fun c10 => ?_)
    · --
      have i11 : Iv v9 1 1 := iv_ne1 c10 p9_1 (⟨by decide, by decide⟩ : Iv 0 0 0) (by decide)
      have l12 : a1.toInt ≤ a2.toInt + 0 := le_of (p9_2 c10).1
      have i13 : Iv a2 0 99 := (fun h => iv_rel (p9_2 h) i7 (⟨by decide, by decide⟩ : Iv 99 99 99)) c10
      refine lv_iload_n hx hb dX11_set_26 rfl (lv_at hl 1 rfl) ?_
      refine lv_if_ne (tgt := 37) hx hb dX11_set_27 (by decide) (fun c14 => ?_) (fun c14 => ?_)
      · --
        have i15 : Iv a1 1 1 := iv_ne1 c14 i7 (⟨by decide, by decide⟩ : Iv 0 0 0) (by decide)
        have i16 : Iv a2 1 99 := iv_lel l12 i15 i13 (by decide)
        refine lv_aload_n hx hb dX11_set_37 rfl (lv_at hl 0 rfl) ?_
        refine g_651 cx hw ha0 k_f_X11_29 dX11_set_38 (fun v17 e17 i17 => ?_)
        rw [show v17 = (σ.1 651 a0) from e17.trans ((kp_i eσ1 (by decide)).trans rfl)]
        refine lv_istore_n (lv' := [(3, .int (σ.1 651 a0)), (0, .ref a0), (1, .int a1), (2, .int a2)]) hx hb dX11_set_41 rfl hl (by decide) rfl (fun ls hl => ?_)
        refine lv_iload_n hx hb dX11_set_42 rfl (lv_at hl 2 rfl) ?_
        refine lv_if_ne (tgt := 54) hx hb dX11_set_43 (by decide) (fun c18 => ?_) (fun c18 => ?_)
        · --
          refine lv_aload_n hx hb dX11_set_54 rfl (lv_at hl 1 rfl) ?_
          refine lv_iload_n hx hb dX11_set_55 rfl (lv_at hl 3 rfl) ?_
          refine p_651 cx hw ha0 (iv_w i16 (by decide)) k_f_X11_29 dX11_set_56 (fun σ19 H locs eσ19 hw => ?_)
          have fr := oFr_i fr eσ19 (by decide)
          refine lv_iload_n hx hb dX11_set_59 rfl (lv_at hl 0 rfl) ?_
          rw [← hQ]
          exact o_ri cx rx hw dX11_set_60 ⟨fr, (by exact (by have := (i15).1; have := (i15).2; have := (i16).1; have := (i16).2; have := (iz651).1; have := (iz651).2; have := (i6).1; have := (i6).2; have := (i11).1; have := (i11).2; have : (σ19.1 650 a0).toInt = ((σ.1 650 a0) : Int32).toInt := congrArg Int32.toInt (show σ19.1 650 a0 = (σ.1 650 a0) from ((kp_i eσ19 (by decide)).trans ((kp_i eσ1 (by decide)).trans rfl))); have : (σ19.1 658 a0).toInt = (0 : Int32).toInt := congrArg Int32.toInt (show σ19.1 658 a0 = 0 from ((kp_i eσ19 (by decide)).trans (kp_s eσ1))); have : (σ19.1 651 a0).toInt = (a2 : Int32).toInt := congrArg Int32.toInt (show σ19.1 651 a0 = a2 from (kp_s eσ19)); have : (0 : Int32).toInt = 0 := (by decide); have : (1 : Int32).toInt = 1 := (by decide); have : (99 : Int32).toInt = 99 := (by decide); omega))⟩
        · --
          exact iv_no (iv_eq1 (lo := 1) (hi := 0) c18 i15 (⟨by decide, by decide⟩ : Iv 0 0 0) (by decide)) (by decide)
      · --
        have i20 : Iv a1 0 0 := iv_eq1 c14 i7 (⟨by decide, by decide⟩ : Iv 0 0 0) (by decide)
        refine lv_aload_n hx hb dX11_set_30 rfl (lv_at hl 0 rfl) ?_
        refine g_650 cx hw ha0 k_f_X11_25 dX11_set_31 (fun v21 e21 => ?_)
        rw [show v21 = (σ.1 650 a0) from e21.trans ((kp_i eσ1 (by decide)).trans rfl)]
        refine lv_goto (tgt := 41) hx hb dX11_set_34 (by decide) ?_
        refine lv_istore_n (lv' := [(3, .int (σ.1 650 a0)), (0, .ref a0), (1, .int a1), (2, .int a2)]) hx hb dX11_set_41 rfl hl (by decide) rfl (fun ls hl => ?_)
        refine lv_iload_n hx hb dX11_set_42 rfl (lv_at hl 2 rfl) ?_
        refine lv_if_ne (tgt := 54) hx hb dX11_set_43 (by decide) (fun c22 => ?_) (fun c22 => ?_)
        · --
          exact iv_no (iv_ne1 c22 i20 (⟨by decide, by decide⟩ : Iv 0 0 0) (by decide)) (by decide)
        · --
          refine lv_aload_n hx hb dX11_set_46 rfl (lv_at hl 1 rfl) ?_
          refine lv_iload_n hx hb dX11_set_47 rfl (lv_at hl 3 rfl) ?_
          refine p_650 cx hw ha0 k_f_X11_25 dX11_set_48 (fun σ23 H locs eσ23 hw => ?_)
          have fr := oFr_i fr eσ23 (by decide)
          refine lv_goto (tgt := 59) hx hb dX11_set_51 (by decide) ?_
          refine lv_iload_n hx hb dX11_set_59 rfl (lv_at hl 0 rfl) ?_
          rw [← hQ]
          exact o_ri cx rx hw dX11_set_60 ⟨fr, (by exact (by have := (i20).1; have := (i20).2; have := (i13).1; have := (i13).2; have := (iz651).1; have := (iz651).2; have := (i6).1; have := (i6).2; have := (i11).1; have := (i11).2; have : (σ23.1 651 a0).toInt = ((σ.1 651 a0) : Int32).toInt := congrArg Int32.toInt (show σ23.1 651 a0 = (σ.1 651 a0) from ((kp_i eσ23 (by decide)).trans ((kp_i eσ1 (by decide)).trans rfl))); have : (σ23.1 658 a0).toInt = (0 : Int32).toInt := congrArg Int32.toInt (show σ23.1 658 a0 = 0 from ((kp_i eσ23 (by decide)).trans (kp_s eσ1))); have : (σ23.1 650 a0).toInt = (a2 : Int32).toInt := congrArg Int32.toInt (show σ23.1 650 a0 = a2 from (kp_s eσ23)); have : (a1 : Int32).toInt = (0 : Int32).toInt := congrArg Int32.toInt c14; have : (a1 : Int32).toInt = (0 : Int32).toInt := congrArg Int32.toInt c22; have : (0 : Int32).toInt = 0 := (by decide); have : (1 : Int32).toInt = 1 := (by decide); have : (99 : Int32).toInt = 99 := (by decide); omega))⟩
    · --
      have i24 : Iv v9 0 0 := iv_eq1 c10 p9_1 (⟨by decide, by decide⟩ : Iv 0 0 0) (by decide)
      refine lv_iconst (v := (-1)) hx hb dX11_set_24 (by decide) ?_
      rw [← hQ]
      exact o_ri cx rx hw dX11_set_25 ⟨fr, (by exact (by have := (i7).1; have := (i7).2; have := (iz651).1; have := (iz651).2; have := (i6).1; have := (i6).2; have := (i24).1; have := (i24).2; have : (σ1.1 650 a0).toInt = ((σ.1 650 a0) : Int32).toInt := congrArg Int32.toInt (show σ1.1 650 a0 = (σ.1 650 a0) from ((kp_i eσ1 (by decide)).trans rfl)); have : (σ1.1 651 a0).toInt = ((σ.1 651 a0) : Int32).toInt := congrArg Int32.toInt (show σ1.1 651 a0 = (σ.1 651 a0) from ((kp_i eσ1 (by decide)).trans rfl)); have : (σ1.1 658 a0).toInt = (0 : Int32).toInt := congrArg Int32.toInt (show σ1.1 658 a0 = 0 from (kp_s eσ1)); have : (v9 : Int32).toInt = (0 : Int32).toInt := congrArg Int32.toInt c10; have : ((-1) : Int32).toInt = (-1) := (by decide); have : (0 : Int32).toInt = 0 := (by decide); have : (1 : Int32).toInt = 1 := (by decide); have : (99 : Int32).toInt = 99 := (by decide); omega))⟩
abbrev fs_X11_sheet : List Nat := [658]
abbrev ts_X11_sheet : List Nat := []
set_option maxHeartbeats 4000000 in
set_option maxRecDepth 100000 in
theorem c_X11_sheet (a0 : Nat) (ha0 : oA L τ a0 10) (a1 : Int32) (a2 : Int32) (a3 : Int32) (a4 : Int32) : oMet l A L τ cy D K yX11_sheet cX11_sheet 9 (some .int) 1 22 [.ref a0, .int a1, .int a2, .int a3, .int a4] σ (va_Qi (fun r σ1 => oFr τ fs_X11_sheet ts_X11_sheet σ σ1 ∧ Iv r (-3) 0 ∧ ((r.toInt = -1 ∧ ((a1.toInt < 0 ∨ 3 < a1.toInt) ∨ 6 < a2.toInt)) ∨ ((0 ≤ a1.toInt ∧ a1.toInt ≤ 3 ∧ a2.toInt ≤ 6) ∧ ((r.toInt = -2 ∧ a1.toInt ≠ 3 ∧ a2.toInt < 0) ∨ ((a1.toInt = 3 ∨ 0 ≤ a2.toInt) ∧ ((a1.toInt = 3 ∧ r.toInt = -3) ∨ (a1.toInt ≠ 3 ∧ r.toInt = 0))))))) (oPo A L τ cy D) A) := by
  refine oMk (by decide) (Nat.le_of_ble_eq_true rfl) rfl ?_
  intro p e s m args below meth c ls cx rx hA hw hl
  generalize hQ : MQ below _ args s 0 0 A = Q
  have hx := cx.1.1
  have hb := cx.1.2.1
  have hml := cx.1.2.2.1
  have hown := cx.1.2.2.2.1
  have hts := cx.1.2.2.2.2
  have hl : lv_has ls 9 [(0, .ref a0), (1, .int a1), (2, .int a2), (3, .int a3), (4, .int a4)] := hl
  have fr : oFr τ fs_X11_sheet ts_X11_sheet σ σ := oFr_rf
  refine lv_aload_n hx hb dX11_sheet_0 rfl (lv_at hl 0 rfl) ?_
  refine lv_iconst (v := 0) hx hb dX11_sheet_1 (by decide) ?_
  refine p_658 cx hw ha0 k_f_X11_89 dX11_sheet_2 (fun σ1 H locs eσ1 hw => ?_)
  have fr := oFr_i fr eσ1 (by decide)
  refine lv_iload_n hx hb dX11_sheet_5 rfl (lv_at hl 1 rfl) ?_
  refine lv_iconst (v := 0) hx hb dX11_sheet_6 (by decide) ?_
  refine lv_iconst (v := 3) hx hb dX11_sheet_7 (by decide) ?_
  refine o_ci hw (oRunS cx hA hw q_X11_in k_m_X11_95 (As := [.int a1, .int 0, .int 3]) (c_X11_in a1 0 3) (by decide) rfl hl.1 rfl (Nat.le_of_ble_eq_true rfl) dX11_sheet_8 (by decide)) (fun v3 σ2 H locs hp hw => ?_)
  obtain ⟨p3_0, p3_1, p3_2, p3_3, p3_4⟩ := hp
  rw [p3_0] at hw
  refine lv_if_eq (tgt := 20) hx hb dX11_sheet_11 (by decide) (fun c4 => ?_) (fun c4 => ?_)
  · --
    have i5 : Iv v3 0 0 := iv_eq1 c4 p3_1 (⟨by decide, by decide⟩ : Iv 0 0 0) (by decide)
    refine lv_iconst (v := (-1)) hx hb dX11_sheet_20 (by decide) ?_
    rw [← hQ]
    exact o_ri cx rx hw dX11_sheet_21 ⟨fr, (iv_w (⟨by decide, by decide⟩ : Iv (-1) (-1) (-1)) (by decide)), (by exact (by have : (0 : Int32).toInt = 0 := (by decide); have : (60 : Int32).toInt = 60 := (by decide); have : (3 : Int32).toInt = 3 := (by decide); have : (6 : Int32).toInt = 6 := (by decide); have := (i5).1; have := (i5).2; have : (σ1.1 658 a0).toInt = (0 : Int32).toInt := congrArg Int32.toInt (show σ1.1 658 a0 = 0 from (kp_s eσ1)); have : (v3 : Int32).toInt = (0 : Int32).toInt := congrArg Int32.toInt c4; have : ((-1) : Int32).toInt = (-1) := (by decide); have : (0 : Int32).toInt = 0 := (by decide); have : (3 : Int32).toInt = 3 := (by decide); omega))⟩
  · --
    have i6 : Iv v3 1 1 := iv_ne1 c4 p3_1 (⟨by decide, by decide⟩ : Iv 0 0 0) (by decide)
    have i7 : Iv a1 0 3 := (fun h => iv_rel (p3_2 h) (⟨by decide, by decide⟩ : Iv 0 0 0) (⟨by decide, by decide⟩ : Iv 3 3 3)) c4
    refine lv_iload_n hx hb dX11_sheet_14 rfl (lv_at hl 2 rfl) ?_
    refine lv_bipush (v := 6) hx hb dX11_sheet_15 (by decide) ?_
    refine lv_icmp_le (tgt := 22) hx hb dX11_sheet_17 (by decide) (fun c8 => ?_) (fun c8 => ?_)
    · --
      have i9 : Iv a2 (-2147483648) 6 := iv_le1 c8 (iv_top a2) (⟨by decide, by decide⟩ : Iv 6 6 6) (by decide)
      refine lv_iload_n hx hb dX11_sheet_22 rfl (lv_at hl 1 rfl) ?_
      refine lv_iconst (v := 3) hx hb dX11_sheet_23 (by decide) ?_
      have J_34 : ∀ (H : Heap) (locs : List Loc), oI A L τ cy D s.heap σ1 H locs → (¬ (a1.toInt ≠ 3 ∧ a2.toInt < 0)) → ∀ (ls : Array Slot), lv_has ls 9 [(0, .ref a0), (1, .int a1), (2, .int a2), (3, .int a3), (4, .int a4)] → W p l e ({ frames := 1, cells := 0, slots := 0, locals := 22 } : Room) s m args below meth c H locs 0 0 Q (F0 m 34 ls []) := by
        intro  H locs hw   k3_34  ls hl
        refine lv_iconst (v := 0) hx hb dX11_sheet_34 (by decide) ?_
        refine lv_istore (lv' := [(5, .int 0), (0, .ref a0), (1, .int a1), (2, .int a2), (3, .int a3), (4, .int a4)]) hx hb dX11_sheet_35 hl (by decide) rfl (fun ls hl => ?_)
        refine lv_iload_n hx hb dX11_sheet_37 rfl (lv_at hl 4 rfl) ?_
        refine lv_istore (lv' := [(6, .int a3), (5, .int 0), (0, .ref a0), (1, .int a1), (2, .int a2), (3, .int a3), (4, .int a4)]) hx hb dX11_sheet_38 hl (by decide) rfl (fun ls hl => ?_)
        refine lv_iconst (v := 0) hx hb dX11_sheet_40 (by decide) ?_
        refine lv_istore (lv' := [(7, .int 0), (6, .int a3), (5, .int 0), (0, .ref a0), (1, .int a1), (2, .int a2), (3, .int a3), (4, .int a4)]) hx hb dX11_sheet_41 hl (by decide) rfl (fun ls hl => ?_)
        have J_43 : ∀ n43 : Nat, ∀ (H : Heap) (locs : List Loc), oI A L τ cy D s.heap σ1 H locs → 0 < n43 → ∀ (ls : Array Slot), lv_has ls 9 [(0, .ref a0), (1, .int a1), (2, .int a2), (3, .int a3), (4, .int a4), (5, .int 0), (6, .int a3), (7, .int 0)] → W p l e ({ frames := 1, cells := 0, slots := 0, locals := 22 } : Room) s m args below meth c H locs 0 0 Q (F0 m 43 ls []) := by
          intro n43
          induction n43 with
          | zero => intro  H locs hw  hn_43   ls hl; exact absurd hn_43 (Nat.not_lt_zero _)
          | succ n43 ih_43 =>
            intro  H locs hw  hn_43   ls hl
            refine lv_iload hx hb dX11_sheet_43 (lv_at hl 7 rfl) ?_
            refine lv_aload_n hx hb dX11_sheet_45 rfl (lv_at hl 0 rfl) ?_
            refine g_647 cx hw ha0 k_f_X11_105 dX11_sheet_46 (fun v10 e10 i10 => ?_)
            have z10 : v10.toInt = (σ1.1 647 a0).toInt := congrArg Int32.toInt e10
            refine lv_icmp_ge (tgt := 135) hx hb dX11_sheet_49 (by decide) (fun c11 => ?_) (fun c11 => ?_)
            · --
              refine lv_iload_n hx hb dX11_sheet_135 rfl (lv_at hl 1 rfl) ?_
              refine lv_iconst (v := 3) hx hb dX11_sheet_136 (by decide) ?_
              refine lv_icmp_ne (tgt := 145) hx hb dX11_sheet_137 (by decide) (fun c12 => ?_) (fun c12 => ?_)
              · --
                have i13 : Iv a1 0 2 := iv_ne2 c12 i7 (⟨by decide, by decide⟩ : Iv 3 3 3) (by decide)
                refine lv_iload hx hb dX11_sheet_145 (lv_at hl 5 rfl) ?_
                rw [← hQ]
                exact o_ri cx rx hw dX11_sheet_147 ⟨fr, (iv_w (⟨by decide, by decide⟩ : Iv 0 0 0) (by decide)), (by exact (by have : (0 : Int32).toInt = 0 := (by decide); have : (60 : Int32).toInt = 60 := (by decide); have : (3 : Int32).toInt = 3 := (by decide); have : (6 : Int32).toInt = 6 := (by decide); have := (i13).1; have := (i13).2; have := (i9).1; have := (i9).2; have := (i10).1; have := (i10).2; have := (i6).1; have := (i6).2; have : (σ1.1 658 a0).toInt = (0 : Int32).toInt := congrArg Int32.toInt (show σ1.1 658 a0 = 0 from (kp_s eσ1)); have : (σ1.1 647 a0).toInt = (v10 : Int32).toInt := congrArg Int32.toInt (show σ1.1 647 a0 = v10 from e10.symm); have : (a2 : Int32).toInt ≤ (6 : Int32).toInt := iv_le.mp c8; have : (v10 : Int32).toInt ≤ (0 : Int32).toInt := iv_le.mp c11; have : (0 : Int32).toInt = 0 := (by decide); have : (3 : Int32).toInt = 3 := (by decide); have : (6 : Int32).toInt = 6 := (by decide); omega))⟩
              · --
                have i14 : Iv a1 3 3 := iv_eq1 c12 i7 (⟨by decide, by decide⟩ : Iv 3 3 3) (by decide)
                refine lv_bipush (v := (-3)) hx hb dX11_sheet_140 (by decide) ?_
                refine lv_goto (tgt := 147) hx hb dX11_sheet_142 (by decide) ?_
                rw [← hQ]
                exact o_ri cx rx hw dX11_sheet_147 ⟨fr, (iv_w (⟨by decide, by decide⟩ : Iv (-3) (-3) (-3)) (by decide)), (by exact (by have : (0 : Int32).toInt = 0 := (by decide); have : (60 : Int32).toInt = 60 := (by decide); have : (3 : Int32).toInt = 3 := (by decide); have : (6 : Int32).toInt = 6 := (by decide); have := (i14).1; have := (i14).2; have := (i9).1; have := (i9).2; have := (i10).1; have := (i10).2; have := (i6).1; have := (i6).2; have : (σ1.1 658 a0).toInt = (0 : Int32).toInt := congrArg Int32.toInt (show σ1.1 658 a0 = 0 from (kp_s eσ1)); have : (σ1.1 647 a0).toInt = (v10 : Int32).toInt := congrArg Int32.toInt (show σ1.1 647 a0 = v10 from e10.symm); have : (a2 : Int32).toInt ≤ (6 : Int32).toInt := iv_le.mp c8; have : (v10 : Int32).toInt ≤ (0 : Int32).toInt := iv_le.mp c11; have : (a1 : Int32).toInt = (3 : Int32).toInt := congrArg Int32.toInt c12; have : ((-3) : Int32).toInt = (-3) := (by decide); have : (0 : Int32).toInt = 0 := (by decide); have : (3 : Int32).toInt = 3 := (by decide); have : (6 : Int32).toInt = 6 := (by decide); omega))⟩
            · --
              exact iv_no (iv_lt1 (b' := (-1)) (iv_nle c11) (⟨by decide, by decide⟩ : Iv 0 0 0) i10 (by decide)) (by decide)
        exact J_43 _ _ _ hw (Nat.lt_succ_self _) _ (lv_sub hl [3, 4, 5, 6, 7, 2, 1, 0] rfl)
      refine lv_icmp_ge (tgt := 34) hx hb dX11_sheet_24 (by decide) (fun c15 => ?_) (fun c15 => ?_)
      · --
        have i16 : Iv a1 3 3 := iv_le2 c15 (⟨by decide, by decide⟩ : Iv 3 3 3) i7 (by decide)
        exact J_34 _ _ hw (by have : (0 : Int32).toInt = 0 := (by decide); have : (60 : Int32).toInt = 60 := (by decide); have : (3 : Int32).toInt = 3 := (by decide); have := (i16).1; have := (i16).2; have := (i9).1; have := (i9).2; have := (i6).1; have := (i6).2; have : (σ1.1 658 a0).toInt = (0 : Int32).toInt := congrArg Int32.toInt (show σ1.1 658 a0 = 0 from (kp_s eσ1)); have : (a2 : Int32).toInt ≤ (6 : Int32).toInt := iv_le.mp c8; have : (3 : Int32).toInt ≤ (a1 : Int32).toInt := iv_le.mp c15; have : (0 : Int32).toInt = 0 := (by decide); have : (3 : Int32).toInt = 3 := (by decide); have : (6 : Int32).toInt = 6 := (by decide); omega) _ (lv_sub hl [0, 1, 2, 3, 4] rfl)
      · --
        have i17 : Iv a1 0 2 := iv_lt1 (iv_nle c15) i7 (⟨by decide, by decide⟩ : Iv 3 3 3) (by decide)
        refine lv_iload_n hx hb dX11_sheet_27 rfl (lv_at hl 2 rfl) ?_
        refine lv_if_ge (tgt := 34) hx hb dX11_sheet_28 (by decide) (fun c18 => ?_) (fun c18 => ?_)
        · --
          have i19 : Iv a2 0 6 := iv_le2 c18 (⟨by decide, by decide⟩ : Iv 0 0 0) i9 (by decide)
          exact J_34 _ _ hw (by have : (0 : Int32).toInt = 0 := (by decide); have : (60 : Int32).toInt = 60 := (by decide); have : (3 : Int32).toInt = 3 := (by decide); have := (i17).1; have := (i17).2; have := (i19).1; have := (i19).2; have := (i6).1; have := (i6).2; have : (σ1.1 658 a0).toInt = (0 : Int32).toInt := congrArg Int32.toInt (show σ1.1 658 a0 = 0 from (kp_s eσ1)); have : (a2 : Int32).toInt ≤ (6 : Int32).toInt := iv_le.mp c8; have : (a1 : Int32).toInt < (3 : Int32).toInt := iv_lt.mp (iv_nle c15); have : (0 : Int32).toInt ≤ (a2 : Int32).toInt := iv_le.mp c18; have : (0 : Int32).toInt = 0 := (by decide); have : (3 : Int32).toInt = 3 := (by decide); have : (6 : Int32).toInt = 6 := (by decide); omega) _ (lv_sub hl [0, 1, 2, 3, 4] rfl)
        · --
          have i20 : Iv a2 (-2147483648) (-1) := iv_lt1 (iv_nle c18) i9 (⟨by decide, by decide⟩ : Iv 0 0 0) (by decide)
          refine lv_bipush (v := (-2)) hx hb dX11_sheet_31 (by decide) ?_
          rw [← hQ]
          exact o_ri cx rx hw dX11_sheet_33 ⟨fr, (iv_w (⟨by decide, by decide⟩ : Iv (-2) (-2) (-2)) (by decide)), (by exact (by have : (0 : Int32).toInt = 0 := (by decide); have : (60 : Int32).toInt = 60 := (by decide); have : (3 : Int32).toInt = 3 := (by decide); have : (6 : Int32).toInt = 6 := (by decide); have := (i17).1; have := (i17).2; have := (i20).1; have := (i20).2; have := (i6).1; have := (i6).2; have : (σ1.1 658 a0).toInt = (0 : Int32).toInt := congrArg Int32.toInt (show σ1.1 658 a0 = 0 from (kp_s eσ1)); have : (a2 : Int32).toInt ≤ (6 : Int32).toInt := iv_le.mp c8; have : (a1 : Int32).toInt < (3 : Int32).toInt := iv_lt.mp (iv_nle c15); have : (a2 : Int32).toInt < (0 : Int32).toInt := iv_lt.mp (iv_nle c18); have : ((-2) : Int32).toInt = (-2) := (by decide); have : (0 : Int32).toInt = 0 := (by decide); have : (3 : Int32).toInt = 3 := (by decide); have : (6 : Int32).toInt = 6 := (by decide); omega))⟩
    · --
      have i21 : Iv a2 7 2147483647 := iv_lt2 (iv_nle c8) (⟨by decide, by decide⟩ : Iv 6 6 6) (iv_top a2) (by decide)
      refine lv_iconst (v := (-1)) hx hb dX11_sheet_20 (by decide) ?_
      rw [← hQ]
      exact o_ri cx rx hw dX11_sheet_21 ⟨fr, (iv_w (⟨by decide, by decide⟩ : Iv (-1) (-1) (-1)) (by decide)), (by exact (by have : (0 : Int32).toInt = 0 := (by decide); have : (60 : Int32).toInt = 60 := (by decide); have : (3 : Int32).toInt = 3 := (by decide); have : (6 : Int32).toInt = 6 := (by decide); have := (i7).1; have := (i7).2; have := (i21).1; have := (i21).2; have := (i6).1; have := (i6).2; have : (σ1.1 658 a0).toInt = (0 : Int32).toInt := congrArg Int32.toInt (show σ1.1 658 a0 = 0 from (kp_s eσ1)); have : (6 : Int32).toInt < (a2 : Int32).toInt := iv_lt.mp (iv_nle c8); have : ((-1) : Int32).toInt = (-1) := (by decide); have : (0 : Int32).toInt = 0 := (by decide); have : (3 : Int32).toInt = 3 := (by decide); have : (6 : Int32).toInt = 6 := (by decide); omega))⟩
abbrev fs_X11_salt : List Nat := [658]
abbrev ts_X11_salt : List Nat := []
set_option maxHeartbeats 4000000 in
set_option maxRecDepth 100000 in
theorem c_X11_salt (a0 : Nat) (ha0 : oA L τ a0 10) (a1 : Int32) (a2 : Int32) : oMet l A L τ cy D K yX11_salt cX11_salt 3 (some .int) 4 90 [.ref a0, .int a1, .int a2] σ (va_Qi (fun r σ1 => oFr τ fs_X11_salt ts_X11_salt σ σ1 ∧ Iv r (-1) (-1)) (oPo A L τ cy D) A) := by
  refine oMk (by decide) (Nat.le_of_ble_eq_true rfl) rfl ?_
  intro p e s m args below meth c ls cx rx hA hw hl
  generalize hQ : MQ below _ args s 0 0 A = Q
  have hx := cx.1.1
  have hb := cx.1.2.1
  have hml := cx.1.2.2.1
  have hown := cx.1.2.2.2.1
  have hts := cx.1.2.2.2.2
  have hl : lv_has ls 3 [(0, .ref a0), (1, .int a1), (2, .int a2)] := hl
  have fr : oFr τ fs_X11_salt ts_X11_salt σ σ := oFr_rf
  refine lv_aload_n hx hb dX11_salt_0 rfl (lv_at hl 0 rfl) ?_
  refine lv_iconst (v := 0) hx hb dX11_salt_1 (by decide) ?_
  refine p_658 cx hw ha0 k_f_X11_89 dX11_salt_2 (fun σ1 H locs eσ1 hw => ?_)
  have fr := oFr_i fr eσ1 (by decide)
  refine lv_aload_n hx hb dX11_salt_5 rfl (lv_at hl 0 rfl) ?_
  refine lv_bipush (v := 64) hx hb dX11_salt_6 (by decide) ?_
  refine lv_iload_n hx hb dX11_salt_8 rfl (lv_at hl 1 rfl) ?_
  refine lv_iload_n hx hb dX11_salt_9 rfl (lv_at hl 2 rfl) ?_
  refine o_ci hw (oRunV cx hA hw q_X11_layOn k_m_X11_262 rfl ha0 (by decide) (As := [.int 64, .int a1, .int a2]) (c_X11_layOn a0 ha0 64 (iv_w (⟨by decide, by decide⟩ : Iv 64 64 64) (by decide)) a1 a2) (by decide) rfl hl.1 rfl (Nat.le_of_ble_eq_true rfl) dX11_salt_10 (by decide)) (fun v3 σ2 H locs hp hw => ?_)
  obtain ⟨p3_0, p3_1⟩ := hp
  rw [p3_0] at hw
  rw [← hQ]
  exact o_ri cx rx hw dX11_salt_13 ⟨fr, (iv_w p3_1 (by decide))⟩
abbrev fs_X11_thistles : List Nat := [658]
abbrev ts_X11_thistles : List Nat := []
set_option maxHeartbeats 4000000 in
set_option maxRecDepth 100000 in
theorem c_X11_thistles (a0 : Nat) (ha0 : oA L τ a0 10) (a1 : Int32) (a2 : Int32) : oMet l A L τ cy D K yX11_thistles cX11_thistles 3 (some .int) 4 90 [.ref a0, .int a1, .int a2] σ (va_Qi (fun r σ1 => oFr τ fs_X11_thistles ts_X11_thistles σ σ1 ∧ Iv r (-1) (-1)) (oPo A L τ cy D) A) := by
  refine oMk (by decide) (Nat.le_of_ble_eq_true rfl) rfl ?_
  intro p e s m args below meth c ls cx rx hA hw hl
  generalize hQ : MQ below _ args s 0 0 A = Q
  have hx := cx.1.1
  have hb := cx.1.2.1
  have hml := cx.1.2.2.1
  have hown := cx.1.2.2.2.1
  have hts := cx.1.2.2.2.2
  have hl : lv_has ls 3 [(0, .ref a0), (1, .int a1), (2, .int a2)] := hl
  have fr : oFr τ fs_X11_thistles ts_X11_thistles σ σ := oFr_rf
  refine lv_aload_n hx hb dX11_thistles_0 rfl (lv_at hl 0 rfl) ?_
  refine lv_iconst (v := 0) hx hb dX11_thistles_1 (by decide) ?_
  refine p_658 cx hw ha0 k_f_X11_89 dX11_thistles_2 (fun σ1 H locs eσ1 hw => ?_)
  have fr := oFr_i fr eσ1 (by decide)
  refine lv_aload_n hx hb dX11_thistles_5 rfl (lv_at hl 0 rfl) ?_
  refine lv_sipush (v := 128) hx hb dX11_thistles_6 (by decide) ?_
  refine lv_iload_n hx hb dX11_thistles_9 rfl (lv_at hl 1 rfl) ?_
  refine lv_iload_n hx hb dX11_thistles_10 rfl (lv_at hl 2 rfl) ?_
  refine o_ci hw (oRunV cx hA hw q_X11_layOn k_m_X11_262 rfl ha0 (by decide) (As := [.int 128, .int a1, .int a2]) (c_X11_layOn a0 ha0 128 (iv_w (⟨by decide, by decide⟩ : Iv 128 128 128) (by decide)) a1 a2) (by decide) rfl hl.1 rfl (Nat.le_of_ble_eq_true rfl) dX11_thistles_11 (by decide)) (fun v3 σ2 H locs hp hw => ?_)
  obtain ⟨p3_0, p3_1⟩ := hp
  rw [p3_0] at hw
  rw [← hQ]
  exact o_ri cx rx hw dX11_thistles_14 ⟨fr, (iv_w p3_1 (by decide))⟩
abbrev fs_X11_gate : List Nat := [658]
abbrev ts_X11_gate : List Nat := []
set_option maxHeartbeats 4000000 in
set_option maxRecDepth 100000 in
theorem c_X11_gate (a0 : Nat) (ha0 : oA L τ a0 10) (a1 : Int32) (a2 : Int32) : oMet l A L τ cy D K yX11_gate cX11_gate 4 (some .int) 2 44 [.ref a0, .int a1, .int a2] σ (va_Qi (fun r σ1 => oFr τ fs_X11_gate ts_X11_gate σ σ1 ∧ Iv r (-1) (-1)) (oPo A L τ cy D) A) := by
  refine oMk (by decide) (Nat.le_of_ble_eq_true rfl) rfl ?_
  intro p e s m args below meth c ls cx rx hA hw hl
  generalize hQ : MQ below _ args s 0 0 A = Q
  have hx := cx.1.1
  have hb := cx.1.2.1
  have hml := cx.1.2.2.1
  have hown := cx.1.2.2.2.1
  have hts := cx.1.2.2.2.2
  have hl : lv_has ls 4 [(0, .ref a0), (1, .int a1), (2, .int a2)] := hl
  have fr : oFr τ fs_X11_gate ts_X11_gate σ σ := oFr_rf
  refine lv_aload_n hx hb dX11_gate_0 rfl (lv_at hl 0 rfl) ?_
  refine lv_iconst (v := 0) hx hb dX11_gate_1 (by decide) ?_
  refine p_658 cx hw ha0 k_f_X11_89 dX11_gate_2 (fun σ1 H locs eσ1 hw => ?_)
  have fr := oFr_i fr eσ1 (by decide)
  refine lv_aload_n hx hb dX11_gate_5 rfl (lv_at hl 0 rfl) ?_
  refine lv_iload_n hx hb dX11_gate_6 rfl (lv_at hl 1 rfl) ?_
  refine lv_iload_n hx hb dX11_gate_7 rfl (lv_at hl 2 rfl) ?_
  refine o_ci hw (oRunV cx hA hw q_X11_refusesGate k_m_X11_266 rfl ha0 (by decide) (As := [.int a1, .int a2]) (c_X11_refusesGate a0 ha0 a1 a2) (by decide) rfl hl.1 rfl (Nat.le_of_ble_eq_true rfl) dX11_gate_8 (by decide)) (fun v3 σ2 H locs hp hw => ?_)
  obtain ⟨p3_0, p3_1, p3_2⟩ := hp
  rw [p3_0] at hw
  refine lv_istore_n (lv' := [(3, .int v3), (0, .ref a0), (1, .int a1), (2, .int a2)]) hx hb dX11_gate_11 rfl hl (by decide) rfl (fun ls hl => ?_)
  refine lv_iload_n hx hb dX11_gate_12 rfl (lv_at hl 0 rfl) ?_
  refine lv_if_ge (tgt := 18) hx hb dX11_gate_13 (by decide) (fun c4 => ?_) (fun c4 => ?_)
  · --
    have i5 : Iv a1 0 5 := p3_2 c4
    exact iv_no (iv_le1 (b' := (-1)) c4 (⟨by decide, by decide⟩ : Iv 0 0 0) p3_1 (by decide)) (by decide)
  · --
    refine lv_iload_n hx hb dX11_gate_16 rfl (lv_at hl 0 rfl) ?_
    rw [← hQ]
    exact o_ri cx rx hw dX11_gate_17 ⟨fr, (iv_w p3_1 (by decide))⟩
abbrev fs_X11_drive : List Nat := [658]
abbrev ts_X11_drive : List Nat := []
set_option maxHeartbeats 4000000 in
set_option maxRecDepth 100000 in
theorem c_X11_drive (a0 : Nat) (ha0 : oA L τ a0 10) (a1 : Int32) (a2 : Int32) : oMet l A L τ cy D K yX11_drive cX11_drive 4 (some .int) 3 66 [.ref a0, .int a1, .int a2] σ (va_Qi (fun r σ1 => oFr τ fs_X11_drive ts_X11_drive σ σ1 ∧ Iv r (-1) (-1)) (oPo A L τ cy D) A) := by
  refine oMk (by decide) (Nat.le_of_ble_eq_true rfl) rfl ?_
  intro p e s m args below meth c ls cx rx hA hw hl
  generalize hQ : MQ below _ args s 0 0 A = Q
  have hx := cx.1.1
  have hb := cx.1.2.1
  have hml := cx.1.2.2.1
  have hown := cx.1.2.2.2.1
  have hts := cx.1.2.2.2.2
  have hl : lv_has ls 4 [(0, .ref a0), (1, .int a1), (2, .int a2)] := hl
  have fr : oFr τ fs_X11_drive ts_X11_drive σ σ := oFr_rf
  refine lv_aload_n hx hb dX11_drive_0 rfl (lv_at hl 0 rfl) ?_
  refine lv_iconst (v := 0) hx hb dX11_drive_1 (by decide) ?_
  refine p_658 cx hw ha0 k_f_X11_89 dX11_drive_2 (fun σ1 H locs eσ1 hw => ?_)
  have fr := oFr_i fr eσ1 (by decide)
  refine lv_aload_n hx hb dX11_drive_5 rfl (lv_at hl 0 rfl) ?_
  refine lv_iload_n hx hb dX11_drive_6 rfl (lv_at hl 1 rfl) ?_
  refine lv_iload_n hx hb dX11_drive_7 rfl (lv_at hl 2 rfl) ?_
  refine o_ci hw (oRunV cx hA hw q_X11_refusesDrive k_m_X11_272 rfl ha0 (by decide) (As := [.int a1, .int a2]) (c_X11_refusesDrive a0 ha0 a1 a2) (by decide) rfl hl.1 rfl (Nat.le_of_ble_eq_true rfl) dX11_drive_8 (by decide)) (fun v3 σ2 H locs hp hw => ?_)
  obtain ⟨p3_0, p3_1, p3_2, p3_3⟩ := hp
  rw [p3_0] at hw
  refine lv_istore_n (lv' := [(3, .int v3), (0, .ref a0), (1, .int a1), (2, .int a2)]) hx hb dX11_drive_11 rfl hl (by decide) rfl (fun ls hl => ?_)
  refine lv_iload_n hx hb dX11_drive_12 rfl (lv_at hl 0 rfl) ?_
  refine lv_if_ge (tgt := 18) hx hb dX11_drive_13 (by decide) (fun c4 => ?_) (fun c4 => ?_)
  · --
    have i5 : Iv a1 0 5 := p3_2 c4
    have i6 : Iv a2 0 63 := p3_3 c4
    exact iv_no (iv_le1 (b' := (-1)) c4 (⟨by decide, by decide⟩ : Iv 0 0 0) p3_1 (by decide)) (by decide)
  · --
    refine lv_iload_n hx hb dX11_drive_16 rfl (lv_at hl 0 rfl) ?_
    rw [← hQ]
    exact o_ri cx rx hw dX11_drive_17 ⟨fr, (iv_w p3_1 (by decide))⟩
abbrev fs_X11_hour : List Nat := [657, 658, 672]
abbrev ts_X11_hour : List Nat := [48, 56]
set_option maxHeartbeats 4000000 in
set_option maxRecDepth 100000 in
theorem c_X11_hour (a0 : Nat) (ha0 : oA L τ a0 10) : oMet l A L τ cy D K yX11_hour cX11_hour 1 (some .int) 4 91 [.ref a0] σ (va_Qi (fun r σ1 => oFr τ fs_X11_hour ts_X11_hour σ σ1 ∧ Iv r (-1) 0 ∧ (r.toInt = 0)) (oPo A L τ cy D) A) := by
  refine oMk (by decide) (Nat.le_of_ble_eq_true rfl) rfl ?_
  intro p e s m args below meth c ls cx rx hA hw hl
  generalize hQ : MQ below _ args s 0 0 A = Q
  have hx := cx.1.1
  have hb := cx.1.2.1
  have hml := cx.1.2.2.1
  have hown := cx.1.2.2.2.1
  have hts := cx.1.2.2.2.2
  have hl : lv_has ls 1 [(0, .ref a0)] := hl
  have fr : oFr τ fs_X11_hour ts_X11_hour σ σ := oFr_rf
  refine lv_aload_n hx hb dX11_hour_0 rfl (lv_at hl 0 rfl) ?_
  refine lv_iconst (v := 1) hx hb dX11_hour_1 (by decide) ?_
  refine o_ci hw (oRunV cx hA hw q_X11_hours k_m_X11_282 rfl ha0 (by decide) (As := [.int 1]) (c_X11_hours a0 ha0 1) (by decide) rfl hl.1 rfl (Nat.le_of_ble_eq_true rfl) dX11_hour_2 (by decide)) (fun v2 σ1 H locs hp hw => ?_)
  obtain ⟨p2_0, p2_1, p2_2⟩ := hp
  have fr := oFr_tr fr p2_0 (by decide)
  rw [← hQ]
  exact o_ri cx rx hw dX11_hour_5 ⟨fr, (iv_w p2_1 (by decide)), (by exact (by have := (p2_1).1; have := (p2_1).2; have : (1 : Int32).toInt = 1 := (by decide); omega))⟩
abbrev fs_X11_day : List Nat := [655, 657, 658, 659, 660, 661, 662, 663, 675]
abbrev ts_X11_day : List Nat := [48, 52]
set_option maxHeartbeats 4000000 in
set_option maxRecDepth 100000 in
theorem c_X11_day (a0 : Nat) (ha0 : oA L τ a0 10) (hf655 : Iv (σ.1 655 a0) 0 0) : oMet l A L τ cy D K yX11_day cX11_day 4 (some .int) 1 23 [.ref a0] σ (va_Qi (fun r σ1 => oFr τ fs_X11_day ts_X11_day σ σ1 ∧ Iv r 0 0) (oPo A L τ cy D) A) := by
  refine oMk (by decide) (Nat.le_of_ble_eq_true rfl) rfl ?_
  intro p e s m args below meth c ls cx rx hA hw hl
  generalize hQ : MQ below _ args s 0 0 A = Q
  have hx := cx.1.1
  have hb := cx.1.2.1
  have hml := cx.1.2.2.1
  have hown := cx.1.2.2.2.1
  have hts := cx.1.2.2.2.2
  have hl : lv_has ls 4 [(0, .ref a0)] := hl
  have fr : oFr τ fs_X11_day ts_X11_day σ σ := oFr_rf
  refine lv_aload_n hx hb dX11_day_0 rfl (lv_at hl 0 rfl) ?_
  refine lv_iconst (v := 0) hx hb dX11_day_1 (by decide) ?_
  refine p_658 cx hw ha0 k_f_X11_89 dX11_day_2 (fun σ1 H locs eσ1 hw => ?_)
  have fr := oFr_i fr eσ1 (by decide)
  refine lv_aload_n hx hb dX11_day_5 rfl (lv_at hl 0 rfl) ?_
  refine lv_aload_n hx hb dX11_day_6 rfl (lv_at hl 0 rfl) ?_
  refine g_654 cx hw ha0 k_f_X11_32 dX11_day_7 (fun v2 e2 h2 => ?_)
  refine lv_aload_n hx hb dX11_day_10 rfl (lv_at hl 0 rfl) ?_
  refine g_655 cx hw ha0 k_f_X11_108 dX11_day_11 (fun v3 e3 i3 => ?_)
  rw [show v3 = (σ.1 655 a0) from e3.trans ((kp_i eσ1 (by decide)).trans rfl)]
  refine lv_bipush (v := 60) hx hb dX11_day_14 (by decide) ?_
  have i4 : Iv (σ1.1 660 a0) 0 0 := o_fb (j := 660) hw ha0 rfl
  have i5 : Iv (σ1.1 661 a0) 0 80 := o_fb (j := 661) hw ha0 rfl
  refine o_cv hw (oRunV cx hA hw q_X11_begin k_m_X11_142 rfl ha0 (by decide) (As := [.ref v2, .int (σ.1 655 a0), .int 60]) (c_X11_beginT a0 ha0 v2 h2 (σ.1 655 a0) (iv_w hf655 (by decide)) 60 (iv_w (⟨by decide, by decide⟩ : Iv 60 60 60) (by decide))) (by decide) rfl hl.1 rfl (Nat.le_of_ble_eq_true rfl) dX11_day_16 (by decide)) (fun σ6 H locs hp hw => ?_)
  obtain ⟨p7_0, p7_1, p7_2, p7_3, p7_4, p7_5, p7_6⟩ := hp
  have fr := oFr_tr fr p7_0 (by decide)
  refine lv_aload_n hx hb dX11_day_19 rfl (lv_at hl 0 rfl) ?_
  refine lv_iconst (v := 0) hx hb dX11_day_20 (by decide) ?_
  refine p_655 cx hw ha0 (iv_w (⟨by decide, by decide⟩ : Iv 0 0 0) (by decide)) k_f_X11_108 dX11_day_21 (fun σ8 H locs eσ8 hw => ?_)
  have fr := oFr_i fr eσ8 (by decide)
  refine lv_iconst (v := 0) hx hb dX11_day_24 (by decide) ?_
  refine lv_istore_n (lv' := [(1, .int 0), (0, .ref a0)]) hx hb dX11_day_25 rfl hl (by decide) rfl (fun ls hl => ?_)
  refine lv_aload_n hx hb dX11_day_26 rfl (lv_at hl 1 rfl) ?_
  refine g_660 cx hw ha0 k_f_X11_114 dX11_day_27 (fun v9 e9 i9 => ?_)
  rw [show v9 = (σ6.1 660 a0) from e9.trans ((kp_i eσ8 (by decide)).trans rfl)]
  have J_38 : ∀ (k38_0 : Int32) (ik38_0 : Iv k38_0 0 0), ∀ (H : Heap) (locs : List Loc), oI A L τ cy D s.heap σ8 H locs → ∀ (ls : Array Slot), lv_has ls 4 [(0, .ref a0), (1, .int 0)] → W p l e ({ frames := 1, cells := 0, slots := 0, locals := 23 } : Room) s m args below meth c H locs 0 0 Q (F0 m 38 ls [.int k38_0]) := by
    intro k38_0 ik38_0 H locs hw     ls hl
    refine lv_istore_n (lv' := [(2, .int k38_0), (0, .ref a0), (1, .int 0)]) hx hb dX11_day_38 rfl hl (by decide) rfl (fun ls hl => ?_)
    have J_39 : ∀ n39 : Nat, ∀ (H : Heap) (locs : List Loc), oI A L τ cy D s.heap σ8 H locs → 0 < n39 → ∀ (ls : Array Slot), lv_has ls 4 [(0, .ref a0), (1, .int 0), (2, .int k38_0)] → W p l e ({ frames := 1, cells := 0, slots := 0, locals := 23 } : Room) s m args below meth c H locs 0 0 Q (F0 m 39 ls []) := by
      intro n39
      induction n39 with
      | zero => intro  H locs hw  hn_39   ls hl; exact absurd hn_39 (Nat.not_lt_zero _)
      | succ n39 ih_39 =>
        intro  H locs hw  hn_39   ls hl
        refine lv_iload_n hx hb dX11_day_39 rfl (lv_at hl 2 rfl) ?_
        have J_70 : ∀ (H : Heap) (locs : List Loc), oI A L τ cy D s.heap σ8 H locs → ∀ (ls : Array Slot), lv_has ls 4 [(0, .ref a0), (1, .int 0), (2, .int k38_0)] → W p l e ({ frames := 1, cells := 0, slots := 0, locals := 23 } : Room) s m args below meth c H locs 0 0 Q (F0 m 70 ls []) := by
          intro  H locs hw     ls hl
          refine lv_aload_n hx hb dX11_day_70 rfl (lv_at hl 0 rfl) ?_
          refine g_662 cx hw ha0 k_f_X11_120 dX11_day_71 (fun v10 e10 i10 => ?_)
          rw [show v10 = (σ6.1 662 a0) from e10.trans ((kp_i eσ8 (by decide)).trans rfl)]
          refine lv_aload_n hx hb dX11_day_74 rfl (lv_at hl 0 rfl) ?_
          refine g_660 cx hw ha0 k_f_X11_114 dX11_day_75 (fun v11 e11 i11 => ?_)
          rw [show v11 = (σ6.1 660 a0) from e11.trans ((kp_i eσ8 (by decide)).trans rfl)]
          have J_89 : ∀ (H : Heap) (locs : List Loc), oI A L τ cy D s.heap σ8 H locs → ∀ (ls : Array Slot), lv_has ls 4 [(0, .ref a0), (1, .int 0), (2, .int k38_0)] → W p l e ({ frames := 1, cells := 0, slots := 0, locals := 23 } : Room) s m args below meth c H locs 0 0 Q (F0 m 89 ls []) := by
            intro  H locs hw     ls hl
            refine lv_aload_n hx hb dX11_day_89 rfl (lv_at hl 0 rfl) ?_
            have z12 : (σ8.1 663 a0).toInt = ((σ6.1 663 a0) : Int32).toInt := congrArg Int32.toInt (show σ8.1 663 a0 = (σ6.1 663 a0) from ((kp_i eσ8 (by decide)).trans rfl))
            refine o_ci hw (oRunV cx hA hw q_X11_fine k_m_X11_126 rfl ha0 (by decide) (As := []) (c_X11_fine a0 ha0) (by decide) rfl hl.1 rfl (Nat.le_of_ble_eq_true rfl) dX11_day_90 (by decide)) (fun v14 σ13 H locs hp hw => ?_)
            obtain ⟨p14_0, p14_1, p14_2⟩ := hp
            rw [p14_0] at hw
            have i15 : Iv v14 1 1 := (by have := (ik38_0).1; have := (ik38_0).2; have := (p14_1).1; have := (p14_1).2; have := (p7_2).1; have := (p7_2).2; have := (p7_3).1; have := (p7_3).2; have := (p7_4).1; have := (p7_4).2; have := (p7_5).1; have := (p7_5).2; have := (hf655).1; have := (hf655).2; have := (i4).1; have := (i4).2; have := (i5).1; have := (i5).2; have : (σ8.1 658 a0).toInt = (0 : Int32).toInt := congrArg Int32.toInt (show σ8.1 658 a0 = 0 from ((kp_i eσ8 (by decide)).trans ((kp_c p7_0 (by decide)).trans (kp_s eσ1)))); have : (σ8.1 660 a0).toInt = ((σ6.1 660 a0) : Int32).toInt := congrArg Int32.toInt (show σ8.1 660 a0 = (σ6.1 660 a0) from ((kp_i eσ8 (by decide)).trans rfl)); have : (σ8.1 661 a0).toInt = ((σ6.1 661 a0) : Int32).toInt := congrArg Int32.toInt (show σ8.1 661 a0 = (σ6.1 661 a0) from ((kp_i eσ8 (by decide)).trans rfl)); have : (σ8.1 662 a0).toInt = ((σ6.1 662 a0) : Int32).toInt := congrArg Int32.toInt (show σ8.1 662 a0 = (σ6.1 662 a0) from ((kp_i eσ8 (by decide)).trans rfl)); have : (σ8.1 663 a0).toInt = ((σ6.1 663 a0) : Int32).toInt := congrArg Int32.toInt (show σ8.1 663 a0 = (σ6.1 663 a0) from ((kp_i eσ8 (by decide)).trans rfl)); have : (σ8.1 655 a0).toInt = (0 : Int32).toInt := congrArg Int32.toInt (show σ8.1 655 a0 = 0 from (kp_s eσ8)); have : (0 : Int32).toInt = 0 := (by decide); have : (60 : Int32).toInt = 60 := (by decide); exact ⟨by omega, by omega⟩)
            refine lv_if_ne (tgt := 103) hx hb dX11_day_93 (by decide) (fun c16 => ?_) (fun c16 => ?_)
            · --
              refine lv_aload_n hx hb dX11_day_103 rfl (lv_at hl 0 rfl) ?_
              refine g_640 cx hw ha0 k_f_X11_9 dX11_day_104 (fun v17 e17 h17 => ?_)
              refine lv_aload_n hx hb dX11_day_107 rfl (lv_at hl 0 rfl) ?_
              refine g_673 cx hw ha0 k_f_X11_58 dX11_day_108 (fun v18 e18 h18 => ?_)
              refine lv_iconst (v := 0) hx hb dX11_day_111 (by decide) ?_
              refine o_cv hw (oRunS cx hA hw q_X11_lay k_m_X11_251 (As := [.ref v17, .ref v18, .int 0]) (c_X11_layN v17 h17 v18 h18 0 (iv_w (⟨by decide, by decide⟩ : Iv 0 0 0) (by decide))) (by decide) rfl hl.1 rfl (Nat.le_of_ble_eq_true rfl) dX11_day_112 (by decide)) (fun σ19 H locs hp hw => ?_)
              have p20_0 := hp
              have fr := oFr_tr fr p20_0 (by decide)
              refine lv_aload_n hx hb dX11_day_115 rfl (lv_at hl 0 rfl) ?_
              refine lv_iconst (v := 0) hx hb dX11_day_116 (by decide) ?_
              refine p_675 cx hw ha0 k_f_X11_295 dX11_day_117 (fun σ21 H locs eσ21 hw => ?_)
              have fr := oFr_i fr eσ21 (by decide)
              refine lv_iconst (v := 0) hx hb dX11_day_120 (by decide) ?_
              refine lv_istore_n (lv' := [(3, .int 0), (0, .ref a0), (1, .int 0), (2, .int k38_0)]) hx hb dX11_day_121 rfl hl (by decide) rfl (fun ls hl => ?_)
              have J_122 : ∀ n122 : Nat, ∀ (H : Heap) (locs : List Loc), oI A L τ cy D s.heap σ21 H locs → 0 < n122 → ∀ (ls : Array Slot), lv_has ls 4 [(0, .ref a0), (1, .int 0), (2, .int k38_0), (3, .int 0)] → W p l e ({ frames := 1, cells := 0, slots := 0, locals := 23 } : Room) s m args below meth c H locs 0 0 Q (F0 m 122 ls []) := by
                intro n122
                induction n122 with
                | zero => intro  H locs hw  hn_122   ls hl; exact absurd hn_122 (Nat.not_lt_zero _)
                | succ n122 ih_122 =>
                  intro  H locs hw  hn_122   ls hl
                  refine lv_iload_n hx hb dX11_day_122 rfl (lv_at hl 3 rfl) ?_
                  refine lv_iload_n hx hb dX11_day_123 rfl (lv_at hl 1 rfl) ?_
                  have J_178 : ∀ (H : Heap) (locs : List Loc), oI A L τ cy D s.heap σ21 H locs → ∀ (ls : Array Slot), lv_has ls 4 [(0, .ref a0), (1, .int 0), (2, .int k38_0), (3, .int 0)] → W p l e ({ frames := 1, cells := 0, slots := 0, locals := 23 } : Room) s m args below meth c H locs 0 0 Q (F0 m 178 ls []) := by
                    intro  H locs hw     ls hl
                    refine lv_iload_n hx hb dX11_day_178 rfl (lv_at hl 3 rfl) ?_
                    have J_190 : ∀ (H : Heap) (locs : List Loc), oI A L τ cy D s.heap σ21 H locs → ∀ (ls : Array Slot), lv_has ls 4 [(0, .ref a0), (1, .int 0), (2, .int k38_0), (3, .int 0)] → W p l e ({ frames := 1, cells := 0, slots := 0, locals := 23 } : Room) s m args below meth c H locs 0 0 Q (F0 m 190 ls []) := by
                      intro  H locs hw     ls hl
                      refine lv_aload_n hx hb dX11_day_190 rfl (lv_at hl 0 rfl) ?_
                      refine lv_iconst (v := 0) hx hb dX11_day_191 (by decide) ?_
                      refine p_657 cx hw ha0 (iv_w (⟨by decide, by decide⟩ : Iv 0 0 0) (by decide)) k_f_X11_92 dX11_day_192 (fun σ22 H locs eσ22 hw => ?_)
                      have fr := oFr_i fr eσ22 (by decide)
                      refine lv_aload_n hx hb dX11_day_195 rfl (lv_at hl 0 rfl) ?_
                      refine lv_iload_n hx hb dX11_day_196 rfl (lv_at hl 3 rfl) ?_
                      refine lv_iload_n hx hb dX11_day_197 rfl (lv_at hl 1 rfl) ?_
                      have J_206 : ∀ (k206_1 : Int64), ∀ (H : Heap) (locs : List Loc), oI A L τ cy D s.heap σ22 H locs → ∀ (ls : Array Slot), lv_has ls 4 [(0, .ref a0), (1, .int 0), (2, .int k38_0), (3, .int 0)] → W p l e ({ frames := 1, cells := 0, slots := 0, locals := 23 } : Room) s m args below meth c H locs 0 0 Q (F0 m 206 ls [.long k206_1, .ref a0]) := by
                        intro k206_1 H locs hw     ls hl
                        refine o_cv hw (oRunV cx hA hw q_X11_tell k_m_X11_278 rfl ha0 (by decide) (As := [.long k206_1]) (c_X11_tell a0 ha0 k206_1 (kn_iv ((kp_s eσ22)) (iv_w (⟨by decide, by decide⟩ : Iv 0 0 0) (by decide)))) (by decide) rfl hl.1 rfl (Nat.le_of_ble_eq_true rfl) dX11_day_206 (by decide)) (fun σ23 H locs hp hw => ?_)
                        obtain ⟨p24_0, p24_1⟩ := hp
                        have fr := oFr_tr fr p24_0 (by decide)
                        have x26 : (σ23.1 657 a0).toInt = (0 : Int32).toInt + 1 := fin_tr p24_1 ((kp_s eσ22))
                        have i25 : Iv (σ23.1 657 a0) 1 1 := iv_fin x26 (⟨by decide, by decide⟩ : Iv 0 0 0) (by decide)
                        refine lv_aload_n hx hb dX11_day_209 rfl (lv_at hl 0 rfl) ?_
                        refine lv_aload_n hx hb dX11_day_210 rfl (lv_at hl 0 rfl) ?_
                        refine g_675 cx hw ha0 k_f_X11_295 dX11_day_211 (fun v27 e27 => ?_)
                        rw [show v27 = 0 from e27.trans ((kp_c p24_0 (by decide)).trans ((kp_i eσ22 (by decide)).trans (kp_s eσ21)))]
                        refine lv_i2l hx hb dX11_day_214 rfl ?_
                        refine lv_topl (fun v28 e28 => ?_)
                        refine o_cv hw (oRunV cx hA hw q_X11_tell k_m_X11_278 rfl ha0 (by decide) (As := [.long v28]) (c_X11_tell a0 ha0 v28 (kn_iv (rfl) (iv_w i25 (by decide)))) (by decide) rfl hl.1 rfl (Nat.le_of_ble_eq_true rfl) dX11_day_215 (by decide)) (fun σ29 H locs hp hw => ?_)
                        obtain ⟨p30_0, p30_1⟩ := hp
                        have fr := oFr_tr fr p30_0 (by decide)
                        have x32 : (σ29.1 657 a0).toInt = (σ23.1 657 a0).toInt + 1 := fin_tr p30_1 (rfl)
                        have i31 : Iv (σ29.1 657 a0) 2 2 := iv_fin x32 i25 (by decide)
                        refine lv_iload_n hx hb dX11_day_218 rfl (lv_at hl 3 rfl) ?_
                        rw [← hQ]
                        exact o_ri cx rx hw dX11_day_219 ⟨fr, (iv_w (⟨by decide, by decide⟩ : Iv 0 0 0) (by decide))⟩
                      refine lv_icmp_ge (tgt := 205) hx hb dX11_day_198 (by decide) (fun c33 => ?_) (fun c33 => ?_)
                      · --
                        refine lv_lconst (v := 0) hx hb dX11_day_205 (by decide) ?_
                        exact J_206 0 _ _ hw _ (lv_sub hl [0, 1, 2, 3] rfl)
                      · --
                        exact iv_no (iv_lt1 (b' := (-1)) (iv_nle c33) (⟨by decide, by decide⟩ : Iv 0 0 0) (⟨by decide, by decide⟩ : Iv 0 0 0) (by decide)) (by decide)
                    refine lv_if_le (tgt := 190) hx hb dX11_day_179 (by decide) (fun c34 => ?_) (fun c34 => ?_)
                    · --
                      exact J_190 _ _ hw _ (lv_sub hl [0, 1, 2, 3] rfl)
                    · --
                      exact iv_no (iv_lt1 (b' := (-1)) (iv_nle c34) (⟨by decide, by decide⟩ : Iv 0 0 0) (⟨by decide, by decide⟩ : Iv 0 0 0) (by decide)) (by decide)
                  refine lv_icmp_ge (tgt := 178) hx hb dX11_day_124 (by decide) (fun c35 => ?_) (fun c35 => ?_)
                  · --
                    exact J_178 _ _ hw _ (lv_sub hl [0, 1, 2, 3] rfl)
                  · --
                    exact iv_no (iv_lt1 (b' := (-1)) (iv_nle c35) (⟨by decide, by decide⟩ : Iv 0 0 0) (⟨by decide, by decide⟩ : Iv 0 0 0) (by decide)) (by decide)
              exact J_122 _ _ _ hw (Nat.lt_succ_self _) _ (lv_sub hl [1, 2, 3, 0] rfl)
            · --
              exact iv_no (iv_eq1 (lo := 1) (hi := 0) c16 i15 (⟨by decide, by decide⟩ : Iv 0 0 0) (by decide)) (by decide)
          refine lv_icmp_ge (tgt := 89) hx hb dX11_day_78 (by decide) (fun c36 => ?_) (fun c36 => ?_)
          · --
            exact J_89 _ _ hw _ (lv_sub hl [0, 1, 2] rfl)
          · --
            exact iv_no (iv_lt1 (b' := (-1)) (iv_nle c36) p7_4 p7_2 (by decide)) (by decide)
        refine lv_if_eq (tgt := 70) hx hb dX11_day_40 (by decide) (fun c37 => ?_) (fun c37 => ?_)
        · --
          exact J_70 _ _ hw _ (lv_sub hl [0, 1, 2] rfl)
        · --
          exact iv_no (iv_ne1 c37 ik38_0 (⟨by decide, by decide⟩ : Iv 0 0 0) (by decide)) (by decide)
    exact J_39 _ _ _ hw (Nat.lt_succ_self _) _ (lv_sub hl [1, 2, 0] rfl)
  refine lv_if_le (tgt := 37) hx hb dX11_day_30 (by decide) (fun c38 => ?_) (fun c38 => ?_)
  · --
    refine lv_iconst (v := 0) hx hb dX11_day_37 (by decide) ?_
    exact J_38 0 (⟨by decide, by decide⟩ : Iv 0 0 0) _ _ hw _ (lv_sub hl [1, 0] rfl)
  · --
    exact iv_no (iv_lt1 (b' := (-1)) (iv_nle c38) (⟨by decide, by decide⟩ : Iv 0 0 0) p7_2 (by decide)) (by decide)
abbrev fs_X11_undo : List Nat := [658]
abbrev ts_X11_undo : List Nat := []
set_option maxHeartbeats 4000000 in
set_option maxRecDepth 100000 in
theorem c_X11_undo (a0 : Nat) (ha0 : oA L τ a0 10) (hf672 : Iv (σ.1 672 a0) 0 0) : oMet l A L τ cy D K yX11_undo cX11_undo 2 (some .int) 0 0 [.ref a0] σ (va_Qi (fun r σ1 => oFr τ fs_X11_undo ts_X11_undo σ σ1 ∧ Iv r (-1) (-1)) (oPo A L τ cy D) A) := by
  refine oMk (by decide) (Nat.le_of_ble_eq_true rfl) rfl ?_
  intro p e s m args below meth c ls cx rx hA hw hl
  generalize hQ : MQ below _ args s 0 0 A = Q
  have hx := cx.1.1
  have hb := cx.1.2.1
  have hml := cx.1.2.2.1
  have hown := cx.1.2.2.2.1
  have hts := cx.1.2.2.2.2
  have hl : lv_has ls 2 [(0, .ref a0)] := hl
  have fr : oFr τ fs_X11_undo ts_X11_undo σ σ := oFr_rf
  refine lv_aload_n hx hb dX11_undo_0 rfl (lv_at hl 0 rfl) ?_
  refine lv_iconst (v := 0) hx hb dX11_undo_1 (by decide) ?_
  refine p_658 cx hw ha0 k_f_X11_89 dX11_undo_2 (fun σ1 H locs eσ1 hw => ?_)
  have fr := oFr_i fr eσ1 (by decide)
  refine lv_aload_n hx hb dX11_undo_5 rfl (lv_at hl 0 rfl) ?_
  refine g_672 cx hw ha0 k_f_X11_168 dX11_undo_6 (fun v2 e2 i2 => ?_)
  rw [show v2 = (σ.1 672 a0) from e2.trans ((kp_i eσ1 (by decide)).trans rfl)]
  refine lv_if_ne (tgt := 14) hx hb dX11_undo_9 (by decide) (fun c3 => ?_) (fun c3 => ?_)
  · --
    exact iv_no (iv_ne1 c3 hf672 (⟨by decide, by decide⟩ : Iv 0 0 0) (by decide)) (by decide)
  · --
    refine lv_iconst (v := (-1)) hx hb dX11_undo_12 (by decide) ?_
    rw [← hQ]
    exact o_ri cx rx hw dX11_undo_13 ⟨fr, (iv_w (⟨by decide, by decide⟩ : Iv (-1) (-1) (-1)) (by decide))⟩
abbrev fs_X11_road : List Nat := [657, 658]
abbrev ts_X11_road : List Nat := [52]
set_option maxHeartbeats 4000000 in
set_option maxRecDepth 100000 in
theorem c_X11_road (a0 : Nat) (ha0 : oA L τ a0 10) : oMet l A L τ cy D K yX11_road cX11_road 9 (some .int) 3 67 [.ref a0] σ (va_Qi (fun r σ1 => oFr τ fs_X11_road ts_X11_road σ σ1 ∧ Iv r 0 0) (oPo A L τ cy D) A) := by
  refine oMk (by decide) (Nat.le_of_ble_eq_true rfl) rfl ?_
  intro p e s m args below meth c ls cx rx hA hw hl
  generalize hQ : MQ below _ args s 0 0 A = Q
  have hx := cx.1.1
  have hb := cx.1.2.1
  have hml := cx.1.2.2.1
  have hown := cx.1.2.2.2.1
  have hts := cx.1.2.2.2.2
  have hl : lv_has ls 9 [(0, .ref a0)] := hl
  have fr : oFr τ fs_X11_road ts_X11_road σ σ := oFr_rf
  refine lv_aload_n hx hb dX11_road_0 rfl (lv_at hl 0 rfl) ?_
  refine lv_iconst (v := 0) hx hb dX11_road_1 (by decide) ?_
  refine p_658 cx hw ha0 k_f_X11_89 dX11_road_2 (fun σ1 H locs eσ1 hw => ?_)
  have fr := oFr_i fr eσ1 (by decide)
  refine lv_aload_n hx hb dX11_road_5 rfl (lv_at hl 0 rfl) ?_
  refine lv_aload_n hx hb dX11_road_6 rfl (lv_at hl 0 rfl) ?_
  refine g_640 cx hw ha0 k_f_X11_9 dX11_road_7 (fun v2 e2 h2 => ?_)
  refine o_cl hw (oRunV cx hA hw q_X11_roadOf k_m_X11_313 rfl ha0 (by decide) (As := [.ref v2]) (c_X11_roadOf a0 ha0 v2 h2) (by decide) rfl hl.1 rfl (Nat.le_of_ble_eq_true rfl) dX11_road_10 (by decide)) (fun v4 σ3 H locs hp hw => ?_)
  obtain ⟨p4_0, p4_1⟩ := hp
  rw [p4_0] at hw
  rw [p4_1]
  refine lv_lstore_n (lv' := [(1, .long 0), (0, .ref a0)]) hx hb dX11_road_13 rfl hl (by decide) rfl (fun ls hl => ?_)
  refine lv_lload_n hx hb dX11_road_14 rfl (lv_at hl 0 rfl) ?_
  refine lv_lstore_n (lv' := [(3, .long 0), (1, .long 0), (0, .ref a0)]) hx hb dX11_road_15 rfl hl (by decide) rfl (fun ls hl => ?_)
  refine lv_iconst (v := 0) hx hb dX11_road_16 (by decide) ?_
  refine lv_istore (lv' := [(5, .int 0), (3, .long 0), (1, .long 0), (0, .ref a0)]) hx hb dX11_road_17 hl (by decide) rfl (fun ls hl => ?_)
  refine lv_iconst (v := 0) hx hb dX11_road_19 (by decide) ?_
  refine lv_istore (lv' := [(6, .int 0), (5, .int 0), (3, .long 0), (1, .long 0), (0, .ref a0)]) hx hb dX11_road_20 hl (by decide) rfl (fun ls hl => ?_)
  have J_22 : ∀ n22 : Nat, ∀ (H : Heap) (locs : List Loc), oI A L τ cy D s.heap σ1 H locs → lgN 0 < n22 → ∀ (ls : Array Slot), lv_has ls 9 [(0, .ref a0), (1, .long 0), (3, .long 0), (5, .int 0), (6, .int 0)] → W p l e ({ frames := 3, cells := 0, slots := 0, locals := 67 } : Room) s m args below meth c H locs 0 0 Q (F0 m 22 ls []) := by
    intro n22
    induction n22 with
    | zero => intro  H locs hw  hn_22   ls hl; exact absurd hn_22 (Nat.not_lt_zero _)
    | succ n22 ih_22 =>
      intro  H locs hw  hn_22   ls hl
      refine lv_lload_n hx hb dX11_road_22 rfl (lv_at hl 2 rfl) ?_
      refine lv_lconst (v := 0) hx hb dX11_road_23 (by decide) ?_
      refine W.lcmp hx hb dX11_road_24 ?_
      refine lv_topi (fun v5 e5 => ?_)
      have i5 : Iv v5 0 0 := (by rw [e5]; exact ⟨by decide, by decide⟩)
      refine lv_if_eq (tgt := 65) hx hb dX11_road_25 (by decide) (fun c6 => ?_) (fun c6 => ?_)
      · --
        refine lv_aload_n hx hb dX11_road_65 rfl (lv_at hl 0 rfl) ?_
        refine lv_iconst (v := 0) hx hb dX11_road_66 (by decide) ?_
        refine p_657 cx hw ha0 (iv_w (⟨by decide, by decide⟩ : Iv 0 0 0) (by decide)) k_f_X11_92 dX11_road_67 (fun σ7 H locs eσ7 hw => ?_)
        have fr := oFr_i fr eσ7 (by decide)
        refine lv_aload_n hx hb dX11_road_70 rfl (lv_at hl 0 rfl) ?_
        refine lv_lload_n hx hb dX11_road_71 rfl (lv_at hl 1 rfl) ?_
        refine o_cv hw (oRunV cx hA hw q_X11_tell k_m_X11_278 rfl ha0 (by decide) (As := [.long 0]) (c_X11_tell a0 ha0 0 (kn_iv ((kp_s eσ7)) (iv_w (⟨by decide, by decide⟩ : Iv 0 0 0) (by decide)))) (by decide) rfl hl.1 rfl (Nat.le_of_ble_eq_true rfl) dX11_road_72 (by decide)) (fun σ8 H locs hp hw => ?_)
        obtain ⟨p9_0, p9_1⟩ := hp
        have fr := oFr_tr fr p9_0 (by decide)
        have x11 : (σ8.1 657 a0).toInt = (0 : Int32).toInt + 1 := fin_tr p9_1 ((kp_s eσ7))
        have i10 : Iv (σ8.1 657 a0) 1 1 := iv_fin x11 (⟨by decide, by decide⟩ : Iv 0 0 0) (by decide)
        refine lv_aload_n hx hb dX11_road_75 rfl (lv_at hl 0 rfl) ?_
        refine lv_iload hx hb dX11_road_76 (lv_at hl 3 rfl) ?_
        refine lv_i2l hx hb dX11_road_78 rfl ?_
        refine lv_topl (fun v12 e12 => ?_)
        refine o_cv hw (oRunV cx hA hw q_X11_tell k_m_X11_278 rfl ha0 (by decide) (As := [.long v12]) (c_X11_tell a0 ha0 v12 (kn_iv (rfl) (iv_w i10 (by decide)))) (by decide) rfl hl.1 rfl (Nat.le_of_ble_eq_true rfl) dX11_road_79 (by decide)) (fun σ13 H locs hp hw => ?_)
        obtain ⟨p14_0, p14_1⟩ := hp
        have fr := oFr_tr fr p14_0 (by decide)
        have x16 : (σ13.1 657 a0).toInt = (σ8.1 657 a0).toInt + 1 := fin_tr p14_1 (rfl)
        have i15 : Iv (σ13.1 657 a0) 2 2 := iv_fin x16 i10 (by decide)
        refine lv_aload_n hx hb dX11_road_82 rfl (lv_at hl 0 rfl) ?_
        refine lv_iload hx hb dX11_road_83 (lv_at hl 4 rfl) ?_
        refine lv_i2l hx hb dX11_road_85 rfl ?_
        refine lv_topl (fun v17 e17 => ?_)
        refine o_cv hw (oRunV cx hA hw q_X11_tell k_m_X11_278 rfl ha0 (by decide) (As := [.long v17]) (c_X11_tell a0 ha0 v17 (kn_iv (rfl) (iv_w i15 (by decide)))) (by decide) rfl hl.1 rfl (Nat.le_of_ble_eq_true rfl) dX11_road_86 (by decide)) (fun σ18 H locs hp hw => ?_)
        obtain ⟨p19_0, p19_1⟩ := hp
        have fr := oFr_tr fr p19_0 (by decide)
        have x21 : (σ18.1 657 a0).toInt = (σ13.1 657 a0).toInt + 1 := fin_tr p19_1 (rfl)
        have i20 : Iv (σ18.1 657 a0) 3 3 := iv_fin x21 i15 (by decide)
        have x22 : (σ18.1 657 a0).toInt = (σ8.1 657 a0).toInt + 2 := by rw [x21, x16]; omega
        refine lv_lload_n hx hb dX11_road_89 rfl (lv_at hl 1 rfl) ?_
        refine o_ci hw (oRunS cx hA hw q_J13_bitCount_95d88 k_m_X11_321 (As := [.long 0]) (c_J13_bitCount_95d88Z 0 rfl) (by decide) rfl hl.1 rfl (Nat.le_of_ble_eq_true rfl) dX11_road_90 (by decide)) (fun v24 σ23 H locs hp hw => ?_)
        obtain ⟨p24_0, p24_1⟩ := hp
        rw [p24_0] at hw
        rw [← hQ]
        exact o_ri cx rx hw dX11_road_93 ⟨fr, (iv_w p24_1 (by decide))⟩
      · --
        exact iv_no (iv_ne1 c6 i5 (⟨by decide, by decide⟩ : Iv 0 0 0) (by decide)) (by decide)
  exact J_22 _ _ _ hw (Nat.lt_succ_self _) _ (lv_sub hl [4, 3, 2, 1, 0] rfl)
abbrev fs_X11_squares : List Nat := [657, 658]
abbrev ts_X11_squares : List Nat := [52]
set_option maxHeartbeats 4000000 in
set_option maxRecDepth 100000 in
theorem c_X11_squares (a0 : Nat) (ha0 : oA L τ a0 10) : oMet l A L τ cy D K yX11_squares cX11_squares 6 (some .int) 3 67 [.ref a0] σ (va_Qi (fun r σ1 => oFr τ fs_X11_squares ts_X11_squares σ σ1 ∧ Iv r 0 0) (oPo A L τ cy D) A) := by
  refine oMk (by decide) (Nat.le_of_ble_eq_true rfl) rfl ?_
  intro p e s m args below meth c ls cx rx hA hw hl
  generalize hQ : MQ below _ args s 0 0 A = Q
  have hx := cx.1.1
  have hb := cx.1.2.1
  have hml := cx.1.2.2.1
  have hown := cx.1.2.2.2.1
  have hts := cx.1.2.2.2.2
  have hl : lv_has ls 6 [(0, .ref a0)] := hl
  have fr : oFr τ fs_X11_squares ts_X11_squares σ σ := oFr_rf
  refine lv_aload_n hx hb dX11_squares_0 rfl (lv_at hl 0 rfl) ?_
  refine lv_iconst (v := 0) hx hb dX11_squares_1 (by decide) ?_
  refine p_658 cx hw ha0 k_f_X11_89 dX11_squares_2 (fun σ1 H locs eσ1 hw => ?_)
  have fr := oFr_i fr eσ1 (by decide)
  refine lv_aload_n hx hb dX11_squares_5 rfl (lv_at hl 0 rfl) ?_
  refine lv_aload_n hx hb dX11_squares_6 rfl (lv_at hl 0 rfl) ?_
  refine g_640 cx hw ha0 k_f_X11_9 dX11_squares_7 (fun v2 e2 h2 => ?_)
  refine o_cl hw (oRunV cx hA hw q_X11_roadOf k_m_X11_313 rfl ha0 (by decide) (As := [.ref v2]) (c_X11_roadOf a0 ha0 v2 h2) (by decide) rfl hl.1 rfl (Nat.le_of_ble_eq_true rfl) dX11_squares_10 (by decide)) (fun v4 σ3 H locs hp hw => ?_)
  obtain ⟨p4_0, p4_1⟩ := hp
  rw [p4_0] at hw
  rw [p4_1]
  refine lv_lstore_n (lv' := [(1, .long 0), (0, .ref a0)]) hx hb dX11_squares_13 rfl hl (by decide) rfl (fun ls hl => ?_)
  refine lv_lconst (v := 0) hx hb dX11_squares_14 (by decide) ?_
  refine lv_lstore_n (lv' := [(3, .long 0), (1, .long 0), (0, .ref a0)]) hx hb dX11_squares_15 rfl hl (by decide) rfl (fun ls hl => ?_)
  refine lv_iconst (v := 0) hx hb dX11_squares_16 (by decide) ?_
  refine lv_istore (lv' := [(5, .int 0), (3, .long 0), (1, .long 0), (0, .ref a0)]) hx hb dX11_squares_17 hl (by decide) rfl (fun ls hl => ?_)
  have J_19 : ∀ n19 : Nat, ∀ (j19_5 : Int32) (ij19_5 : Iv j19_5 0 64), ∀ (H : Heap) (locs : List Loc), oI A L τ cy D s.heap σ1 H locs → (64 - j19_5.toInt).toNat < n19 → ∀ (ls : Array Slot), lv_has ls 6 [(0, .ref a0), (1, .long 0), (3, .long 0), (5, .int j19_5)] → W p l e ({ frames := 3, cells := 0, slots := 0, locals := 67 } : Room) s m args below meth c H locs 0 0 Q (F0 m 19 ls []) := by
    intro n19
    induction n19 with
    | zero => intro j19_5 ij19_5 H locs hw  hn_19   ls hl; exact absurd hn_19 (Nat.not_lt_zero _)
    | succ n19 ih_19 =>
      intro j19_5 ij19_5 H locs hw  hn_19   ls hl
      refine lv_iload hx hb dX11_squares_19 (lv_at hl 3 rfl) ?_
      refine lv_bipush (v := 64) hx hb dX11_squares_21 (by decide) ?_
      refine lv_icmp_ge (tgt := 68) hx hb dX11_squares_23 (by decide) (fun c5 => ?_) (fun c5 => ?_)
      · --
        have i6 : Iv j19_5 64 64 := iv_le2 c5 (⟨by decide, by decide⟩ : Iv 64 64 64) ij19_5 (by decide)
        refine lv_aload_n hx hb dX11_squares_68 rfl (lv_at hl 0 rfl) ?_
        refine lv_iconst (v := 0) hx hb dX11_squares_69 (by decide) ?_
        refine p_657 cx hw ha0 (iv_w (⟨by decide, by decide⟩ : Iv 0 0 0) (by decide)) k_f_X11_92 dX11_squares_70 (fun σ7 H locs eσ7 hw => ?_)
        have fr := oFr_i fr eσ7 (by decide)
        refine lv_aload_n hx hb dX11_squares_73 rfl (lv_at hl 0 rfl) ?_
        refine lv_lload_n hx hb dX11_squares_74 rfl (lv_at hl 2 rfl) ?_
        refine o_cv hw (oRunV cx hA hw q_X11_tell k_m_X11_278 rfl ha0 (by decide) (As := [.long 0]) (c_X11_tell a0 ha0 0 (kn_iv ((kp_s eσ7)) (iv_w (⟨by decide, by decide⟩ : Iv 0 0 0) (by decide)))) (by decide) rfl hl.1 rfl (Nat.le_of_ble_eq_true rfl) dX11_squares_75 (by decide)) (fun σ8 H locs hp hw => ?_)
        obtain ⟨p9_0, p9_1⟩ := hp
        have fr := oFr_tr fr p9_0 (by decide)
        have x11 : (σ8.1 657 a0).toInt = (0 : Int32).toInt + 1 := fin_tr p9_1 ((kp_s eσ7))
        have i10 : Iv (σ8.1 657 a0) 1 1 := iv_fin x11 (⟨by decide, by decide⟩ : Iv 0 0 0) (by decide)
        refine lv_lload_n hx hb dX11_squares_78 rfl (lv_at hl 2 rfl) ?_
        refine o_ci hw (oRunS cx hA hw q_J13_bitCount_95d88 k_m_X11_321 (As := [.long 0]) (c_J13_bitCount_95d88Z 0 rfl) (by decide) rfl hl.1 rfl (Nat.le_of_ble_eq_true rfl) dX11_squares_79 (by decide)) (fun v13 σ12 H locs hp hw => ?_)
        obtain ⟨p13_0, p13_1⟩ := hp
        rw [p13_0] at hw
        rw [← hQ]
        exact o_ri cx rx hw dX11_squares_82 ⟨fr, (iv_w p13_1 (by decide))⟩
      · --
        have i14 : Iv j19_5 0 63 := iv_lt1 (iv_nle c5) ij19_5 (⟨by decide, by decide⟩ : Iv 64 64 64) (by decide)
        refine lv_lload_n hx hb dX11_squares_26 rfl (lv_at hl 2 rfl) ?_
        refine lv_lload_n hx hb dX11_squares_27 rfl (lv_at hl 1 rfl) ?_
        refine lv_iload hx hb dX11_squares_28 (lv_at hl 3 rfl) ?_
        refine o_ci hw (oRunS cx hA hw q_X11_has k_m_X11_215 (As := [.long 0, .int j19_5]) (c_X11_has 0 j19_5) (by decide) rfl hl.1 rfl (Nat.le_of_ble_eq_true rfl) dX11_squares_30 (by decide)) (fun v16 σ15 H locs hp hw => ?_)
        obtain ⟨p16_0, p16_1, p16_2⟩ := hp
        rw [p16_0] at hw
        refine lv_if_eq (tgt := 59) hx hb dX11_squares_33 (by decide) (fun c17 => ?_) (fun c17 => ?_)
        · --
          have i18 : Iv v16 0 0 := iv_eq1 c17 p16_1 (⟨by decide, by decide⟩ : Iv 0 0 0) (by decide)
          refine lv_lconst (v := 0) hx hb dX11_squares_59 (by decide) ?_
          refine lv_lor hx hb dX11_squares_60 ?_
          refine lv_topl (fun v19 e19 => ?_)
          rw [show v19 = 0 from (by rw [e19]; decide)]
          refine lv_lstore_n (lv' := [(3, .long 0), (0, .ref a0), (1, .long 0), (5, .int j19_5)]) hx hb dX11_squares_61 rfl hl (by decide) rfl (fun ls hl => ?_)
          obtain ⟨v20, e20⟩ : ∃ y : Int32, y = j19_5 + 1 := ⟨_, rfl⟩
          have i20 : Iv v20 1 64 := iv_add e20 i14 (⟨by decide, by decide⟩ : Iv 1 1 1) (by decide)
          have x20 : v20.toInt = j19_5.toInt + 1 := ex_add e20 i14 (⟨by decide, by decide⟩ : Iv 1 1 1) (by decide)
          refine lv_iinc (v := v20) (lv' := [(5, .int v20), (3, .long 0), (0, .ref a0), (1, .long 0)]) hx hb dX11_squares_62 hl (k := 3) rfl (by rw [e20]; rfl) (by decide) rfl (fun ls hl => ?_)
          refine lv_goto (tgt := 19) hx hb dX11_squares_65 (by decide) ?_
          exact ih_19 v20 (iv_w i20 (by decide)) _ _ hw (ms_up x20 (by decide) (iv_w (a' := 0) (b' := 64) i20 (by decide)).2 hn_19) _ (lv_sub hl [2, 3, 1, 0] rfl)
        · --
          have i21 : Iv v16 1 1 := iv_ne1 c17 p16_1 (⟨by decide, by decide⟩ : Iv 0 0 0) (by decide)
          refine lv_lconst (v := 1) hx hb dX11_squares_36 (by decide) ?_
          refine lv_iload hx hb dX11_squares_37 (lv_at hl 3 rfl) ?_
          refine lv_lshl hx hb dX11_squares_39 rfl ?_
          refine lv_topl (fun v22 e22 => ?_)
          refine o_cl hw (oRunS cx hA hw q_X11_besides k_m_X11_309 (As := [.long v22]) (c_X11_besides v22) (by decide) rfl hl.1 rfl (Nat.le_of_ble_eq_true rfl) dX11_squares_40 (by decide)) (fun v24 σ23 H locs hp hw => ?_)
          obtain ⟨p24_0, p24_1⟩ := hp
          rw [p24_0] at hw
          refine lv_lload_n hx hb dX11_squares_43 rfl (lv_at hl 1 rfl) ?_
          refine lv_land hx hb dX11_squares_44 ?_
          refine lv_topl (fun v25 e25 => ?_)
          rw [show v25 = 0 from (e25.trans (lg_and_zero _))]
          refine o_ci hw (oRunS cx hA hw q_J13_bitCount_95d88 k_m_X11_321 (As := [.long 0]) (c_J13_bitCount_95d88Z 0 rfl) (by decide) rfl hl.1 rfl (Nat.le_of_ble_eq_true rfl) dX11_squares_45 (by decide)) (fun v27 σ26 H locs hp hw => ?_)
          obtain ⟨p27_0, p27_1⟩ := hp
          rw [p27_0] at hw
          refine lv_iconst (v := 3) hx hb dX11_squares_48 (by decide) ?_
          refine lv_icmp_lt (tgt := 59) hx hb dX11_squares_49 (by decide) (fun c28 => ?_) (fun c28 => ?_)
          · --
            refine lv_lconst (v := 0) hx hb dX11_squares_59 (by decide) ?_
            refine lv_lor hx hb dX11_squares_60 ?_
            refine lv_topl (fun v29 e29 => ?_)
            rw [show v29 = 0 from (by rw [e29]; decide)]
            refine lv_lstore_n (lv' := [(3, .long 0), (0, .ref a0), (1, .long 0), (5, .int j19_5)]) hx hb dX11_squares_61 rfl hl (by decide) rfl (fun ls hl => ?_)
            obtain ⟨v30, e30⟩ : ∃ y : Int32, y = j19_5 + 1 := ⟨_, rfl⟩
            have i30 : Iv v30 1 64 := iv_add e30 i14 (⟨by decide, by decide⟩ : Iv 1 1 1) (by decide)
            have x30 : v30.toInt = j19_5.toInt + 1 := ex_add e30 i14 (⟨by decide, by decide⟩ : Iv 1 1 1) (by decide)
            refine lv_iinc (v := v30) (lv' := [(5, .int v30), (3, .long 0), (0, .ref a0), (1, .long 0)]) hx hb dX11_squares_62 hl (k := 3) rfl (by rw [e30]; rfl) (by decide) rfl (fun ls hl => ?_)
            refine lv_goto (tgt := 19) hx hb dX11_squares_65 (by decide) ?_
            exact ih_19 v30 (iv_w i30 (by decide)) _ _ hw (ms_up x30 (by decide) (iv_w (a' := 0) (b' := 64) i30 (by decide)).2 hn_19) _ (lv_sub hl [2, 3, 1, 0] rfl)
          · --
            exact iv_no (iv_le1 (b' := 2) (iv_nlt c28) (⟨by decide, by decide⟩ : Iv 3 3 3) p27_1 (by decide)) (by decide)
  exact J_19 _ 0 (iv_w (⟨by decide, by decide⟩ : Iv 0 0 0) (by decide)) _ _ hw (Nat.lt_succ_self _) _ (lv_sub hl [3, 2, 1, 0] rfl)
abbrev fs_X11_cart : List Nat := [658]
abbrev ts_X11_cart : List Nat := []
set_option maxHeartbeats 4000000 in
set_option maxRecDepth 100000 in
theorem c_X11_cart (a0 : Nat) (ha0 : oA L τ a0 10) (a1 : Int32) (a2 : Int32) : oMet l A L τ cy D K yX11_cart cX11_cart 8 (some .int) 2 43 [.ref a0, .int a1, .int a2] σ (va_Qi (fun r σ1 => oFr τ fs_X11_cart ts_X11_cart σ σ1 ∧ Iv r (-1) (-1)) (oPo A L τ cy D) A) := by
  refine oMk (by decide) (Nat.le_of_ble_eq_true rfl) rfl ?_
  intro p e s m args below meth c ls cx rx hA hw hl
  generalize hQ : MQ below _ args s 0 0 A = Q
  have hx := cx.1.1
  have hb := cx.1.2.1
  have hml := cx.1.2.2.1
  have hown := cx.1.2.2.2.1
  have hts := cx.1.2.2.2.2
  have hl : lv_has ls 8 [(0, .ref a0), (1, .int a1), (2, .int a2)] := hl
  have fr : oFr τ fs_X11_cart ts_X11_cart σ σ := oFr_rf
  obtain ⟨b676, hF676, hb676⟩ := hw.2.2.2.2.2 676 a0 66 (by rw [ha0.2]; rfl) ha0.1
  refine lv_aload_n hx hb dX11_cart_0 rfl (lv_at hl 0 rfl) ?_
  refine lv_iconst (v := 0) hx hb dX11_cart_1 (by decide) ?_
  refine p_658 cx hw ha0 k_f_X11_89 dX11_cart_2 (fun σ1 H locs eσ1 hw => ?_)
  have fr := oFr_i fr eσ1 (by decide)
  refine lv_aload_n hx hb dX11_cart_5 rfl (lv_at hl 0 rfl) ?_
  refine lv_iload_n hx hb dX11_cart_6 rfl (lv_at hl 1 rfl) ?_
  have i2 : Iv (σ1.1 641 a0) 0 0 := o_fb (j := 641) hw ha0 rfl
  have i3 : Iv (σ1.1 642 a0) 0 0 := o_fb (j := 642) hw ha0 rfl
  refine o_ci hw (oRunV cx hA hw q_X11_isCell k_m_X11_157 rfl ha0 (by decide) (As := [.int a1]) (c_X11_isCell a0 ha0 a1) (by decide) rfl hl.1 rfl (Nat.le_of_ble_eq_true rfl) dX11_cart_7 (by decide)) (fun v5 σ4 H locs hp hw => ?_)
  obtain ⟨p5_0, p5_1, p5_2, p5_3⟩ := hp
  rw [p5_0] at hw
  refine lv_if_eq (tgt := 21) hx hb dX11_cart_10 (by decide) (fun c6 => ?_) (fun c6 => ?_)
  · --
    refine lv_iconst (v := (-1)) hx hb dX11_cart_21 (by decide) ?_
    rw [← hQ]
    exact o_ri cx rx hw dX11_cart_22 ⟨fr, (iv_w (⟨by decide, by decide⟩ : Iv (-1) (-1) (-1)) (by decide))⟩
  · --
    exact iv_no (iv_ne1 c6 p5_1 (⟨by decide, by decide⟩ : Iv 0 0 0) (by decide)) (by decide)
abbrev fs_X11_joined : List Nat := [658]
abbrev ts_X11_joined : List Nat := []
set_option maxHeartbeats 4000000 in
set_option maxRecDepth 100000 in
theorem c_X11_joined (a0 : Nat) (ha0 : oA L τ a0 10) (a1 : Int32) : oMet l A L τ cy D K yX11_joined cX11_joined 8 (some .int) 2 43 [.ref a0, .int a1] σ (va_Qi (fun r σ1 => oFr τ fs_X11_joined ts_X11_joined σ σ1 ∧ Iv r (-1) (-1)) (oPo A L τ cy D) A) := by
  refine oMk (by decide) (Nat.le_of_ble_eq_true rfl) rfl ?_
  intro p e s m args below meth c ls cx rx hA hw hl
  generalize hQ : MQ below _ args s 0 0 A = Q
  have hx := cx.1.1
  have hb := cx.1.2.1
  have hml := cx.1.2.2.1
  have hown := cx.1.2.2.2.1
  have hts := cx.1.2.2.2.2
  have hl : lv_has ls 8 [(0, .ref a0), (1, .int a1)] := hl
  have fr : oFr τ fs_X11_joined ts_X11_joined σ σ := oFr_rf
  refine lv_aload_n hx hb dX11_joined_0 rfl (lv_at hl 0 rfl) ?_
  refine lv_iconst (v := 0) hx hb dX11_joined_1 (by decide) ?_
  refine p_658 cx hw ha0 k_f_X11_89 dX11_joined_2 (fun σ1 H locs eσ1 hw => ?_)
  have fr := oFr_i fr eσ1 (by decide)
  refine lv_aload_n hx hb dX11_joined_5 rfl (lv_at hl 0 rfl) ?_
  refine lv_iload_n hx hb dX11_joined_6 rfl (lv_at hl 1 rfl) ?_
  refine o_ci hw (oRunV cx hA hw q_X11_isHerd k_m_X11_237 rfl ha0 (by decide) (As := [.int a1]) (c_X11_isHerd a0 ha0 a1) (by decide) rfl hl.1 rfl (Nat.le_of_ble_eq_true rfl) dX11_joined_7 (by decide)) (fun v3 σ2 H locs hp hw => ?_)
  obtain ⟨p3_0, p3_1, p3_2⟩ := hp
  rw [p3_0] at hw
  refine lv_if_ne (tgt := 15) hx hb dX11_joined_10 (by decide) (fun c4 => ?_) (fun c4 => ?_)
  · --
    exact iv_no (iv_ne1 c4 p3_1 (⟨by decide, by decide⟩ : Iv 0 0 0) (by decide)) (by decide)
  · --
    refine lv_iconst (v := (-1)) hx hb dX11_joined_13 (by decide) ?_
    rw [← hQ]
    exact o_ri cx rx hw dX11_joined_14 ⟨fr, (iv_w (⟨by decide, by decide⟩ : Iv (-1) (-1) (-1)) (by decide))⟩
end OM
