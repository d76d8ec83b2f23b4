section OM
variable {l : Launch} {A : Nat → Prop} {L : List Nat} {τ : Nat → Nat} {cy : Nat → ClassId} {D : va_G} {K : (Nat → Nat) × (Nat → Nat)} {σ : oSt}
set_option maxHeartbeats 4000000 in
set_option maxRecDepth 100000 in
theorem c_X10_cell (hfl : l.stackTraces = false) (a0 : Nat) (ha0 : oA L τ a0 9) (a1 : Int32) (a2 : Int32) (hz : HZ L τ σ) : oMetX l A L τ cy D K yX10_cell cX10_cell 3 (some .int) 6 82 [.ref a0, .int a1, .int a2] σ (va_Qi (fun r σ1 => σ1 = σ ∧ (False)) (oPo A L τ cy D) A) := by
  refine oMkX (by decide) (Nat.le_of_ble_eq_true rfl) rfl ?_
  intro p e s m args below meth c ls cx rx ht hA hw hl
  generalize hQ : vx_MQ below _ _ args s 1 6 A = Q
  have hx := cx.1.1
  have hb := cx.1.2.1
  have hml := cx.1.2.2.1
  have hown := cx.1.2.2.2.1
  have hts := cx.1.2.2.2.2
  have hl : lv_has ls 3 [(0, .ref a0), (1, .int a1), (2, .int a2)] := hl
  refine lv_aload_n hx hb dX10_cell_0 rfl (lv_at hl 0 rfl) ?_
  refine g_578 cx hw ha0 k_f_X10_26 dX10_cell_1 (fun v1 e1 h1 => ?_)
  refine lv_iload_n hx hb dX10_cell_4 rfl (lv_at hl 1 rfl) ?_
  refine o_ci hw (oRunV cx hA hw q_X2_isThere k_m_X10_135 rfl h1 (by decide) (As := [.int a1]) (c_X2_isThere v1 h1 a1 hz) (by decide) rfl hl.1 rfl (Nat.le_of_ble_eq_true rfl) dX10_cell_5 (by decide)) (fun v3 σ2 H locs hp hw => ?_)
  obtain ⟨p3_0, p3_1⟩ := hp
  rw [p3_0] at hw
  have J_21 : ∀ (H : Heap) (locs : List Loc), oI A L τ cy D s.heap σ H locs → ∀ (ls : Array Slot), lv_has ls 3 [(0, .ref a0), (1, .int a1), (2, .int a2)] → W p l e ({ frames := 6, cells := 1, slots := 6, locals := 82 } : Room) s m args below meth c H locs 0 0 Q (F0 m 21 ls []) := by
    intro  H locs hw     ls hl
    rw [← hQ]
    exact o_throwS cx hfl rx ht hw hA hl.1 cx.2.2.2.1.2.2.2.2.1 (by decide) (by decide) dX10_cell_21 dX10_cell_24 dX10_cell_25 dX10_cell_27 dX10_cell_30
  refine lv_if_eq (tgt := 21) hx hb dX10_cell_8 (by decide) (fun c4 => ?_) (fun c4 => ?_)
  · --
    exact J_21 _ _ hw _ (lv_sub hl [0, 1, 2] rfl)
  · --
    exact iv_no (iv_ne1 c4 p3_1 (⟨by decide, by decide⟩ : Iv 0 0 0) (by decide)) (by decide)
set_option maxHeartbeats 4000000 in
set_option maxRecDepth 100000 in
theorem c_X10_herd (hfl : l.stackTraces = false) (a0 : Nat) (ha0 : oA L τ a0 9) (a1 : Int32) (a2 : Int32) : oMetX l A L τ cy D K yX10_herd cX10_herd 3 (some .int) 6 82 [.ref a0, .int a1, .int a2] σ (va_Qi (fun r σ1 => σ1 = σ ∧ (False)) (oPo A L τ cy D) A) := by
  refine oMkX (by decide) (Nat.le_of_ble_eq_true rfl) rfl ?_
  intro p e s m args below meth c ls cx rx ht hA hw hl
  generalize hQ : vx_MQ below _ _ args s 1 6 A = Q
  have hx := cx.1.1
  have hb := cx.1.2.1
  have hml := cx.1.2.2.1
  have hown := cx.1.2.2.2.1
  have hts := cx.1.2.2.2.2
  have hl : lv_has ls 3 [(0, .ref a0), (1, .int a1), (2, .int a2)] := hl
  refine lv_aload_n hx hb dX10_herd_0 rfl (lv_at hl 0 rfl) ?_
  refine g_581 cx hw ha0 k_f_X10_49 dX10_herd_1 (fun v1 e1 h1 => ?_)
  refine lv_iload_n hx hb dX10_herd_4 rfl (lv_at hl 1 rfl) ?_
  refine o_ci hw (oRunV cx hA hw q_X6_hasHerd k_m_X10_178 rfl h1 (by decide) (As := [.int a1]) (c_X6_hasHerd v1 h1 a1) (by decide) rfl hl.1 rfl (Nat.le_of_ble_eq_true rfl) dX10_herd_5 (by decide)) (fun v3 σ2 H locs hp hw => ?_)
  obtain ⟨p3_0, p3_1, p3_2⟩ := hp
  rw [p3_0] at hw
  have J_20 : ∀ (H : Heap) (locs : List Loc), oI A L τ cy D s.heap σ H locs → ∀ (ls : Array Slot), lv_has ls 3 [(0, .ref a0), (1, .int a1), (2, .int a2)] → W p l e ({ frames := 6, cells := 1, slots := 6, locals := 82 } : Room) s m args below meth c H locs 0 0 Q (F0 m 20 ls []) := by
    intro  H locs hw     ls hl
    rw [← hQ]
    exact o_throwS cx hfl rx ht hw hA hl.1 cx.2.2.2.1.2.2.2.2.2.1 (by decide) (by decide) dX10_herd_20 dX10_herd_23 dX10_herd_24 dX10_herd_26 dX10_herd_29
  refine lv_if_eq (tgt := 20) hx hb dX10_herd_8 (by decide) (fun c4 => ?_) (fun c4 => ?_)
  · --
    exact J_20 _ _ hw _ (lv_sub hl [0, 1, 2] rfl)
  · --
    exact iv_no (iv_ne1 c4 p3_1 (⟨by decide, by decide⟩ : Iv 0 0 0) (by decide)) (by decide)
set_option maxHeartbeats 4000000 in
set_option maxRecDepth 100000 in
theorem c_X10_row (hfl : l.stackTraces = false) (a0 : Nat) (ha0 : oA L τ a0 9) (a1 : Int32) (hb577_193 : ∀ b, σ.2.2.2.2 577 a0 = some b → Iv (σ.1 193 b) 0 0) : oMetX l A L τ cy D K yX10_row cX10_row 2 (some .long) 6 82 [.ref a0, .int a1] σ (va_Ql (fun r σ1 => σ1 = σ ∧ (False)) (oPo A L τ cy D) A) := by
  refine oMkX (by decide) (Nat.le_of_ble_eq_true rfl) rfl ?_
  intro p e s m args below meth c ls cx rx ht hA hw hl
  generalize hQ : vx_MQ below _ _ args s 1 6 A = Q
  have hx := cx.1.1
  have hb := cx.1.2.1
  have hml := cx.1.2.2.1
  have hown := cx.1.2.2.2.1
  have hts := cx.1.2.2.2.2
  have hl : lv_has ls 2 [(0, .ref a0), (1, .int a1)] := hl
  obtain ⟨b577, hF577, hb577⟩ := hw.2.2.2.2.2 577 a0 3 (by rw [ha0.2]; rfl) ha0.1
  have zb577_193 := hb577_193 b577 hF577
  refine lv_iload_n hx hb dX10_row_0 rfl (lv_at hl 1 rfl) ?_
  have J_15 : ∀ (H : Heap) (locs : List Loc), oI A L τ cy D s.heap σ H locs → ∀ (ls : Array Slot), lv_has ls 2 [(0, .ref a0), (1, .int a1)] → W p l e ({ frames := 6, cells := 1, slots := 6, locals := 82 } : Room) s m args below meth c H locs 0 0 Q (F0 m 15 ls []) := by
    intro  H locs hw     ls hl
    rw [← hQ]
    exact o_throwSW cx hfl rx ht hw hA hl.1 cx.2.2.2.1.2.2.2.2.2.2 (by decide) (by decide) dX10_row_15 dX10_row_18 dX10_row_19 dX10_row_22 dX10_row_25
  refine lv_if_lt (tgt := 15) hx hb dX10_row_1 (by decide) (fun c1 => ?_) (fun c1 => ?_)
  · --
    have i2 : Iv a1 (-2147483648) (-1) := iv_lt1 c1 (iv_top a1) (⟨by decide, by decide⟩ : Iv 0 0 0) (by decide)
    exact J_15 _ _ hw _ (lv_sub hl [0, 1] rfl)
  · --
    have i3 : Iv a1 0 2147483647 := iv_le2 (iv_nlt c1) (⟨by decide, by decide⟩ : Iv 0 0 0) (iv_top a1) (by decide)
    refine lv_iload_n hx hb dX10_row_4 rfl (lv_at hl 1 rfl) ?_
    refine lv_aload_n hx hb dX10_row_5 rfl (lv_at hl 0 rfl) ?_
    refine g_577 cx hw ha0 k_f_X10_19 dX10_row_6 (fun v4 e4 h4 => ?_)
    rw [show v4 = b577 from Option.some.inj (e4.symm.trans (hF577))]
    refine g_193 cx hw hb577 k_f_X10_469 dX10_row_9 (fun v5 e5 i5 => ?_)
    rw [show v5 = (σ.1 193 b577) from e5.trans rfl]
    refine lv_icmp_lt (tgt := 26) hx hb dX10_row_12 (by decide) (fun c6 => ?_) (fun c6 => ?_)
    · --
      exact iv_no (iv_lt1 (b' := (-1)) c6 i3 zb577_193 (by decide)) (by decide)
    · --
      exact J_15 _ _ hw _ (lv_sub hl [0, 1] rfl)
end OM
