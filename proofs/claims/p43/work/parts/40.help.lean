section OM
variable {l : Launch} {A : Nat → Prop} {L : List Nat} {τ : Nat → Nat} {cy : Nat → ClassId} {D : va_G} {K : (Nat → Nat) × (Nat → Nat)} {σ : oSt}
abbrev fs_L_cell : List Nat := []
abbrev ts_L_cell : List Nat := [62]
set_option maxHeartbeats 4000000 in
set_option maxRecDepth 100000 in
theorem c_L_cell (hfl : l.stackTraces = false) (a0 : Nat) (ha0 : oA L τ a0 9) (a1 : Int32) (a2 : Int32) (a3 : Nat) (ha3 : oA L τ a3 62) : oMetH l A L τ cy D K yL_cell cL_cell 5 (some .int) [(0, 10, 13, 13)] 7 104 [.ref a0, .int a1, .int a2, .ref a3] σ (va_Qi (fun r σ1 => oFr τ fs_L_cell ts_L_cell σ σ1 ∧ Iv r 0 1) (oPo A L τ cy D) A) := by
  refine oMkH (by decide) (Nat.le_of_ble_eq_true rfl) rfl ?_
  intro p e s m args below meth c ls cx rx htb hA hw hl
  generalize hQ : MQ below _ args s 1 6 A = Q
  have hx := cx.1.1
  have hb := cx.1.2.1
  have hml := cx.1.2.2.1
  have hown := cx.1.2.2.2.1
  have hts := cx.1.2.2.2.2
  have hl : lv_has ls 5 [(0, .ref a0), (1, .int a1), (2, .int a2), (3, .ref a3)] := hl
  refine lv_aload_n hx hb dL_cell_0 rfl (lv_at hl 3 rfl) ?_
  refine lv_iconst (v := 0) hx hb dL_cell_1 (by decide) ?_
  refine lv_aload_n hx hb dL_cell_2 rfl (lv_at hl 0 rfl) ?_
  refine lv_iload_n hx hb dL_cell_3 rfl (lv_at hl 1 rfl) ?_
  refine lv_iload_n hx hb dL_cell_4 rfl (lv_at hl 2 rfl) ?_
  refine o_xi cx hw (oRunX cx hA hw q_X10_cell k_m_L_7 rfl ha0 (by decide) (As := [.int a1, .int a2]) (c_X10_cell hfl a0 ha0 a1 a2) (by decide) rfl hl.1 rfl (Nat.le_of_ble_eq_true rfl) dL_cell_5 (by decide)) htb ⟨0, 10, 13, 13⟩ rfl (by decide) (by decide) k_c_L_13 (fun q H locs hw => ?_) (fun r σ1 H locs hp hw => ?_)
  · refine lv_astore (lv' := [(4, .ref q), (0, .ref a0), (1, .int a1), (2, .int a2), (3, .ref a3)]) hx hb dL_cell_13 hl (by decide) rfl (fun ls hl => ?_)
    refine lv_iconst (v := 1) hx hb dL_cell_15 (by decide) ?_
    rw [← hQ]
    exact o_ri cx rx hw dL_cell_16 ⟨oFr_rf, ⟨by decide, by decide⟩⟩
  · have f0 : oFr τ fs_L_cell ts_L_cell σ σ1 := by rw [show σ1 = σ from hp]; exact oFr_rf
    refine lv_i2l hx hb dL_cell_8 rfl ?_
    refine lv_topl (fun v ev => ?_)
    refine o_last cx hw ha3 (by decide) rfl (iv_in (⟨by decide, by decide⟩ : Iv 0 0 0) (by decide)) dL_cell_9 (fun σ2 H locs e2 hw => ?_)
    refine lv_goto (tgt := 17) hx hb dL_cell_10 (by decide) ?_
    refine lv_iconst (v := 0) hx hb dL_cell_17 (by decide) ?_
    rw [← hQ]
    exact o_ri cx rx hw dL_cell_18 ⟨oFr_q f0 e2 ha3 (by decide), ⟨by decide, by decide⟩⟩
abbrev fs_L_herd : List Nat := [517]
abbrev ts_L_herd : List Nat := [37, 38, 62]
set_option maxHeartbeats 4000000 in
set_option maxRecDepth 100000 in
theorem c_L_herd (hfl : l.stackTraces = false) (a0 : Nat) (ha0 : oA L τ a0 9) (a1 : Int32) (a2 : Int32) (a3 : Nat) (ha3 : oA L τ a3 62) : oMetH l A L τ cy D K yL_herd cL_herd 5 (some .int) [(0, 10, 13, 13)] 7 104 [.ref a0, .int a1, .int a2, .ref a3] σ (va_Qi (fun r σ1 => oFr τ fs_L_herd ts_L_herd σ σ1 ∧ Iv r 0 1) (oPo A L τ cy D) A) := by
  refine oMkH (by decide) (Nat.le_of_ble_eq_true rfl) rfl ?_
  intro p e s m args below meth c ls cx rx htb hA hw hl
  generalize hQ : MQ below _ args s 1 6 A = Q
  have hx := cx.1.1
  have hb := cx.1.2.1
  have hml := cx.1.2.2.1
  have hown := cx.1.2.2.2.1
  have hts := cx.1.2.2.2.2
  have hl : lv_has ls 5 [(0, .ref a0), (1, .int a1), (2, .int a2), (3, .ref a3)] := hl
  refine lv_aload_n hx hb dL_herd_0 rfl (lv_at hl 3 rfl) ?_
  refine lv_iconst (v := 0) hx hb dL_herd_1 (by decide) ?_
  refine lv_aload_n hx hb dL_herd_2 rfl (lv_at hl 0 rfl) ?_
  refine lv_iload_n hx hb dL_herd_3 rfl (lv_at hl 1 rfl) ?_
  refine lv_iload_n hx hb dL_herd_4 rfl (lv_at hl 2 rfl) ?_
  refine o_xi cx hw (oRunX cx hA hw q_X10_herd k_m_L_15 rfl ha0 (by decide) (As := [.int a1, .int a2]) (c_X10_herd hfl a0 ha0 a1 a2) (by decide) rfl hl.1 rfl (Nat.le_of_ble_eq_true rfl) dL_herd_5 (by decide)) htb ⟨0, 10, 13, 13⟩ rfl (by decide) (by decide) k_c_L_13 (fun q H locs hw => ?_) (fun r σ1 H locs hp hw => ?_)
  · refine lv_astore (lv' := [(4, .ref q), (0, .ref a0), (1, .int a1), (2, .int a2), (3, .ref a3)]) hx hb dL_herd_13 hl (by decide) rfl (fun ls hl => ?_)
    refine lv_iconst (v := 1) hx hb dL_herd_15 (by decide) ?_
    rw [← hQ]
    exact o_ri cx rx hw dL_herd_16 ⟨oFr_rf, ⟨by decide, by decide⟩⟩
  · have f0 : oFr τ fs_L_herd ts_L_herd σ σ1 := oFr_tr oFr_rf hp (by decide)
    refine lv_i2l hx hb dL_herd_8 rfl ?_
    refine lv_topl (fun v ev => ?_)
    refine o_last cx hw ha3 (by decide) rfl (iv_in (⟨by decide, by decide⟩ : Iv 0 0 0) (by decide)) dL_herd_9 (fun σ2 H locs e2 hw => ?_)
    refine lv_goto (tgt := 17) hx hb dL_herd_10 (by decide) ?_
    refine lv_iconst (v := 0) hx hb dL_herd_17 (by decide) ?_
    rw [← hQ]
    exact o_ri cx rx hw dL_herd_18 ⟨oFr_q f0 e2 ha3 (by decide), ⟨by decide, by decide⟩⟩
abbrev fs_L_row : List Nat := []
abbrev ts_L_row : List Nat := [62]
set_option maxHeartbeats 4000000 in
set_option maxRecDepth 100000 in
theorem c_L_row (hfl : l.stackTraces = false) (a0 : Nat) (ha0 : oA L τ a0 9) (a1 : Int32) (a2 : Nat) (ha2 : oA L τ a2 62) : oMetH l A L τ cy D K yL_row cL_row 4 (some .int) [(0, 8, 11, 13)] 7 103 [.ref a0, .int a1, .ref a2] σ (va_Qi (fun r σ1 => oFr τ fs_L_row ts_L_row σ σ1 ∧ Iv r 0 1) (oPo A L τ cy D) A) := by
  refine oMkH (by decide) (Nat.le_of_ble_eq_true rfl) rfl ?_
  intro p e s m args below meth c ls cx rx htb hA hw hl
  generalize hQ : MQ below _ args s 1 6 A = Q
  have hx := cx.1.1
  have hb := cx.1.2.1
  have hml := cx.1.2.2.1
  have hown := cx.1.2.2.2.1
  have hts := cx.1.2.2.2.2
  have hl : lv_has ls 4 [(0, .ref a0), (1, .int a1), (2, .ref a2)] := hl
  refine lv_aload_n hx hb dL_row_0 rfl (lv_at hl 2 rfl) ?_
  refine lv_iconst (v := 0) hx hb dL_row_1 (by decide) ?_
  refine lv_aload_n hx hb dL_row_2 rfl (lv_at hl 0 rfl) ?_
  refine lv_iload_n hx hb dL_row_3 rfl (lv_at hl 1 rfl) ?_
  refine o_xl cx hw (oRunX cx hA hw q_X10_row k_m_L_18 rfl ha0 (by decide) (As := [.int a1]) (c_X10_row hfl a0 ha0 a1) (by decide) rfl hl.1 rfl (Nat.le_of_ble_eq_true rfl) dL_row_4 (by decide)) htb ⟨0, 8, 11, 13⟩ rfl (by decide) (by decide) k_c_L_13 (fun q H locs hw => ?_) (fun r σ1 H locs hp hw => ?_)
  · refine lv_astore_n (lv' := [(3, .ref q), (0, .ref a0), (1, .int a1), (2, .ref a2)]) hx hb dL_row_11 rfl hl (by decide) rfl (fun ls hl => ?_)
    refine lv_iconst (v := 1) hx hb dL_row_12 (by decide) ?_
    rw [← hQ]
    exact o_ri cx rx hw dL_row_13 ⟨oFr_rf, ⟨by decide, by decide⟩⟩
  · have f0 : oFr τ fs_L_row ts_L_row σ σ1 := by rw [show σ1 = σ from hp]; exact oFr_rf
    refine o_last cx hw ha2 (by decide) rfl (iv_in (⟨by decide, by decide⟩ : Iv 0 0 0) (by decide)) dL_row_7 (fun σ2 H locs e2 hw => ?_)
    refine lv_goto (tgt := 14) hx hb dL_row_8 (by decide) ?_
    refine lv_iconst (v := 0) hx hb dL_row_14 (by decide) ?_
    rw [← hQ]
    exact o_ri cx rx hw dL_row_15 ⟨oFr_q f0 e2 ha2 (by decide), ⟨by decide, by decide⟩⟩
end OM
