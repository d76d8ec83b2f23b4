section LAW
variable {p : Program} {l : Launch} {e : Env} {s : State} {m : MethodId} {args : Array Value} {below : List Frame} {meth : Method} {c : Code} {H : Heap} {locs : List Loc} {cells slots : Nat} {Q : State → Prop}
variable {ls : Array Slot} {A : Nat → Prop} {L : List Nat} {τ : Nat → Nat} {cy : Nat → ClassId} {D : va_G} {K : (Nat → Nat) × (Nat → Nat)} {σ : oSt} {b N x k o t w : Nat} {xs : Nat → Int32} {i : Int32}
set_option maxHeartbeats 4000000 in
set_option maxRecDepth 100000 in
theorem lc_32 (cx : oCx p s m args c cL_law 8 RL cy D A K) (hA : ∀ q, s.heap.size ≤ q → A q) (hfl : l.stackTraces = false) (hX : va_X b N xs s s.heap) (hbl : b < s.heap.size) (hbA : ¬ A b) (hN : N ≤ 2560) (h0 : 0 ≤ i.toInt) (h5 : i.toInt + 5 ≤ (N : Int)) (hw : oI A L τ cy D s.heap σ H locs) (I : lI L τ σ x k o t w) (F : lF L τ σ x k) (hl : lv_has ls 8 [(4, .int i), (3, .ref o), (2, .ref k), (1, .ref x), (0, .ref b)]) (hf0 : cells + 0 ≤ room_1.cells ∧ slots + 0 ≤ room_1.slots) (hf1 : cells + 1 ≤ room_1.cells ∧ slots + 6 ≤ room_1.slots) (hf2 : cells + 1 + 0 ≤ room_1.cells ∧ slots + 6 + 0 ≤ room_1.slots)
    (kk : ∀ (σ1 : oSt) (H1 : Heap) (locs1 : List Loc) (ls1 : Array Slot), oI A L τ cy D s.heap σ1 H1 locs1 → lv_has ls1 8 [(4, .int i), (3, .ref o), (2, .ref k), (1, .ref x), (0, .ref b)] → W p l e room_1 s m args below meth c H1 locs1 (cells + 1) (slots + 6) Q (F0 m 1516 ls1 [])) : W p l e room_1 s m args below meth c H locs cells slots Q (F0 m 1138 ls []) := by
  have hx := cx.1.1
  have hb := cx.1.2.1
  have hml := cx.1.2.2.1
  have hown := cx.1.2.2.2.1
  have hts := cx.1.2.2.2.2
  have fr : oFr τ fs_law ts_law σ σ := oFr_rf
  obtain ⟨t1, t2, t3, t4⟩ := id I.2.2.2.2.2
  have i641 : Iv (σ.1 641 k) 0 0 := o_fb (j := 641) hw I.2.1 rfl
  have i642 : Iv (σ.1 642 k) 0 0 := o_fb (j := 642) hw I.2.1 rfl
  obtain ⟨hq, b_576_385, b_585_130, b_581_330, b_581_329, b_581_331, b_580_514, b_580_515, b_577_193, f587, f588, f655, f672, f653, f650, f651, f657⟩ := id F
  have hz := hq_hz hq
  have f385 := b_576_385 t I.2.2.2.1
  have f514 := b_580_514 w I.2.2.2.2.1
  have f515 := b_580_515 w I.2.2.2.2.1
  have hw0 := hw
  refine lv_aload_n hx hb dL_law_1138 rfl (lv_at hl 3 rfl) ?_
  refine lv_aload_n hx hb dL_law_1139 rfl (lv_at hl 4 rfl) ?_
  refine lv_iload hx hb dL_law_1140 (lv_at hl 0 rfl) ?_
  refine lv_iconst (v := 1) hx hb dL_law_1142 (by decide) ?_
  refine lv_iadd hx hb dL_law_1143 ?_
  refine va_sld hx hb hX hbl hbA hw.2.2.1 (lx_in h0 h5 hN (by decide)) dL_law_1144 ?_
  refine lv_topi (fun v1 e1 => ?_)
  refine lv_aload_n hx hb dL_law_1145 rfl (lv_at hl 4 rfl) ?_
  refine lv_iload hx hb dL_law_1146 (lv_at hl 0 rfl) ?_
  refine lv_iconst (v := 2) hx hb dL_law_1148 (by decide) ?_
  refine lv_iadd hx hb dL_law_1149 ?_
  refine va_sld hx hb hX hbl hbA hw.2.2.1 (lx_in h0 h5 hN (by decide)) dL_law_1150 ?_
  refine lv_topi (fun v2 e2 => ?_)
  refine lv_aload_n hx hb dL_law_1151 rfl (lv_at hl 4 rfl) ?_
  refine lv_iload hx hb dL_law_1152 (lv_at hl 0 rfl) ?_
  refine lv_iconst (v := 3) hx hb dL_law_1154 (by decide) ?_
  refine lv_iadd hx hb dL_law_1155 ?_
  refine va_sld hx hb hX hbl hbA hw.2.2.1 (lx_in h0 h5 hN (by decide)) dL_law_1156 ?_
  refine lv_topi (fun v3 e3 => ?_)
  refine o_ci hw (oRunV cx hA hw q_X10_gates k_m_L_162 rfl I.1 (by decide) (As := [.int v1, .int v2, .int v3]) (c_X10_gates x I.1 v1 v2 v3 hz) (by decide) rfl hl.1 rfl (Nat.le_of_ble_eq_true rfl) dL_law_1157 hf0) (fun v5 σ4 H locs hp hw => ?_)
  obtain ⟨p5_0, p5_1⟩ := hp
  rw [p5_0] at hw
  refine lv_aload_n hx hb dL_law_1160 rfl (lv_at hl 2 rfl) ?_
  refine lv_aload_n hx hb dL_law_1161 rfl (lv_at hl 4 rfl) ?_
  refine lv_iload hx hb dL_law_1162 (lv_at hl 0 rfl) ?_
  refine lv_iconst (v := 1) hx hb dL_law_1164 (by decide) ?_
  refine lv_iadd hx hb dL_law_1165 ?_
  refine va_sld hx hb hX hbl hbA hw.2.2.1 (lx_in h0 h5 hN (by decide)) dL_law_1166 ?_
  refine lv_topi (fun v6 e6 => ?_)
  rw [show v6 = v1 from e6.trans e1.symm]
  refine lv_aload_n hx hb dL_law_1167 rfl (lv_at hl 4 rfl) ?_
  refine lv_iload hx hb dL_law_1168 (lv_at hl 0 rfl) ?_
  refine lv_iconst (v := 2) hx hb dL_law_1170 (by decide) ?_
  refine lv_iadd hx hb dL_law_1171 ?_
  refine va_sld hx hb hX hbl hbA hw.2.2.1 (lx_in h0 h5 hN (by decide)) dL_law_1172 ?_
  refine lv_topi (fun v7 e7 => ?_)
  rw [show v7 = v2 from e7.trans e2.symm]
  refine lv_aload_n hx hb dL_law_1173 rfl (lv_at hl 4 rfl) ?_
  refine lv_iload hx hb dL_law_1174 (lv_at hl 0 rfl) ?_
  refine lv_iconst (v := 3) hx hb dL_law_1176 (by decide) ?_
  refine lv_iadd hx hb dL_law_1177 ?_
  refine va_sld hx hb hX hbl hbA hw.2.2.1 (lx_in h0 h5 hN (by decide)) dL_law_1178 ?_
  refine lv_topi (fun v8 e8 => ?_)
  rw [show v8 = v3 from e8.trans e3.symm]
  refine o_ci hw (oRunV cx hA hw q_X11_gates k_m_L_166 rfl I.2.1 (by decide) (As := [.int v1, .int v2, .int v3]) (c_X11_gates k I.2.1 v1 v2 v3) (by decide) rfl hl.1 rfl (Nat.le_of_ble_eq_true rfl) dL_law_1179 hf0) (fun v10 σ9 H locs hp hw => ?_)
  obtain ⟨p10_0, p10_1⟩ := hp
  have fr := oFr_tr fr p10_0 (by decide)
  refine lv_icmp_eq (tgt := 1516) hx hb dL_law_1182 (by decide) (fun c11 => ?_) (fun c11 => absurd (i32_eq (by have := (f385).1; have := (f385).2; have := (f514).1; have := (f514).2; have := (f515).1; have := (f515).2; have := (f587).1; have := (f587).2; have := (f588).1; have := (f588).2; have := (f655).1; have := (f655).2; have := (f672).1; have := (f672).2; have := (f653).1; have := (f653).2; have := (f650).1; have := (f650).2; have := (f651).1; have := (f651).2; have := (f657).1; have := (f657).2; have := (i641).1; have := (i641).2; have := (i642).1; have := (i642).2; have := (p5_1).1; have := (p5_1).2; have := (p10_1).1; have := (p10_1).2; have : (σ9.1 385 t).toInt = ((σ.1 385 t) : Int32).toInt := congrArg Int32.toInt (show σ9.1 385 t = (σ.1 385 t) from ((kp_c p10_0 (by decide)).trans rfl)); have : (σ9.1 514 w).toInt = ((σ.1 514 w) : Int32).toInt := congrArg Int32.toInt (show σ9.1 514 w = (σ.1 514 w) from ((kp_c p10_0 (by decide)).trans rfl)); have : (σ9.1 515 w).toInt = ((σ.1 515 w) : Int32).toInt := congrArg Int32.toInt (show σ9.1 515 w = (σ.1 515 w) from ((kp_c p10_0 (by decide)).trans rfl)); have : (σ9.1 587 x).toInt = ((σ.1 587 x) : Int32).toInt := congrArg Int32.toInt (show σ9.1 587 x = (σ.1 587 x) from ((kp_c p10_0 (by decide)).trans rfl)); have : (σ9.1 588 x).toInt = ((σ.1 588 x) : Int32).toInt := congrArg Int32.toInt (show σ9.1 588 x = (σ.1 588 x) from ((kp_c p10_0 (by decide)).trans rfl)); have : (σ9.1 655 k).toInt = ((σ.1 655 k) : Int32).toInt := congrArg Int32.toInt (show σ9.1 655 k = (σ.1 655 k) from ((kp_c p10_0 (by decide)).trans rfl)); have : (σ9.1 672 k).toInt = ((σ.1 672 k) : Int32).toInt := congrArg Int32.toInt (show σ9.1 672 k = (σ.1 672 k) from ((kp_c p10_0 (by decide)).trans rfl)); have : (σ9.1 653 k).toInt = ((σ.1 653 k) : Int32).toInt := congrArg Int32.toInt (show σ9.1 653 k = (σ.1 653 k) from ((kp_c p10_0 (by decide)).trans rfl)); have : (σ9.1 650 k).toInt = ((σ.1 650 k) : Int32).toInt := congrArg Int32.toInt (show σ9.1 650 k = (σ.1 650 k) from ((kp_c p10_0 (by decide)).trans rfl)); have : (σ9.1 651 k).toInt = ((σ.1 651 k) : Int32).toInt := congrArg Int32.toInt (show σ9.1 651 k = (σ.1 651 k) from ((kp_c p10_0 (by decide)).trans rfl)); have : (σ9.1 657 k).toInt = ((σ.1 657 k) : Int32).toInt := congrArg Int32.toInt (show σ9.1 657 k = (σ.1 657 k) from ((kp_c p10_0 (by decide)).trans rfl)); have : (σ9.1 641 k).toInt = ((σ.1 641 k) : Int32).toInt := congrArg Int32.toInt (show σ9.1 641 k = (σ.1 641 k) from ((kp_c p10_0 (by decide)).trans rfl)); have : (σ9.1 642 k).toInt = ((σ.1 642 k) : Int32).toInt := congrArg Int32.toInt (show σ9.1 642 k = (σ.1 642 k) from ((kp_c p10_0 (by decide)).trans rfl)); omega)) c11)
  refine W.widen (k := cells + 1) (n := slots + 6) (by omega) (by omega) ?_
  exact kk σ9 H locs ls hw (lv_sub hl [0, 1, 2, 3, 4] rfl)
set_option maxHeartbeats 4000000 in
set_option maxRecDepth 100000 in
theorem lc_33 (cx : oCx p s m args c cL_law 8 RL cy D A K) (hA : ∀ q, s.heap.size ≤ q → A q) (hfl : l.stackTraces = false) (hX : va_X b N xs s s.heap) (hbl : b < s.heap.size) (hbA : ¬ A b) (hN : N ≤ 2560) (h0 : 0 ≤ i.toInt) (h5 : i.toInt + 5 ≤ (N : Int)) (hw : oI A L τ cy D s.heap σ H locs) (I : lI L τ σ x k o t w) (F : lF L τ σ x k) (hl : lv_has ls 8 [(4, .int i), (3, .ref o), (2, .ref k), (1, .ref x), (0, .ref b)]) (hf0 : cells + 0 ≤ room_1.cells ∧ slots + 0 ≤ room_1.slots) (hf1 : cells + 1 ≤ room_1.cells ∧ slots + 6 ≤ room_1.slots) (hf2 : cells + 1 + 0 ≤ room_1.cells ∧ slots + 6 + 0 ≤ room_1.slots)
    (kk : ∀ (σ1 : oSt) (H1 : Heap) (locs1 : List Loc) (ls1 : Array Slot), oI A L τ cy D s.heap σ1 H1 locs1 → lv_has ls1 8 [(4, .int i), (3, .ref o), (2, .ref k), (1, .ref x), (0, .ref b)] → W p l e room_1 s m args below meth c H1 locs1 (cells + 1) (slots + 6) Q (F0 m 1516 ls1 [])) : W p l e room_1 s m args below meth c H locs cells slots Q (F0 m 1187 ls []) := by
  have hx := cx.1.1
  have hb := cx.1.2.1
  have hml := cx.1.2.2.1
  have hown := cx.1.2.2.2.1
  have hts := cx.1.2.2.2.2
  have fr : oFr τ fs_law ts_law σ σ := oFr_rf
  obtain ⟨t1, t2, t3, t4⟩ := id I.2.2.2.2.2
  have i641 : Iv (σ.1 641 k) 0 0 := o_fb (j := 641) hw I.2.1 rfl
  have i642 : Iv (σ.1 642 k) 0 0 := o_fb (j := 642) hw I.2.1 rfl
  obtain ⟨hq, b_576_385, b_585_130, b_581_330, b_581_329, b_581_331, b_580_514, b_580_515, b_577_193, f587, f588, f655, f672, f653, f650, f651, f657⟩ := id F
  have hz := hq_hz hq
  have f385 := b_576_385 t I.2.2.2.1
  have f514 := b_580_514 w I.2.2.2.2.1
  have f515 := b_580_515 w I.2.2.2.2.1
  have hw0 := hw
  refine lv_aload_n hx hb dL_law_1187 rfl (lv_at hl 3 rfl) ?_
  refine lv_aload_n hx hb dL_law_1188 rfl (lv_at hl 4 rfl) ?_
  refine lv_iload hx hb dL_law_1189 (lv_at hl 0 rfl) ?_
  refine lv_iconst (v := 1) hx hb dL_law_1191 (by decide) ?_
  refine lv_iadd hx hb dL_law_1192 ?_
  refine va_sld hx hb hX hbl hbA hw.2.2.1 (lx_in h0 h5 hN (by decide)) dL_law_1193 ?_
  refine lv_topi (fun v1 e1 => ?_)
  refine lv_aload_n hx hb dL_law_1194 rfl (lv_at hl 4 rfl) ?_
  refine lv_iload hx hb dL_law_1195 (lv_at hl 0 rfl) ?_
  refine lv_iconst (v := 2) hx hb dL_law_1197 (by decide) ?_
  refine lv_iadd hx hb dL_law_1198 ?_
  refine va_sld hx hb hX hbl hbA hw.2.2.1 (lx_in h0 h5 hN (by decide)) dL_law_1199 ?_
  refine lv_topi (fun v2 e2 => ?_)
  refine lv_aload_n hx hb dL_law_1200 rfl (lv_at hl 4 rfl) ?_
  refine lv_iload hx hb dL_law_1201 (lv_at hl 0 rfl) ?_
  refine lv_iconst (v := 3) hx hb dL_law_1203 (by decide) ?_
  refine lv_iadd hx hb dL_law_1204 ?_
  refine va_sld hx hb hX hbl hbA hw.2.2.1 (lx_in h0 h5 hN (by decide)) dL_law_1205 ?_
  refine lv_topi (fun v3 e3 => ?_)
  refine o_ci hw (oRunV cx hA hw q_X10_ways k_m_L_167 rfl I.1 (by decide) (As := [.int v1, .int v2, .int v3]) (c_X10_ways x I.1 v1 v2 v3 hz) (by decide) rfl hl.1 rfl (Nat.le_of_ble_eq_true rfl) dL_law_1206 hf0) (fun v5 σ4 H locs hp hw => ?_)
  obtain ⟨p5_0, p5_1⟩ := hp
  rw [p5_0] at hw
  refine lv_aload_n hx hb dL_law_1209 rfl (lv_at hl 2 rfl) ?_
  refine lv_aload_n hx hb dL_law_1210 rfl (lv_at hl 4 rfl) ?_
  refine lv_iload hx hb dL_law_1211 (lv_at hl 0 rfl) ?_
  refine lv_iconst (v := 1) hx hb dL_law_1213 (by decide) ?_
  refine lv_iadd hx hb dL_law_1214 ?_
  refine va_sld hx hb hX hbl hbA hw.2.2.1 (lx_in h0 h5 hN (by decide)) dL_law_1215 ?_
  refine lv_topi (fun v6 e6 => ?_)
  rw [show v6 = v1 from e6.trans e1.symm]
  refine lv_aload_n hx hb dL_law_1216 rfl (lv_at hl 4 rfl) ?_
  refine lv_iload hx hb dL_law_1217 (lv_at hl 0 rfl) ?_
  refine lv_iconst (v := 2) hx hb dL_law_1219 (by decide) ?_
  refine lv_iadd hx hb dL_law_1220 ?_
  refine va_sld hx hb hX hbl hbA hw.2.2.1 (lx_in h0 h5 hN (by decide)) dL_law_1221 ?_
  refine lv_topi (fun v7 e7 => ?_)
  rw [show v7 = v2 from e7.trans e2.symm]
  refine lv_aload_n hx hb dL_law_1222 rfl (lv_at hl 4 rfl) ?_
  refine lv_iload hx hb dL_law_1223 (lv_at hl 0 rfl) ?_
  refine lv_iconst (v := 3) hx hb dL_law_1225 (by decide) ?_
  refine lv_iadd hx hb dL_law_1226 ?_
  refine va_sld hx hb hX hbl hbA hw.2.2.1 (lx_in h0 h5 hN (by decide)) dL_law_1227 ?_
  refine lv_topi (fun v8 e8 => ?_)
  rw [show v8 = v3 from e8.trans e3.symm]
  refine o_ci hw (oRunV cx hA hw q_X11_ways k_m_L_170 rfl I.2.1 (by decide) (As := [.int v1, .int v2, .int v3]) (c_X11_ways k I.2.1 v1 v2 v3) (by decide) rfl hl.1 rfl (Nat.le_of_ble_eq_true rfl) dL_law_1228 hf0) (fun v10 σ9 H locs hp hw => ?_)
  obtain ⟨p10_0, p10_1⟩ := hp
  have fr := oFr_tr fr p10_0 (by decide)
  refine lv_icmp_eq (tgt := 1516) hx hb dL_law_1231 (by decide) (fun c11 => ?_) (fun c11 => absurd (i32_eq (by have := (f385).1; have := (f385).2; have := (f514).1; have := (f514).2; have := (f515).1; have := (f515).2; have := (f587).1; have := (f587).2; have := (f588).1; have := (f588).2; have := (f655).1; have := (f655).2; have := (f672).1; have := (f672).2; have := (f653).1; have := (f653).2; have := (f650).1; have := (f650).2; have := (f651).1; have := (f651).2; have := (f657).1; have := (f657).2; have := (i641).1; have := (i641).2; have := (i642).1; have := (i642).2; have := (p5_1).1; have := (p5_1).2; have := (p10_1).1; have := (p10_1).2; have : (σ9.1 385 t).toInt = ((σ.1 385 t) : Int32).toInt := congrArg Int32.toInt (show σ9.1 385 t = (σ.1 385 t) from ((kp_c p10_0 (by decide)).trans rfl)); have : (σ9.1 514 w).toInt = ((σ.1 514 w) : Int32).toInt := congrArg Int32.toInt (show σ9.1 514 w = (σ.1 514 w) from ((kp_c p10_0 (by decide)).trans rfl)); have : (σ9.1 515 w).toInt = ((σ.1 515 w) : Int32).toInt := congrArg Int32.toInt (show σ9.1 515 w = (σ.1 515 w) from ((kp_c p10_0 (by decide)).trans rfl)); have : (σ9.1 587 x).toInt = ((σ.1 587 x) : Int32).toInt := congrArg Int32.toInt (show σ9.1 587 x = (σ.1 587 x) from ((kp_c p10_0 (by decide)).trans rfl)); have : (σ9.1 588 x).toInt = ((σ.1 588 x) : Int32).toInt := congrArg Int32.toInt (show σ9.1 588 x = (σ.1 588 x) from ((kp_c p10_0 (by decide)).trans rfl)); have : (σ9.1 655 k).toInt = ((σ.1 655 k) : Int32).toInt := congrArg Int32.toInt (show σ9.1 655 k = (σ.1 655 k) from ((kp_c p10_0 (by decide)).trans rfl)); have : (σ9.1 672 k).toInt = ((σ.1 672 k) : Int32).toInt := congrArg Int32.toInt (show σ9.1 672 k = (σ.1 672 k) from ((kp_c p10_0 (by decide)).trans rfl)); have : (σ9.1 653 k).toInt = ((σ.1 653 k) : Int32).toInt := congrArg Int32.toInt (show σ9.1 653 k = (σ.1 653 k) from ((kp_c p10_0 (by decide)).trans rfl)); have : (σ9.1 650 k).toInt = ((σ.1 650 k) : Int32).toInt := congrArg Int32.toInt (show σ9.1 650 k = (σ.1 650 k) from ((kp_c p10_0 (by decide)).trans rfl)); have : (σ9.1 651 k).toInt = ((σ.1 651 k) : Int32).toInt := congrArg Int32.toInt (show σ9.1 651 k = (σ.1 651 k) from ((kp_c p10_0 (by decide)).trans rfl)); have : (σ9.1 657 k).toInt = ((σ.1 657 k) : Int32).toInt := congrArg Int32.toInt (show σ9.1 657 k = (σ.1 657 k) from ((kp_c p10_0 (by decide)).trans rfl)); have : (σ9.1 641 k).toInt = ((σ.1 641 k) : Int32).toInt := congrArg Int32.toInt (show σ9.1 641 k = (σ.1 641 k) from ((kp_c p10_0 (by decide)).trans rfl)); have : (σ9.1 642 k).toInt = ((σ.1 642 k) : Int32).toInt := congrArg Int32.toInt (show σ9.1 642 k = (σ.1 642 k) from ((kp_c p10_0 (by decide)).trans rfl)); omega)) c11)
  refine W.widen (k := cells + 1) (n := slots + 6) (by omega) (by omega) ?_
  exact kk σ9 H locs ls hw (lv_sub hl [0, 1, 2, 3, 4] rfl)
set_option maxHeartbeats 4000000 in
set_option maxRecDepth 100000 in
theorem lc_34 (cx : oCx p s m args c cL_law 8 RL cy D A K) (hA : ∀ q, s.heap.size ≤ q → A q) (hfl : l.stackTraces = false) (hX : va_X b N xs s s.heap) (hbl : b < s.heap.size) (hbA : ¬ A b) (hN : N ≤ 2560) (h0 : 0 ≤ i.toInt) (h5 : i.toInt + 5 ≤ (N : Int)) (hw : oI A L τ cy D s.heap σ H locs) (I : lI L τ σ x k o t w) (F : lF L τ σ x k) (hl : lv_has ls 8 [(4, .int i), (3, .ref o), (2, .ref k), (1, .ref x), (0, .ref b)]) (hf0 : cells + 0 ≤ room_1.cells ∧ slots + 0 ≤ room_1.slots) (hf1 : cells + 1 ≤ room_1.cells ∧ slots + 6 ≤ room_1.slots) (hf2 : cells + 1 + 0 ≤ room_1.cells ∧ slots + 6 + 0 ≤ room_1.slots)
    (kk : ∀ (σ1 : oSt) (H1 : Heap) (locs1 : List Loc) (ls1 : Array Slot), oI A L τ cy D s.heap σ1 H1 locs1 → lv_has ls1 8 [(4, .int i), (3, .ref o), (2, .ref k), (1, .ref x), (0, .ref b)] → W p l e room_1 s m args below meth c H1 locs1 (cells + 1) (slots + 6) Q (F0 m 1516 ls1 [])) : W p l e room_1 s m args below meth c H locs cells slots Q (F0 m 1236 ls []) := by
  have hx := cx.1.1
  have hb := cx.1.2.1
  have hml := cx.1.2.2.1
  have hown := cx.1.2.2.2.1
  have hts := cx.1.2.2.2.2
  have fr : oFr τ fs_law ts_law σ σ := oFr_rf
  obtain ⟨t1, t2, t3, t4⟩ := id I.2.2.2.2.2
  have i641 : Iv (σ.1 641 k) 0 0 := o_fb (j := 641) hw I.2.1 rfl
  have i642 : Iv (σ.1 642 k) 0 0 := o_fb (j := 642) hw I.2.1 rfl
  obtain ⟨hq, b_576_385, b_585_130, b_581_330, b_581_329, b_581_331, b_580_514, b_580_515, b_577_193, f587, f588, f655, f672, f653, f650, f651, f657⟩ := id F
  have hz := hq_hz hq
  have f385 := b_576_385 t I.2.2.2.1
  have f514 := b_580_514 w I.2.2.2.2.1
  have f515 := b_580_515 w I.2.2.2.2.1
  have hw0 := hw
  refine lv_aload_n hx hb dL_law_1236 rfl (lv_at hl 3 rfl) ?_
  refine o_ci hw (oRunV cx hA hw q_X10_bride k_m_L_171 rfl I.1 (by decide) (As := []) (c_X10_bride x I.1 b_576_385) (by decide) rfl hl.1 rfl (Nat.le_of_ble_eq_true rfl) dL_law_1237 hf0) (fun v2 σ1 H locs hp hw => ?_)
  obtain ⟨p2_0, p2_1, p2_2⟩ := hp
  have fr := oFr_tr fr p2_0 (by decide)
  have z3 := p2_2 t (I.2.2.2.1)
  have z4 := z3.1
  have z5 := z3.2
  refine lv_aload_n hx hb dL_law_1240 rfl (lv_at hl 2 rfl) ?_
  have z6 : (σ1.1 514 w).toInt = ((σ.1 514 w) : Int32).toInt := congrArg Int32.toInt (show σ1.1 514 w = (σ.1 514 w) from ((kp_c p2_0 (by decide)).trans rfl))
  have z7 : (σ1.1 515 w).toInt = ((σ.1 515 w) : Int32).toInt := congrArg Int32.toInt (show σ1.1 515 w = (σ.1 515 w) from ((kp_c p2_0 (by decide)).trans rfl))
  have z8 : (σ1.1 655 k).toInt = ((σ.1 655 k) : Int32).toInt := congrArg Int32.toInt (show σ1.1 655 k = (σ.1 655 k) from ((kp_c p2_0 (by decide)).trans rfl))
  have z9 : (σ1.1 650 k).toInt = ((σ.1 650 k) : Int32).toInt := congrArg Int32.toInt (show σ1.1 650 k = (σ.1 650 k) from ((kp_c p2_0 (by decide)).trans rfl))
  have z10 : (σ1.1 651 k).toInt = ((σ.1 651 k) : Int32).toInt := congrArg Int32.toInt (show σ1.1 651 k = (σ.1 651 k) from ((kp_c p2_0 (by decide)).trans rfl))
  have z11 : (σ1.1 641 k).toInt = ((σ.1 641 k) : Int32).toInt := congrArg Int32.toInt (show σ1.1 641 k = (σ.1 641 k) from ((kp_c p2_0 (by decide)).trans rfl))
  have z12 : (σ1.1 642 k).toInt = ((σ.1 642 k) : Int32).toInt := congrArg Int32.toInt (show σ1.1 642 k = (σ.1 642 k) from ((kp_c p2_0 (by decide)).trans rfl))
  refine o_ci hw (oRunV cx hA hw q_X11_bride k_m_L_174 rfl I.2.1 (by decide) (As := []) (c_X11_bride k I.2.1 (kn_iv (((kp_c p2_0 (by decide)).trans rfl)) (iv_w f655 (by decide)))) (by decide) rfl hl.1 rfl (Nat.le_of_ble_eq_true rfl) dL_law_1241 hf0) (fun v14 σ13 H locs hp hw => ?_)
  obtain ⟨p14_0, p14_1, p14_2⟩ := hp
  have fr := oFr_tr fr p14_0 (by decide)
  refine lv_icmp_eq (tgt := 1516) hx hb dL_law_1244 (by decide) (fun c15 => ?_) (fun c15 => absurd (i32_eq (by have := (f514).1; have := (f514).2; have := (f515).1; have := (f515).2; have := (f587).1; have := (f587).2; have := (f588).1; have := (f588).2; have := (f672).1; have := (f672).2; have := (f653).1; have := (f653).2; have := (f650).1; have := (f650).2; have := (f651).1; have := (f651).2; have := (f657).1; have := (f657).2; have := (i641).1; have := (i641).2; have := (i642).1; have := (i642).2; have := (p14_2).1; have := (p14_2).2; have := (p2_1).1; have := (p2_1).2; have := (p14_1).1; have := (p14_1).2; have := (f385).1; have := (f385).2; have := (f655).1; have := (f655).2; have : (σ13.1 514 w).toInt = ((σ.1 514 w) : Int32).toInt := congrArg Int32.toInt (show σ13.1 514 w = (σ.1 514 w) from ((kp_c p14_0 (by decide)).trans ((kp_c p2_0 (by decide)).trans rfl))); have : (σ13.1 515 w).toInt = ((σ.1 515 w) : Int32).toInt := congrArg Int32.toInt (show σ13.1 515 w = (σ.1 515 w) from ((kp_c p14_0 (by decide)).trans ((kp_c p2_0 (by decide)).trans rfl))); have : (σ13.1 587 x).toInt = ((σ.1 587 x) : Int32).toInt := congrArg Int32.toInt (show σ13.1 587 x = (σ.1 587 x) from ((kp_c p14_0 (by decide)).trans ((kp_c p2_0 (by decide)).trans rfl))); have : (σ13.1 588 x).toInt = ((σ.1 588 x) : Int32).toInt := congrArg Int32.toInt (show σ13.1 588 x = (σ.1 588 x) from ((kp_c p14_0 (by decide)).trans ((kp_c p2_0 (by decide)).trans rfl))); have : (σ13.1 672 k).toInt = ((σ.1 672 k) : Int32).toInt := congrArg Int32.toInt (show σ13.1 672 k = (σ.1 672 k) from ((kp_c p14_0 (by decide)).trans ((kp_c p2_0 (by decide)).trans rfl))); have : (σ13.1 653 k).toInt = ((σ.1 653 k) : Int32).toInt := congrArg Int32.toInt (show σ13.1 653 k = (σ.1 653 k) from ((kp_c p14_0 (by decide)).trans ((kp_c p2_0 (by decide)).trans rfl))); have : (σ13.1 650 k).toInt = ((σ.1 650 k) : Int32).toInt := congrArg Int32.toInt (show σ13.1 650 k = (σ.1 650 k) from ((kp_c p14_0 (by decide)).trans ((kp_c p2_0 (by decide)).trans rfl))); have : (σ13.1 651 k).toInt = ((σ.1 651 k) : Int32).toInt := congrArg Int32.toInt (show σ13.1 651 k = (σ.1 651 k) from ((kp_c p14_0 (by decide)).trans ((kp_c p2_0 (by decide)).trans rfl))); have : (σ13.1 657 k).toInt = ((σ.1 657 k) : Int32).toInt := congrArg Int32.toInt (show σ13.1 657 k = (σ.1 657 k) from ((kp_c p14_0 (by decide)).trans ((kp_c p2_0 (by decide)).trans rfl))); have : (σ13.1 641 k).toInt = ((σ.1 641 k) : Int32).toInt := congrArg Int32.toInt (show σ13.1 641 k = (σ.1 641 k) from ((kp_c p14_0 (by decide)).trans ((kp_c p2_0 (by decide)).trans rfl))); have : (σ13.1 642 k).toInt = ((σ.1 642 k) : Int32).toInt := congrArg Int32.toInt (show σ13.1 642 k = (σ.1 642 k) from ((kp_c p14_0 (by decide)).trans ((kp_c p2_0 (by decide)).trans rfl))); have : (σ13.1 385 t).toInt = ((σ1.1 385 t) : Int32).toInt := congrArg Int32.toInt (show σ13.1 385 t = (σ1.1 385 t) from ((kp_c p14_0 (by decide)).trans rfl)); omega)) c15)
  refine W.widen (k := cells + 1) (n := slots + 6) (by omega) (by omega) ?_
  exact kk σ13 H locs ls hw (lv_sub hl [0, 1, 2, 3, 4] rfl)
set_option maxHeartbeats 4000000 in
set_option maxRecDepth 100000 in
theorem lc_35 (cx : oCx p s m args c cL_law 8 RL cy D A K) (hA : ∀ q, s.heap.size ≤ q → A q) (hfl : l.stackTraces = false) (hX : va_X b N xs s s.heap) (hbl : b < s.heap.size) (hbA : ¬ A b) (hN : N ≤ 2560) (h0 : 0 ≤ i.toInt) (h5 : i.toInt + 5 ≤ (N : Int)) (hw : oI A L τ cy D s.heap σ H locs) (I : lI L τ σ x k o t w) (F : lF L τ σ x k) (hl : lv_has ls 8 [(4, .int i), (3, .ref o), (2, .ref k), (1, .ref x), (0, .ref b)]) (hf0 : cells + 0 ≤ room_1.cells ∧ slots + 0 ≤ room_1.slots) (hf1 : cells + 1 ≤ room_1.cells ∧ slots + 6 ≤ room_1.slots) (hf2 : cells + 1 + 0 ≤ room_1.cells ∧ slots + 6 + 0 ≤ room_1.slots)
    (kk : ∀ (σ1 : oSt) (H1 : Heap) (locs1 : List Loc) (ls1 : Array Slot), oI A L τ cy D s.heap σ1 H1 locs1 → lv_has ls1 8 [(4, .int i), (3, .ref o), (2, .ref k), (1, .ref x), (0, .ref b)] → W p l e room_1 s m args below meth c H1 locs1 (cells + 1) (slots + 6) Q (F0 m 1516 ls1 [])) : W p l e room_1 s m args below meth c H locs cells slots Q (F0 m 1249 ls []) := by
  have hx := cx.1.1
  have hb := cx.1.2.1
  have hml := cx.1.2.2.1
  have hown := cx.1.2.2.2.1
  have hts := cx.1.2.2.2.2
  have fr : oFr τ fs_law ts_law σ σ := oFr_rf
  obtain ⟨t1, t2, t3, t4⟩ := id I.2.2.2.2.2
  have i641 : Iv (σ.1 641 k) 0 0 := o_fb (j := 641) hw I.2.1 rfl
  have i642 : Iv (σ.1 642 k) 0 0 := o_fb (j := 642) hw I.2.1 rfl
  obtain ⟨hq, b_576_385, b_585_130, b_581_330, b_581_329, b_581_331, b_580_514, b_580_515, b_577_193, f587, f588, f655, f672, f653, f650, f651, f657⟩ := id F
  have hz := hq_hz hq
  have f385 := b_576_385 t I.2.2.2.1
  have f514 := b_580_514 w I.2.2.2.2.1
  have f515 := b_580_515 w I.2.2.2.2.1
  have hw0 := hw
  refine lv_aload_n hx hb dL_law_1249 rfl (lv_at hl 3 rfl) ?_
  refine lv_aload_n hx hb dL_law_1250 rfl (lv_at hl 4 rfl) ?_
  refine lv_iload hx hb dL_law_1251 (lv_at hl 0 rfl) ?_
  refine lv_iconst (v := 1) hx hb dL_law_1253 (by decide) ?_
  refine lv_iadd hx hb dL_law_1254 ?_
  refine va_sld hx hb hX hbl hbA hw.2.2.1 (lx_in h0 h5 hN (by decide)) dL_law_1255 ?_
  refine lv_topi (fun v1 e1 => ?_)
  refine lv_aload_n hx hb dL_law_1256 rfl (lv_at hl 4 rfl) ?_
  refine lv_iload hx hb dL_law_1257 (lv_at hl 0 rfl) ?_
  refine lv_iconst (v := 2) hx hb dL_law_1259 (by decide) ?_
  refine lv_iadd hx hb dL_law_1260 ?_
  refine va_sld hx hb hX hbl hbA hw.2.2.1 (lx_in h0 h5 hN (by decide)) dL_law_1261 ?_
  refine lv_topi (fun v2 e2 => ?_)
  refine lv_aload_n hx hb dL_law_1262 rfl (lv_at hl 4 rfl) ?_
  refine lv_iload hx hb dL_law_1263 (lv_at hl 0 rfl) ?_
  refine lv_iconst (v := 3) hx hb dL_law_1265 (by decide) ?_
  refine lv_iadd hx hb dL_law_1266 ?_
  refine va_sld hx hb hX hbl hbA hw.2.2.1 (lx_in h0 h5 hN (by decide)) dL_law_1267 ?_
  refine lv_topi (fun v3 e3 => ?_)
  refine o_ci hw (oRunV cx hA hw q_X10_lost k_m_L_175 rfl I.1 (by decide) (As := [.int v1, .int v2, .int v3]) (c_X10_lost x I.1 v1 v2 v3 hz) (by decide) rfl hl.1 rfl (Nat.le_of_ble_eq_true rfl) dL_law_1268 hf0) (fun v5 σ4 H locs hp hw => ?_)
  obtain ⟨p5_0, p5_1⟩ := hp
  rw [p5_0] at hw
  refine lv_aload_n hx hb dL_law_1271 rfl (lv_at hl 2 rfl) ?_
  refine lv_aload_n hx hb dL_law_1272 rfl (lv_at hl 4 rfl) ?_
  refine lv_iload hx hb dL_law_1273 (lv_at hl 0 rfl) ?_
  refine lv_iconst (v := 1) hx hb dL_law_1275 (by decide) ?_
  refine lv_iadd hx hb dL_law_1276 ?_
  refine va_sld hx hb hX hbl hbA hw.2.2.1 (lx_in h0 h5 hN (by decide)) dL_law_1277 ?_
  refine lv_topi (fun v6 e6 => ?_)
  rw [show v6 = v1 from e6.trans e1.symm]
  refine lv_aload_n hx hb dL_law_1278 rfl (lv_at hl 4 rfl) ?_
  refine lv_iload hx hb dL_law_1279 (lv_at hl 0 rfl) ?_
  refine lv_iconst (v := 2) hx hb dL_law_1281 (by decide) ?_
  refine lv_iadd hx hb dL_law_1282 ?_
  refine va_sld hx hb hX hbl hbA hw.2.2.1 (lx_in h0 h5 hN (by decide)) dL_law_1283 ?_
  refine lv_topi (fun v7 e7 => ?_)
  rw [show v7 = v2 from e7.trans e2.symm]
  refine lv_aload_n hx hb dL_law_1284 rfl (lv_at hl 4 rfl) ?_
  refine lv_iload hx hb dL_law_1285 (lv_at hl 0 rfl) ?_
  refine lv_iconst (v := 3) hx hb dL_law_1287 (by decide) ?_
  refine lv_iadd hx hb dL_law_1288 ?_
  refine va_sld hx hb hX hbl hbA hw.2.2.1 (lx_in h0 h5 hN (by decide)) dL_law_1289 ?_
  refine lv_topi (fun v8 e8 => ?_)
  rw [show v8 = v3 from e8.trans e3.symm]
  refine o_ci hw (oRunV cx hA hw q_X11_lost_ k_m_L_178 rfl I.2.1 (by decide) (As := [.int v1, .int v2, .int v3]) (c_X11_lost_ k I.2.1 v1 v2 v3) (by decide) rfl hl.1 rfl (Nat.le_of_ble_eq_true rfl) dL_law_1290 hf0) (fun v10 σ9 H locs hp hw => ?_)
  obtain ⟨p10_0, p10_1⟩ := hp
  have fr := oFr_tr fr p10_0 (by decide)
  refine lv_icmp_eq (tgt := 1516) hx hb dL_law_1293 (by decide) (fun c11 => ?_) (fun c11 => absurd (i32_eq (by have := (f385).1; have := (f385).2; have := (f514).1; have := (f514).2; have := (f515).1; have := (f515).2; have := (f587).1; have := (f587).2; have := (f588).1; have := (f588).2; have := (f655).1; have := (f655).2; have := (f672).1; have := (f672).2; have := (f653).1; have := (f653).2; have := (f650).1; have := (f650).2; have := (f651).1; have := (f651).2; have := (f657).1; have := (f657).2; have := (i641).1; have := (i641).2; have := (i642).1; have := (i642).2; have := (p5_1).1; have := (p5_1).2; have := (p10_1).1; have := (p10_1).2; have : (σ9.1 385 t).toInt = ((σ.1 385 t) : Int32).toInt := congrArg Int32.toInt (show σ9.1 385 t = (σ.1 385 t) from ((kp_c p10_0 (by decide)).trans rfl)); have : (σ9.1 514 w).toInt = ((σ.1 514 w) : Int32).toInt := congrArg Int32.toInt (show σ9.1 514 w = (σ.1 514 w) from ((kp_c p10_0 (by decide)).trans rfl)); have : (σ9.1 515 w).toInt = ((σ.1 515 w) : Int32).toInt := congrArg Int32.toInt (show σ9.1 515 w = (σ.1 515 w) from ((kp_c p10_0 (by decide)).trans rfl)); have : (σ9.1 587 x).toInt = ((σ.1 587 x) : Int32).toInt := congrArg Int32.toInt (show σ9.1 587 x = (σ.1 587 x) from ((kp_c p10_0 (by decide)).trans rfl)); have : (σ9.1 588 x).toInt = ((σ.1 588 x) : Int32).toInt := congrArg Int32.toInt (show σ9.1 588 x = (σ.1 588 x) from ((kp_c p10_0 (by decide)).trans rfl)); have : (σ9.1 655 k).toInt = ((σ.1 655 k) : Int32).toInt := congrArg Int32.toInt (show σ9.1 655 k = (σ.1 655 k) from ((kp_c p10_0 (by decide)).trans rfl)); have : (σ9.1 672 k).toInt = ((σ.1 672 k) : Int32).toInt := congrArg Int32.toInt (show σ9.1 672 k = (σ.1 672 k) from ((kp_c p10_0 (by decide)).trans rfl)); have : (σ9.1 653 k).toInt = ((σ.1 653 k) : Int32).toInt := congrArg Int32.toInt (show σ9.1 653 k = (σ.1 653 k) from ((kp_c p10_0 (by decide)).trans rfl)); have : (σ9.1 650 k).toInt = ((σ.1 650 k) : Int32).toInt := congrArg Int32.toInt (show σ9.1 650 k = (σ.1 650 k) from ((kp_c p10_0 (by decide)).trans rfl)); have : (σ9.1 651 k).toInt = ((σ.1 651 k) : Int32).toInt := congrArg Int32.toInt (show σ9.1 651 k = (σ.1 651 k) from ((kp_c p10_0 (by decide)).trans rfl)); have : (σ9.1 657 k).toInt = ((σ.1 657 k) : Int32).toInt := congrArg Int32.toInt (show σ9.1 657 k = (σ.1 657 k) from ((kp_c p10_0 (by decide)).trans rfl)); have : (σ9.1 641 k).toInt = ((σ.1 641 k) : Int32).toInt := congrArg Int32.toInt (show σ9.1 641 k = (σ.1 641 k) from ((kp_c p10_0 (by decide)).trans rfl)); have : (σ9.1 642 k).toInt = ((σ.1 642 k) : Int32).toInt := congrArg Int32.toInt (show σ9.1 642 k = (σ.1 642 k) from ((kp_c p10_0 (by decide)).trans rfl)); omega)) c11)
  refine W.widen (k := cells + 1) (n := slots + 6) (by omega) (by omega) ?_
  exact kk σ9 H locs ls hw (lv_sub hl [0, 1, 2, 3, 4] rfl)
set_option maxHeartbeats 4000000 in
set_option maxRecDepth 100000 in
theorem lc_36 (cx : oCx p s m args c cL_law 8 RL cy D A K) (hA : ∀ q, s.heap.size ≤ q → A q) (hfl : l.stackTraces = false) (hX : va_X b N xs s s.heap) (hbl : b < s.heap.size) (hbA : ¬ A b) (hN : N ≤ 2560) (h0 : 0 ≤ i.toInt) (h5 : i.toInt + 5 ≤ (N : Int)) (hw : oI A L τ cy D s.heap σ H locs) (I : lI L τ σ x k o t w) (F : lF L τ σ x k) (hl : lv_has ls 8 [(4, .int i), (3, .ref o), (2, .ref k), (1, .ref x), (0, .ref b)]) (hf0 : cells + 0 ≤ room_1.cells ∧ slots + 0 ≤ room_1.slots) (hf1 : cells + 1 ≤ room_1.cells ∧ slots + 6 ≤ room_1.slots) (hf2 : cells + 1 + 0 ≤ room_1.cells ∧ slots + 6 + 0 ≤ room_1.slots)
    (kk : ∀ (σ1 : oSt) (H1 : Heap) (locs1 : List Loc) (ls1 : Array Slot), oI A L τ cy D s.heap σ1 H1 locs1 → lv_has ls1 8 [(4, .int i), (3, .ref o), (2, .ref k), (1, .ref x), (0, .ref b)] → W p l e room_1 s m args below meth c H1 locs1 (cells + 1) (slots + 6) Q (F0 m 1516 ls1 [])) : W p l e room_1 s m args below meth c H locs cells slots Q (F0 m 1298 ls []) := by
  have hx := cx.1.1
  have hb := cx.1.2.1
  have hml := cx.1.2.2.1
  have hown := cx.1.2.2.2.1
  have hts := cx.1.2.2.2.2
  have fr : oFr τ fs_law ts_law σ σ := oFr_rf
  obtain ⟨t1, t2, t3, t4⟩ := id I.2.2.2.2.2
  have i641 : Iv (σ.1 641 k) 0 0 := o_fb (j := 641) hw I.2.1 rfl
  have i642 : Iv (σ.1 642 k) 0 0 := o_fb (j := 642) hw I.2.1 rfl
  obtain ⟨hq, b_576_385, b_585_130, b_581_330, b_581_329, b_581_331, b_580_514, b_580_515, b_577_193, f587, f588, f655, f672, f653, f650, f651, f657⟩ := id F
  have hz := hq_hz hq
  have f385 := b_576_385 t I.2.2.2.1
  have f514 := b_580_514 w I.2.2.2.2.1
  have f515 := b_580_515 w I.2.2.2.2.1
  have hw0 := hw
  refine lv_aload_n hx hb dL_law_1298 rfl (lv_at hl 3 rfl) ?_
  refine lv_aload_n hx hb dL_law_1299 rfl (lv_at hl 4 rfl) ?_
  refine lv_iload hx hb dL_law_1300 (lv_at hl 0 rfl) ?_
  refine lv_iconst (v := 1) hx hb dL_law_1302 (by decide) ?_
  refine lv_iadd hx hb dL_law_1303 ?_
  refine va_sld hx hb hX hbl hbA hw.2.2.1 (lx_in h0 h5 hN (by decide)) dL_law_1304 ?_
  refine lv_topi (fun v1 e1 => ?_)
  refine o_ci hw (oRunV cx hA hw q_X10_letter k_m_L_179 rfl I.1 (by decide) (As := [.int v1]) (c_X10_letter x I.1 v1 hz) (by decide) rfl hl.1 rfl (Nat.le_of_ble_eq_true rfl) dL_law_1305 hf0) (fun v3 σ2 H locs hp hw => ?_)
  obtain ⟨p3_0, p3_1⟩ := hp
  rw [p3_0] at hw
  refine lv_aload_n hx hb dL_law_1308 rfl (lv_at hl 2 rfl) ?_
  refine lv_aload_n hx hb dL_law_1309 rfl (lv_at hl 4 rfl) ?_
  refine lv_iload hx hb dL_law_1310 (lv_at hl 0 rfl) ?_
  refine lv_iconst (v := 1) hx hb dL_law_1312 (by decide) ?_
  refine lv_iadd hx hb dL_law_1313 ?_
  refine va_sld hx hb hX hbl hbA hw.2.2.1 (lx_in h0 h5 hN (by decide)) dL_law_1314 ?_
  refine lv_topi (fun v4 e4 => ?_)
  rw [show v4 = v1 from e4.trans e1.symm]
  refine o_ci hw (oRunV cx hA hw q_X11_letter k_m_L_182 rfl I.2.1 (by decide) (As := [.int v1]) (c_X11_letter k I.2.1 v1) (by decide) rfl hl.1 rfl (Nat.le_of_ble_eq_true rfl) dL_law_1315 hf0) (fun v6 σ5 H locs hp hw => ?_)
  obtain ⟨p6_0, p6_1⟩ := hp
  have fr := oFr_tr fr p6_0 (by decide)
  refine lv_icmp_eq (tgt := 1516) hx hb dL_law_1318 (by decide) (fun c7 => ?_) (fun c7 => absurd (i32_eq (by have := (f385).1; have := (f385).2; have := (f514).1; have := (f514).2; have := (f515).1; have := (f515).2; have := (f587).1; have := (f587).2; have := (f588).1; have := (f588).2; have := (f655).1; have := (f655).2; have := (f672).1; have := (f672).2; have := (f653).1; have := (f653).2; have := (f650).1; have := (f650).2; have := (f651).1; have := (f651).2; have := (f657).1; have := (f657).2; have := (i641).1; have := (i641).2; have := (i642).1; have := (i642).2; have := (p3_1).1; have := (p3_1).2; have := (p6_1).1; have := (p6_1).2; have : (σ5.1 385 t).toInt = ((σ.1 385 t) : Int32).toInt := congrArg Int32.toInt (show σ5.1 385 t = (σ.1 385 t) from ((kp_c p6_0 (by decide)).trans rfl)); have : (σ5.1 514 w).toInt = ((σ.1 514 w) : Int32).toInt := congrArg Int32.toInt (show σ5.1 514 w = (σ.1 514 w) from ((kp_c p6_0 (by decide)).trans rfl)); have : (σ5.1 515 w).toInt = ((σ.1 515 w) : Int32).toInt := congrArg Int32.toInt (show σ5.1 515 w = (σ.1 515 w) from ((kp_c p6_0 (by decide)).trans rfl)); have : (σ5.1 587 x).toInt = ((σ.1 587 x) : Int32).toInt := congrArg Int32.toInt (show σ5.1 587 x = (σ.1 587 x) from ((kp_c p6_0 (by decide)).trans rfl)); have : (σ5.1 588 x).toInt = ((σ.1 588 x) : Int32).toInt := congrArg Int32.toInt (show σ5.1 588 x = (σ.1 588 x) from ((kp_c p6_0 (by decide)).trans rfl)); have : (σ5.1 655 k).toInt = ((σ.1 655 k) : Int32).toInt := congrArg Int32.toInt (show σ5.1 655 k = (σ.1 655 k) from ((kp_c p6_0 (by decide)).trans rfl)); have : (σ5.1 672 k).toInt = ((σ.1 672 k) : Int32).toInt := congrArg Int32.toInt (show σ5.1 672 k = (σ.1 672 k) from ((kp_c p6_0 (by decide)).trans rfl)); have : (σ5.1 653 k).toInt = ((σ.1 653 k) : Int32).toInt := congrArg Int32.toInt (show σ5.1 653 k = (σ.1 653 k) from ((kp_c p6_0 (by decide)).trans rfl)); have : (σ5.1 650 k).toInt = ((σ.1 650 k) : Int32).toInt := congrArg Int32.toInt (show σ5.1 650 k = (σ.1 650 k) from ((kp_c p6_0 (by decide)).trans rfl)); have : (σ5.1 651 k).toInt = ((σ.1 651 k) : Int32).toInt := congrArg Int32.toInt (show σ5.1 651 k = (σ.1 651 k) from ((kp_c p6_0 (by decide)).trans rfl)); have : (σ5.1 657 k).toInt = ((σ.1 657 k) : Int32).toInt := congrArg Int32.toInt (show σ5.1 657 k = (σ.1 657 k) from ((kp_c p6_0 (by decide)).trans rfl)); have : (σ5.1 641 k).toInt = ((σ.1 641 k) : Int32).toInt := congrArg Int32.toInt (show σ5.1 641 k = (σ.1 641 k) from ((kp_c p6_0 (by decide)).trans rfl)); have : (σ5.1 642 k).toInt = ((σ.1 642 k) : Int32).toInt := congrArg Int32.toInt (show σ5.1 642 k = (σ.1 642 k) from ((kp_c p6_0 (by decide)).trans rfl)); omega)) c7)
  refine W.widen (k := cells + 1) (n := slots + 6) (by omega) (by omega) ?_
  exact kk σ5 H locs ls hw (lv_sub hl [0, 1, 2, 3, 4] rfl)
set_option maxHeartbeats 4000000 in
set_option maxRecDepth 100000 in
theorem lc_37 (cx : oCx p s m args c cL_law 8 RL cy D A K) (hA : ∀ q, s.heap.size ≤ q → A q) (hfl : l.stackTraces = false) (hX : va_X b N xs s s.heap) (hbl : b < s.heap.size) (hbA : ¬ A b) (hN : N ≤ 2560) (h0 : 0 ≤ i.toInt) (h5 : i.toInt + 5 ≤ (N : Int)) (hw : oI A L τ cy D s.heap σ H locs) (I : lI L τ σ x k o t w) (F : lF L τ σ x k) (hl : lv_has ls 8 [(4, .int i), (3, .ref o), (2, .ref k), (1, .ref x), (0, .ref b)]) (hf0 : cells + 0 ≤ room_1.cells ∧ slots + 0 ≤ room_1.slots) (hf1 : cells + 1 ≤ room_1.cells ∧ slots + 6 ≤ room_1.slots) (hf2 : cells + 1 + 0 ≤ room_1.cells ∧ slots + 6 + 0 ≤ room_1.slots)
    (kk : ∀ (σ1 : oSt) (H1 : Heap) (locs1 : List Loc) (ls1 : Array Slot), oI A L τ cy D s.heap σ1 H1 locs1 → lv_has ls1 8 [(4, .int i), (3, .ref o), (2, .ref k), (1, .ref x), (0, .ref b)] → W p l e room_1 s m args below meth c H1 locs1 (cells + 1) (slots + 6) Q (F0 m 1516 ls1 [])) : W p l e room_1 s m args below meth c H locs cells slots Q (F0 m 1323 ls []) := by
  have hx := cx.1.1
  have hb := cx.1.2.1
  have hml := cx.1.2.2.1
  have hown := cx.1.2.2.2.1
  have hts := cx.1.2.2.2.2
  have fr : oFr τ fs_law ts_law σ σ := oFr_rf
  obtain ⟨t1, t2, t3, t4⟩ := id I.2.2.2.2.2
  have i641 : Iv (σ.1 641 k) 0 0 := o_fb (j := 641) hw I.2.1 rfl
  have i642 : Iv (σ.1 642 k) 0 0 := o_fb (j := 642) hw I.2.1 rfl
  obtain ⟨hq, b_576_385, b_585_130, b_581_330, b_581_329, b_581_331, b_580_514, b_580_515, b_577_193, f587, f588, f655, f672, f653, f650, f651, f657⟩ := id F
  have hz := hq_hz hq
  have f385 := b_576_385 t I.2.2.2.1
  have f514 := b_580_514 w I.2.2.2.2.1
  have f515 := b_580_515 w I.2.2.2.2.1
  have hw0 := hw
  refine lv_aload_n hx hb dL_law_1323 rfl (lv_at hl 3 rfl) ?_
  refine o_ci hw (oRunV cx hA hw q_X10_snow k_m_L_183 rfl I.1 (by decide) (As := []) (c_X10_snow x I.1) (by decide) rfl hl.1 rfl (Nat.le_of_ble_eq_true rfl) dL_law_1324 hf0) (fun v2 σ1 H locs hp hw => ?_)
  obtain ⟨p2_0, p2_1⟩ := hp
  have fr := oFr_tr fr p2_0 (by decide)
  refine lv_aload_n hx hb dL_law_1327 rfl (lv_at hl 2 rfl) ?_
  have z3 : (σ1.1 385 t).toInt = ((σ.1 385 t) : Int32).toInt := congrArg Int32.toInt (show σ1.1 385 t = (σ.1 385 t) from ((kp_c p2_0 (by decide)).trans rfl))
  have z4 : (σ1.1 514 w).toInt = ((σ.1 514 w) : Int32).toInt := congrArg Int32.toInt (show σ1.1 514 w = (σ.1 514 w) from ((kp_c p2_0 (by decide)).trans rfl))
  have z5 : (σ1.1 515 w).toInt = ((σ.1 515 w) : Int32).toInt := congrArg Int32.toInt (show σ1.1 515 w = (σ.1 515 w) from ((kp_c p2_0 (by decide)).trans rfl))
  have z6 : (σ1.1 655 k).toInt = ((σ.1 655 k) : Int32).toInt := congrArg Int32.toInt (show σ1.1 655 k = (σ.1 655 k) from ((kp_c p2_0 (by decide)).trans rfl))
  have z7 : (σ1.1 650 k).toInt = ((σ.1 650 k) : Int32).toInt := congrArg Int32.toInt (show σ1.1 650 k = (σ.1 650 k) from ((kp_c p2_0 (by decide)).trans rfl))
  have z8 : (σ1.1 651 k).toInt = ((σ.1 651 k) : Int32).toInt := congrArg Int32.toInt (show σ1.1 651 k = (σ.1 651 k) from ((kp_c p2_0 (by decide)).trans rfl))
  have z9 : (σ1.1 641 k).toInt = ((σ.1 641 k) : Int32).toInt := congrArg Int32.toInt (show σ1.1 641 k = (σ.1 641 k) from ((kp_c p2_0 (by decide)).trans rfl))
  have z10 : (σ1.1 642 k).toInt = ((σ.1 642 k) : Int32).toInt := congrArg Int32.toInt (show σ1.1 642 k = (σ.1 642 k) from ((kp_c p2_0 (by decide)).trans rfl))
  refine o_ci hw (oRunV cx hA hw q_X11_snow k_m_L_186 rfl I.2.1 (by decide) (As := []) (c_X11_snow k I.2.1) (by decide) rfl hl.1 rfl (Nat.le_of_ble_eq_true rfl) dL_law_1328 hf0) (fun v12 σ11 H locs hp hw => ?_)
  obtain ⟨p12_0, p12_1⟩ := hp
  have fr := oFr_tr fr p12_0 (by decide)
  refine lv_icmp_eq (tgt := 1516) hx hb dL_law_1331 (by decide) (fun c13 => ?_) (fun c13 => absurd (i32_eq (by have := (f385).1; have := (f385).2; have := (f514).1; have := (f514).2; have := (f515).1; have := (f515).2; have := (f587).1; have := (f587).2; have := (f655).1; have := (f655).2; have := (f672).1; have := (f672).2; have := (f650).1; have := (f650).2; have := (f651).1; have := (f651).2; have := (f657).1; have := (f657).2; have := (i641).1; have := (i641).2; have := (i642).1; have := (i642).2; have := (p2_1).1; have := (p2_1).2; have := (p12_1).1; have := (p12_1).2; have : (σ11.1 385 t).toInt = ((σ.1 385 t) : Int32).toInt := congrArg Int32.toInt (show σ11.1 385 t = (σ.1 385 t) from ((kp_c p12_0 (by decide)).trans ((kp_c p2_0 (by decide)).trans rfl))); have : (σ11.1 514 w).toInt = ((σ.1 514 w) : Int32).toInt := congrArg Int32.toInt (show σ11.1 514 w = (σ.1 514 w) from ((kp_c p12_0 (by decide)).trans ((kp_c p2_0 (by decide)).trans rfl))); have : (σ11.1 515 w).toInt = ((σ.1 515 w) : Int32).toInt := congrArg Int32.toInt (show σ11.1 515 w = (σ.1 515 w) from ((kp_c p12_0 (by decide)).trans ((kp_c p2_0 (by decide)).trans rfl))); have : (σ11.1 587 x).toInt = ((σ.1 587 x) : Int32).toInt := congrArg Int32.toInt (show σ11.1 587 x = (σ.1 587 x) from ((kp_c p12_0 (by decide)).trans ((kp_c p2_0 (by decide)).trans rfl))); have : (σ11.1 655 k).toInt = ((σ.1 655 k) : Int32).toInt := congrArg Int32.toInt (show σ11.1 655 k = (σ.1 655 k) from ((kp_c p12_0 (by decide)).trans ((kp_c p2_0 (by decide)).trans rfl))); have : (σ11.1 672 k).toInt = ((σ.1 672 k) : Int32).toInt := congrArg Int32.toInt (show σ11.1 672 k = (σ.1 672 k) from ((kp_c p12_0 (by decide)).trans ((kp_c p2_0 (by decide)).trans rfl))); have : (σ11.1 650 k).toInt = ((σ.1 650 k) : Int32).toInt := congrArg Int32.toInt (show σ11.1 650 k = (σ.1 650 k) from ((kp_c p12_0 (by decide)).trans ((kp_c p2_0 (by decide)).trans rfl))); have : (σ11.1 651 k).toInt = ((σ.1 651 k) : Int32).toInt := congrArg Int32.toInt (show σ11.1 651 k = (σ.1 651 k) from ((kp_c p12_0 (by decide)).trans ((kp_c p2_0 (by decide)).trans rfl))); have : (σ11.1 657 k).toInt = ((σ.1 657 k) : Int32).toInt := congrArg Int32.toInt (show σ11.1 657 k = (σ.1 657 k) from ((kp_c p12_0 (by decide)).trans ((kp_c p2_0 (by decide)).trans rfl))); have : (σ11.1 641 k).toInt = ((σ.1 641 k) : Int32).toInt := congrArg Int32.toInt (show σ11.1 641 k = (σ.1 641 k) from ((kp_c p12_0 (by decide)).trans ((kp_c p2_0 (by decide)).trans rfl))); have : (σ11.1 642 k).toInt = ((σ.1 642 k) : Int32).toInt := congrArg Int32.toInt (show σ11.1 642 k = (σ.1 642 k) from ((kp_c p12_0 (by decide)).trans ((kp_c p2_0 (by decide)).trans rfl))); omega)) c13)
  refine W.widen (k := cells + 1) (n := slots + 6) (by omega) (by omega) ?_
  exact kk σ11 H locs ls hw (lv_sub hl [0, 1, 2, 3, 4] rfl)
set_option maxHeartbeats 4000000 in
set_option maxRecDepth 100000 in
theorem lc_38 (cx : oCx p s m args c cL_law 8 RL cy D A K) (hA : ∀ q, s.heap.size ≤ q → A q) (hfl : l.stackTraces = false) (hX : va_X b N xs s s.heap) (hbl : b < s.heap.size) (hbA : ¬ A b) (hN : N ≤ 2560) (h0 : 0 ≤ i.toInt) (h5 : i.toInt + 5 ≤ (N : Int)) (hw : oI A L τ cy D s.heap σ H locs) (I : lI L τ σ x k o t w) (F : lF L τ σ x k) (hl : lv_has ls 8 [(4, .int i), (3, .ref o), (2, .ref k), (1, .ref x), (0, .ref b)]) (hf0 : cells + 0 ≤ room_1.cells ∧ slots + 0 ≤ room_1.slots) (hf1 : cells + 1 ≤ room_1.cells ∧ slots + 6 ≤ room_1.slots) (hf2 : cells + 1 + 0 ≤ room_1.cells ∧ slots + 6 + 0 ≤ room_1.slots)
    (kk : ∀ (σ1 : oSt) (H1 : Heap) (locs1 : List Loc) (ls1 : Array Slot), oI A L τ cy D s.heap σ1 H1 locs1 → lv_has ls1 8 [(4, .int i), (3, .ref o), (2, .ref k), (1, .ref x), (0, .ref b)] → W p l e room_1 s m args below meth c H1 locs1 (cells + 1) (slots + 6) Q (F0 m 1516 ls1 [])) : W p l e room_1 s m args below meth c H locs cells slots Q (F0 m 1336 ls []) := by
  have hx := cx.1.1
  have hb := cx.1.2.1
  have hml := cx.1.2.2.1
  have hown := cx.1.2.2.2.1
  have hts := cx.1.2.2.2.2
  have fr : oFr τ fs_law ts_law σ σ := oFr_rf
  obtain ⟨t1, t2, t3, t4⟩ := id I.2.2.2.2.2
  have i641 : Iv (σ.1 641 k) 0 0 := o_fb (j := 641) hw I.2.1 rfl
  have i642 : Iv (σ.1 642 k) 0 0 := o_fb (j := 642) hw I.2.1 rfl
  obtain ⟨hq, b_576_385, b_585_130, b_581_330, b_581_329, b_581_331, b_580_514, b_580_515, b_577_193, f587, f588, f655, f672, f653, f650, f651, f657⟩ := id F
  have hz := hq_hz hq
  have f385 := b_576_385 t I.2.2.2.1
  have f514 := b_580_514 w I.2.2.2.2.1
  have f515 := b_580_515 w I.2.2.2.2.1
  have hw0 := hw
  refine lv_aload_n hx hb dL_law_1336 rfl (lv_at hl 3 rfl) ?_
  refine o_ci hw (oRunV cx hA hw q_X10_thaw k_m_L_187 rfl I.1 (by decide) (As := []) (c_X10_thaw x I.1 (kn_iv (rfl) (iv_w f588 (by decide)))) (by decide) rfl hl.1 rfl (Nat.le_of_ble_eq_true rfl) dL_law_1337 hf0) (fun v2 σ1 H locs hp hw => ?_)
  obtain ⟨p2_0, p2_1⟩ := hp
  rw [p2_0] at hw
  refine lv_aload_n hx hb dL_law_1340 rfl (lv_at hl 2 rfl) ?_
  refine o_ci hw (oRunV cx hA hw q_X11_thaw k_m_L_190 rfl I.2.1 (by decide) (As := []) (c_X11_thaw k I.2.1 (kn_iv (rfl) (iv_w f653 (by decide)))) (by decide) rfl hl.1 rfl (Nat.le_of_ble_eq_true rfl) dL_law_1341 hf0) (fun v4 σ3 H locs hp hw => ?_)
  obtain ⟨p4_0, p4_1⟩ := hp
  have fr := oFr_tr fr p4_0 (by decide)
  refine lv_icmp_eq (tgt := 1516) hx hb dL_law_1344 (by decide) (fun c5 => ?_) (fun c5 => absurd (i32_eq (by have := (f385).1; have := (f385).2; have := (f514).1; have := (f514).2; have := (f515).1; have := (f515).2; have := (f587).1; have := (f587).2; have := (f588).1; have := (f588).2; have := (f655).1; have := (f655).2; have := (f672).1; have := (f672).2; have := (f653).1; have := (f653).2; have := (f650).1; have := (f650).2; have := (f651).1; have := (f651).2; have := (f657).1; have := (f657).2; have := (i641).1; have := (i641).2; have := (i642).1; have := (i642).2; have := (p2_1).1; have := (p2_1).2; have := (p4_1).1; have := (p4_1).2; have : (σ3.1 385 t).toInt = ((σ.1 385 t) : Int32).toInt := congrArg Int32.toInt (show σ3.1 385 t = (σ.1 385 t) from ((kp_c p4_0 (by decide)).trans rfl)); have : (σ3.1 514 w).toInt = ((σ.1 514 w) : Int32).toInt := congrArg Int32.toInt (show σ3.1 514 w = (σ.1 514 w) from ((kp_c p4_0 (by decide)).trans rfl)); have : (σ3.1 515 w).toInt = ((σ.1 515 w) : Int32).toInt := congrArg Int32.toInt (show σ3.1 515 w = (σ.1 515 w) from ((kp_c p4_0 (by decide)).trans rfl)); have : (σ3.1 587 x).toInt = ((σ.1 587 x) : Int32).toInt := congrArg Int32.toInt (show σ3.1 587 x = (σ.1 587 x) from ((kp_c p4_0 (by decide)).trans rfl)); have : (σ3.1 588 x).toInt = ((σ.1 588 x) : Int32).toInt := congrArg Int32.toInt (show σ3.1 588 x = (σ.1 588 x) from ((kp_c p4_0 (by decide)).trans rfl)); have : (σ3.1 655 k).toInt = ((σ.1 655 k) : Int32).toInt := congrArg Int32.toInt (show σ3.1 655 k = (σ.1 655 k) from ((kp_c p4_0 (by decide)).trans rfl)); have : (σ3.1 672 k).toInt = ((σ.1 672 k) : Int32).toInt := congrArg Int32.toInt (show σ3.1 672 k = (σ.1 672 k) from ((kp_c p4_0 (by decide)).trans rfl)); have : (σ3.1 653 k).toInt = ((σ.1 653 k) : Int32).toInt := congrArg Int32.toInt (show σ3.1 653 k = (σ.1 653 k) from ((kp_c p4_0 (by decide)).trans rfl)); have : (σ3.1 650 k).toInt = ((σ.1 650 k) : Int32).toInt := congrArg Int32.toInt (show σ3.1 650 k = (σ.1 650 k) from ((kp_c p4_0 (by decide)).trans rfl)); have : (σ3.1 651 k).toInt = ((σ.1 651 k) : Int32).toInt := congrArg Int32.toInt (show σ3.1 651 k = (σ.1 651 k) from ((kp_c p4_0 (by decide)).trans rfl)); have : (σ3.1 657 k).toInt = ((σ.1 657 k) : Int32).toInt := congrArg Int32.toInt (show σ3.1 657 k = (σ.1 657 k) from ((kp_c p4_0 (by decide)).trans rfl)); have : (σ3.1 641 k).toInt = ((σ.1 641 k) : Int32).toInt := congrArg Int32.toInt (show σ3.1 641 k = (σ.1 641 k) from ((kp_c p4_0 (by decide)).trans rfl)); have : (σ3.1 642 k).toInt = ((σ.1 642 k) : Int32).toInt := congrArg Int32.toInt (show σ3.1 642 k = (σ.1 642 k) from ((kp_c p4_0 (by decide)).trans rfl)); omega)) c5)
  refine W.widen (k := cells + 1) (n := slots + 6) (by omega) (by omega) ?_
  exact kk σ3 H locs ls hw (lv_sub hl [0, 1, 2, 3, 4] rfl)
set_option maxHeartbeats 4000000 in
set_option maxRecDepth 100000 in
theorem lc_39 (cx : oCx p s m args c cL_law 8 RL cy D A K) (hA : ∀ q, s.heap.size ≤ q → A q) (hfl : l.stackTraces = false) (hX : va_X b N xs s s.heap) (hbl : b < s.heap.size) (hbA : ¬ A b) (hN : N ≤ 2560) (h0 : 0 ≤ i.toInt) (h5 : i.toInt + 5 ≤ (N : Int)) (hw : oI A L τ cy D s.heap σ H locs) (I : lI L τ σ x k o t w) (F : lF L τ σ x k) (hl : lv_has ls 8 [(4, .int i), (3, .ref o), (2, .ref k), (1, .ref x), (0, .ref b)]) (hf0 : cells + 0 ≤ room_1.cells ∧ slots + 0 ≤ room_1.slots) (hf1 : cells + 1 ≤ room_1.cells ∧ slots + 6 ≤ room_1.slots) (hf2 : cells + 1 + 0 ≤ room_1.cells ∧ slots + 6 + 0 ≤ room_1.slots)
    (kk : ∀ (σ1 : oSt) (H1 : Heap) (locs1 : List Loc) (ls1 : Array Slot), oI A L τ cy D s.heap σ1 H1 locs1 → lv_has ls1 8 [(4, .int i), (3, .ref o), (2, .ref k), (1, .ref x), (0, .ref b)] → W p l e room_1 s m args below meth c H1 locs1 (cells + 1) (slots + 6) Q (F0 m 1516 ls1 [])) : W p l e room_1 s m args below meth c H locs cells slots Q (F0 m 1349 ls []) := by
  have hx := cx.1.1
  have hb := cx.1.2.1
  have hml := cx.1.2.2.1
  have hown := cx.1.2.2.2.1
  have hts := cx.1.2.2.2.2
  have fr : oFr τ fs_law ts_law σ σ := oFr_rf
  obtain ⟨t1, t2, t3, t4⟩ := id I.2.2.2.2.2
  have i641 : Iv (σ.1 641 k) 0 0 := o_fb (j := 641) hw I.2.1 rfl
  have i642 : Iv (σ.1 642 k) 0 0 := o_fb (j := 642) hw I.2.1 rfl
  obtain ⟨hq, b_576_385, b_585_130, b_581_330, b_581_329, b_581_331, b_580_514, b_580_515, b_577_193, f587, f588, f655, f672, f653, f650, f651, f657⟩ := id F
  have hz := hq_hz hq
  have f385 := b_576_385 t I.2.2.2.1
  have f514 := b_580_514 w I.2.2.2.2.1
  have f515 := b_580_515 w I.2.2.2.2.1
  have hw0 := hw
  refine lv_aload_n hx hb dL_law_1349 rfl (lv_at hl 3 rfl) ?_
  refine lv_aload_n hx hb dL_law_1350 rfl (lv_at hl 4 rfl) ?_
  refine lv_iload hx hb dL_law_1351 (lv_at hl 0 rfl) ?_
  refine lv_iconst (v := 1) hx hb dL_law_1353 (by decide) ?_
  refine lv_iadd hx hb dL_law_1354 ?_
  refine va_sld hx hb hX hbl hbA hw.2.2.1 (lx_in h0 h5 hN (by decide)) dL_law_1355 ?_
  refine lv_topi (fun v1 e1 => ?_)
  refine lv_aload_n hx hb dL_law_1356 rfl (lv_at hl 4 rfl) ?_
  refine lv_iload hx hb dL_law_1357 (lv_at hl 0 rfl) ?_
  refine lv_iconst (v := 2) hx hb dL_law_1359 (by decide) ?_
  refine lv_iadd hx hb dL_law_1360 ?_
  refine va_sld hx hb hX hbl hbA hw.2.2.1 (lx_in h0 h5 hN (by decide)) dL_law_1361 ?_
  refine lv_topi (fun v2 e2 => ?_)
  refine o_ci hw (oRunV cx hA hw q_X10_season k_m_L_191 rfl I.1 (by decide) (As := [.int v1, .int v2]) (c_X10_season x I.1 v1 v2 hz) (by decide) rfl hl.1 rfl (Nat.le_of_ble_eq_true rfl) dL_law_1362 hf0) (fun v4 σ3 H locs hp hw => ?_)
  obtain ⟨p4_0, p4_1⟩ := hp
  rw [p4_0] at hw
  refine lv_aload_n hx hb dL_law_1365 rfl (lv_at hl 2 rfl) ?_
  refine lv_aload_n hx hb dL_law_1366 rfl (lv_at hl 4 rfl) ?_
  refine lv_iload hx hb dL_law_1367 (lv_at hl 0 rfl) ?_
  refine lv_iconst (v := 1) hx hb dL_law_1369 (by decide) ?_
  refine lv_iadd hx hb dL_law_1370 ?_
  refine va_sld hx hb hX hbl hbA hw.2.2.1 (lx_in h0 h5 hN (by decide)) dL_law_1371 ?_
  refine lv_topi (fun v5 e5 => ?_)
  rw [show v5 = v1 from e5.trans e1.symm]
  refine lv_aload_n hx hb dL_law_1372 rfl (lv_at hl 4 rfl) ?_
  refine lv_iload hx hb dL_law_1373 (lv_at hl 0 rfl) ?_
  refine lv_iconst (v := 2) hx hb dL_law_1375 (by decide) ?_
  refine lv_iadd hx hb dL_law_1376 ?_
  refine va_sld hx hb hX hbl hbA hw.2.2.1 (lx_in h0 h5 hN (by decide)) dL_law_1377 ?_
  refine lv_topi (fun v6 e6 => ?_)
  rw [show v6 = v2 from e6.trans e2.symm]
  refine o_ci hw (oRunV cx hA hw q_X11_season k_m_L_194 rfl I.2.1 (by decide) (As := [.int v1, .int v2]) (c_X11_season k I.2.1 v1 v2) (by decide) rfl hl.1 rfl (Nat.le_of_ble_eq_true rfl) dL_law_1378 hf0) (fun v8 σ7 H locs hp hw => ?_)
  obtain ⟨p8_0, p8_1⟩ := hp
  have fr := oFr_tr fr p8_0 (by decide)
  refine lv_icmp_eq (tgt := 1516) hx hb dL_law_1381 (by decide) (fun c9 => ?_) (fun c9 => absurd (i32_eq (by have := (f385).1; have := (f385).2; have := (f514).1; have := (f514).2; have := (f515).1; have := (f515).2; have := (f587).1; have := (f587).2; have := (f588).1; have := (f588).2; have := (f655).1; have := (f655).2; have := (f672).1; have := (f672).2; have := (f653).1; have := (f653).2; have := (f650).1; have := (f650).2; have := (f651).1; have := (f651).2; have := (f657).1; have := (f657).2; have := (i641).1; have := (i641).2; have := (i642).1; have := (i642).2; have := (p4_1).1; have := (p4_1).2; have := (p8_1).1; have := (p8_1).2; have : (σ7.1 385 t).toInt = ((σ.1 385 t) : Int32).toInt := congrArg Int32.toInt (show σ7.1 385 t = (σ.1 385 t) from ((kp_c p8_0 (by decide)).trans rfl)); have : (σ7.1 514 w).toInt = ((σ.1 514 w) : Int32).toInt := congrArg Int32.toInt (show σ7.1 514 w = (σ.1 514 w) from ((kp_c p8_0 (by decide)).trans rfl)); have : (σ7.1 515 w).toInt = ((σ.1 515 w) : Int32).toInt := congrArg Int32.toInt (show σ7.1 515 w = (σ.1 515 w) from ((kp_c p8_0 (by decide)).trans rfl)); have : (σ7.1 587 x).toInt = ((σ.1 587 x) : Int32).toInt := congrArg Int32.toInt (show σ7.1 587 x = (σ.1 587 x) from ((kp_c p8_0 (by decide)).trans rfl)); have : (σ7.1 588 x).toInt = ((σ.1 588 x) : Int32).toInt := congrArg Int32.toInt (show σ7.1 588 x = (σ.1 588 x) from ((kp_c p8_0 (by decide)).trans rfl)); have : (σ7.1 655 k).toInt = ((σ.1 655 k) : Int32).toInt := congrArg Int32.toInt (show σ7.1 655 k = (σ.1 655 k) from ((kp_c p8_0 (by decide)).trans rfl)); have : (σ7.1 672 k).toInt = ((σ.1 672 k) : Int32).toInt := congrArg Int32.toInt (show σ7.1 672 k = (σ.1 672 k) from ((kp_c p8_0 (by decide)).trans rfl)); have : (σ7.1 653 k).toInt = ((σ.1 653 k) : Int32).toInt := congrArg Int32.toInt (show σ7.1 653 k = (σ.1 653 k) from ((kp_c p8_0 (by decide)).trans rfl)); have : (σ7.1 650 k).toInt = ((σ.1 650 k) : Int32).toInt := congrArg Int32.toInt (show σ7.1 650 k = (σ.1 650 k) from ((kp_c p8_0 (by decide)).trans rfl)); have : (σ7.1 651 k).toInt = ((σ.1 651 k) : Int32).toInt := congrArg Int32.toInt (show σ7.1 651 k = (σ.1 651 k) from ((kp_c p8_0 (by decide)).trans rfl)); have : (σ7.1 657 k).toInt = ((σ.1 657 k) : Int32).toInt := congrArg Int32.toInt (show σ7.1 657 k = (σ.1 657 k) from ((kp_c p8_0 (by decide)).trans rfl)); have : (σ7.1 641 k).toInt = ((σ.1 641 k) : Int32).toInt := congrArg Int32.toInt (show σ7.1 641 k = (σ.1 641 k) from ((kp_c p8_0 (by decide)).trans rfl)); have : (σ7.1 642 k).toInt = ((σ.1 642 k) : Int32).toInt := congrArg Int32.toInt (show σ7.1 642 k = (σ.1 642 k) from ((kp_c p8_0 (by decide)).trans rfl)); omega)) c9)
  refine W.widen (k := cells + 1) (n := slots + 6) (by omega) (by omega) ?_
  exact kk σ7 H locs ls hw (lv_sub hl [0, 1, 2, 3, 4] rfl)
end LAW
