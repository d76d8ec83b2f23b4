section LAW
variable {p : Program} {l : Launch} {e : Env} {s : State} {m : MethodId} {args : Array Value} {below : List Frame} {meth : Method} {c : Code} {H : Heap} {locs : List Loc} {cells slots : Nat} {Q : State → Prop}
variable {ls : Array Slot} {A : Nat → Prop} {L : List Nat} {τ : Nat → Nat} {cy : Nat → ClassId} {D : va_G} {K : (Nat → Nat) × (Nat → Nat)} {σ : oSt} {b N x k o t w tu tv gg kv ik kc : Nat} {xs : Nat → Int32} {i : Int32}
theorem law_head (cx : oCx p s m args c cL_law 8 RL cy D A K) (hA : ∀ q, s.heap.size ≤ q → A q) (hfl : l.stackTraces = false) (hX : va_X b N xs s s.heap) (hbl : b < s.heap.size) (hbA : ¬ A b) (hN : N ≤ 2560) (h0 : 0 ≤ i.toInt) (h1 : i.toInt ≤ 2565) (hw : oI A L τ cy D s.heap σ H locs) (hl : lv_has ls 8 [(4, .int i), (3, .ref o), (2, .ref k), (1, .ref x), (0, .ref b)])
    (ke : (N : Int) < i.toInt + 5 → W p l e room_1 s m args below meth c H locs cells slots Q (F0 m 1439 ls [])) (kc : i.toInt + 5 ≤ (N : Int) → W p l e room_1 s m args below meth c H locs cells slots Q (F0 m 32 ls [])) : W p l e room_1 s m args below meth c H locs cells slots Q (F0 m 23 ls []) := by
  have hx := cx.1.1
  have hb := cx.1.2.1
  refine lv_iload hx hb dL_law_23 (lv_at hl 0 rfl) ?_
  refine lv_aload_n hx hb dL_law_25 rfl (lv_at hl 4 rfl) ?_
  refine va_slen hx hb hX hbl hbA hw.2.2.1 dL_law_26 ?_
  refine lv_topi (fun v1 e1 => ?_)
  refine lv_iconst (v := 5) hx hb dL_law_27 (by decide) ?_
  refine lv_isub hx hb dL_law_28 ?_
  refine lv_topi (fun v2 e2 => ?_)
  have z1 : v1.toInt = (N : Int) := by rw [e1]; exact Int32.toInt_ofNat_of_lt (by omega)
  have z2 := ex_sub e2 (a := 0) (b := 2560) (c := 5) (d := 5) ⟨by omega, by omega⟩ ⟨by decide, by decide⟩ (by decide)
  have z3 : (5 : Int32).toInt = 5 := by decide
  refine lv_icmp_gt (tgt := 1439) hx hb dL_law_29 (by decide) (fun c1 => ke ?_) (fun c1 => kc ?_)
  · have := iv_lt.mp c1; omega
  · have := iv_le.mp (iv_nlt c1); omega
set_option maxHeartbeats 4000000 in
set_option maxRecDepth 100000 in
theorem law_step (cx : oCx p s m args c cL_law 8 RL cy D A K) (hA : ∀ q, s.heap.size ≤ q → A q) (hfl : l.stackTraces = false) (hX : va_X b N xs s s.heap) (hbl : b < s.heap.size) (hbA : ¬ A b) (hN : N ≤ 2560) (h0 : 0 ≤ i.toInt) (h5 : i.toInt + 5 ≤ (N : Int)) (hw : oI A L τ cy D s.heap σ H locs) (I : lI L τ σ x k o t w) (J : lX L τ σ t k tu tv) (Y : lY L τ σ x k gg kv) (Z : lK L τ σ x k ik kc i.toInt) (hl : lv_has ls 8 [(4, .int i), (3, .ref o), (2, .ref k), (1, .ref x), (0, .ref b)]) (hf1 : cells + 1 ≤ room_1.cells ∧ slots + 6 ≤ room_1.slots)
    (kk : ∀ (σ1 : oSt) (H1 : Heap) (locs1 : List Loc) (ls1 : Array Slot), oI A L τ cy D s.heap σ1 H1 locs1 → lI L τ σ1 x k o t w → lX L τ σ1 t k tu tv → lY L τ σ1 x k gg kv → lK L τ σ1 x k ik kc (i.toInt + 5) → lv_has ls1 8 [(4, .int i), (3, .ref o), (2, .ref k), (1, .ref x), (0, .ref b)] → W p l e room_1 s m args below meth c H1 locs1 (cells + 1) (slots + 6) Q (F0 m 1433 ls1 [])) : W p l e room_1 s m args below meth c H locs cells slots Q (F0 m 32 ls []) := by
  have hx := cx.1.1
  have hb := cx.1.2.1
  have hf0 : cells + 0 ≤ room_1.cells ∧ slots + 0 ≤ room_1.slots := ⟨Nat.le_of_succ_le hf1.1, Nat.le_trans (Nat.le_add_right _ 6) hf1.2⟩
  have hf2 : cells + 1 + 0 ≤ room_1.cells ∧ slots + 6 + 0 ≤ room_1.slots := hf1
  refine lv_aload_n hx hb dL_law_32 rfl (lv_at hl 4 rfl) ?_
  refine lv_iload hx hb dL_law_33 (lv_at hl 0 rfl) ?_
  refine va_sld hx hb hX hbl hbA hw.2.2.1 (lx_in0 h0 h5) dL_law_35 ?_
  refine lv_bipush (v := 63) hx hb dL_law_36 (by decide) ?_
  refine lv_iand hx hb dL_law_38 ?_
  refine lv_topi (fun v1 e1 => ?_)
  have i1 : Iv v1 0 63 := iv_and e1 (⟨by decide, by decide⟩ : Iv 63 63 63) (by decide)
  by_cases q0 : v1 = 0
  · refine lv_tableIn (tgt := 228) hx hb dL_law_39 (by rw [q0]; decide) (by rw [q0]; decide) (by rw [q0]; rfl) (by decide) ?_
    exact lc_0 cx hA hfl hX hbl hbA hN h0 h5 hw I J Y Z hl hf0 hf1 hf2 kk
  by_cases q1 : v1 = 1
  · refine lv_tableIn (tgt := 253) hx hb dL_law_39 (by rw [q1]; decide) (by rw [q1]; decide) (by rw [q1]; rfl) (by decide) ?_
    exact lc_1 cx hA hfl hX hbl hbA hN h0 h5 hw I J Y Z hl hf0 hf1 hf2 kk
  by_cases q2 : v1 = 2
  · refine lv_tableIn (tgt := 278) hx hb dL_law_39 (by rw [q2]; decide) (by rw [q2]; decide) (by rw [q2]; rfl) (by decide) ?_
    exact lc_2 cx hA hfl hX hbl hbA hN h0 h5 hw I J Y Z hl hf0 hf1 hf2 kk
  by_cases q3 : v1 = 3
  · refine lv_tableIn (tgt := 291) hx hb dL_law_39 (by rw [q3]; decide) (by rw [q3]; decide) (by rw [q3]; rfl) (by decide) ?_
    exact lc_3 cx hA hfl hX hbl hbA hN h0 h5 hw I J Y Z hl hf0 hf1 hf2 kk
  by_cases q4 : v1 = 4
  · refine lv_tableIn (tgt := 304) hx hb dL_law_39 (by rw [q4]; decide) (by rw [q4]; decide) (by rw [q4]; rfl) (by decide) ?_
    exact lc_4 cx hA hfl hX hbl hbA hN h0 h5 hw I J Y Z hl hf0 hf1 hf2 kk
  by_cases q5 : v1 = 5
  · refine lv_tableIn (tgt := 317) hx hb dL_law_39 (by rw [q5]; decide) (by rw [q5]; decide) (by rw [q5]; rfl) (by decide) ?_
    exact lc_5 cx hA hfl hX hbl hbA hN h0 h5 hw I J Y Z hl hf0 hf1 hf2 kk
  by_cases q6 : v1 = 6
  · refine lv_tableIn (tgt := 357) hx hb dL_law_39 (by rw [q6]; decide) (by rw [q6]; decide) (by rw [q6]; rfl) (by decide) ?_
    exact lc_6 cx hA hfl hX hbl hbA hN h0 h5 hw I J Y Z hl hf0 hf1 hf2 kk
  by_cases q7 : v1 = 7
  · refine lv_tableIn (tgt := 397) hx hb dL_law_39 (by rw [q7]; decide) (by rw [q7]; decide) (by rw [q7]; rfl) (by decide) ?_
    exact lc_7 cx hA hfl hX hbl hbA hN h0 h5 hw I J Y Z hl hf0 hf1 hf2 kk
  by_cases q8 : v1 = 8
  · refine lv_tableIn (tgt := 434) hx hb dL_law_39 (by rw [q8]; decide) (by rw [q8]; decide) (by rw [q8]; rfl) (by decide) ?_
    exact lc_8 cx hA hfl hX hbl hbA hN h0 h5 hw I J Y Z hl hf0 hf1 hf2 kk
  by_cases q9 : v1 = 9
  · refine lv_tableIn (tgt := 495) hx hb dL_law_39 (by rw [q9]; decide) (by rw [q9]; decide) (by rw [q9]; rfl) (by decide) ?_
    exact lc_9 cx hA hfl hX hbl hbA hN h0 h5 hw I J Y Z hl hf0 hf1 hf2 kk
  by_cases q10 : v1 = 10
  · refine lv_tableIn (tgt := 532) hx hb dL_law_39 (by rw [q10]; decide) (by rw [q10]; decide) (by rw [q10]; rfl) (by decide) ?_
    exact lc_10 cx hA hfl hX hbl hbA hN h0 h5 hw I J Y Z hl hf0 hf1 hf2 kk
  by_cases q11 : v1 = 11
  · refine lv_tableIn (tgt := 569) hx hb dL_law_39 (by rw [q11]; decide) (by rw [q11]; decide) (by rw [q11]; rfl) (by decide) ?_
    exact lc_11 cx hA hfl hX hbl hbA hN h0 h5 hw I J Y Z hl hf0 hf1 hf2 kk
  by_cases q12 : v1 = 12
  · refine lv_tableIn (tgt := 606) hx hb dL_law_39 (by rw [q12]; decide) (by rw [q12]; decide) (by rw [q12]; rfl) (by decide) ?_
    exact lc_12 cx hA hfl hX hbl hbA hN h0 h5 hw I J Y Z hl hf0 hf1 hf2 kk
  by_cases q13 : v1 = 13
  · refine lv_tableIn (tgt := 643) hx hb dL_law_39 (by rw [q13]; decide) (by rw [q13]; decide) (by rw [q13]; rfl) (by decide) ?_
    exact lc_13 cx hA hfl hX hbl hbA hN h0 h5 hw I J Y Z hl hf0 hf1 hf2 kk
  by_cases q14 : v1 = 14
  · refine lv_tableIn (tgt := 656) hx hb dL_law_39 (by rw [q14]; decide) (by rw [q14]; decide) (by rw [q14]; rfl) (by decide) ?_
    exact lc_14 cx hA hfl hX hbl hbA hN h0 h5 hw I J Y Z hl hf0 hf1 hf2 kk
  by_cases q15 : v1 = 15
  · refine lv_tableIn (tgt := 681) hx hb dL_law_39 (by rw [q15]; decide) (by rw [q15]; decide) (by rw [q15]; rfl) (by decide) ?_
    exact lc_15 cx hA hfl hX hbl hbA hN h0 h5 hw I J Y Z hl hf0 hf1 hf2 kk
  by_cases q16 : v1 = 16
  · refine lv_tableIn (tgt := 694) hx hb dL_law_39 (by rw [q16]; decide) (by rw [q16]; decide) (by rw [q16]; rfl) (by decide) ?_
    exact lc_16 cx hA hfl hX hbl hbA hN h0 h5 hw I J Y Z hl hf0 hf1 hf2 kk
  by_cases q17 : v1 = 17
  · refine lv_tableIn (tgt := 707) hx hb dL_law_39 (by rw [q17]; decide) (by rw [q17]; decide) (by rw [q17]; rfl) (by decide) ?_
    exact lc_17 cx hA hfl hX hbl hbA hN h0 h5 hw I J Y Z hl hf0 hf1 hf2 kk
  by_cases q18 : v1 = 18
  · refine lv_tableIn (tgt := 720) hx hb dL_law_39 (by rw [q18]; decide) (by rw [q18]; decide) (by rw [q18]; rfl) (by decide) ?_
    exact lc_18 cx hA hfl hX hbl hbA hN h0 h5 hw I J Y Z hl hf0 hf1 hf2 kk
  by_cases q19 : v1 = 19
  · refine lv_tableIn (tgt := 733) hx hb dL_law_39 (by rw [q19]; decide) (by rw [q19]; decide) (by rw [q19]; rfl) (by decide) ?_
    exact lc_19 cx hA hfl hX hbl hbA hN h0 h5 hw I J Y Z hl hf0 hf1 hf2 kk
  by_cases q20 : v1 = 20
  · refine lv_tableIn (tgt := 770) hx hb dL_law_39 (by rw [q20]; decide) (by rw [q20]; decide) (by rw [q20]; rfl) (by decide) ?_
    exact lc_20 cx hA hfl hX hbl hbA hN h0 h5 hw I J Y Z hl hf0 hf1 hf2 kk
  by_cases q21 : v1 = 21
  · refine lv_tableIn (tgt := 795) hx hb dL_law_39 (by rw [q21]; decide) (by rw [q21]; decide) (by rw [q21]; rfl) (by decide) ?_
    exact lc_21 cx hA hfl hX hbl hbA hN h0 h5 hw I J Y Z hl hf0 hf1 hf2 kk
  by_cases q22 : v1 = 22
  · refine lv_tableIn (tgt := 808) hx hb dL_law_39 (by rw [q22]; decide) (by rw [q22]; decide) (by rw [q22]; rfl) (by decide) ?_
    exact lc_22 cx hA hfl hX hbl hbA hN h0 h5 hw I J Y Z hl hf0 hf1 hf2 kk
  by_cases q23 : v1 = 23
  · refine lv_tableIn (tgt := 821) hx hb dL_law_39 (by rw [q23]; decide) (by rw [q23]; decide) (by rw [q23]; rfl) (by decide) ?_
    exact lc_23 cx hA hfl hX hbl hbA hN h0 h5 hw I J Y Z hl hf0 hf1 hf2 kk
  by_cases q24 : v1 = 24
  · refine lv_tableIn (tgt := 846) hx hb dL_law_39 (by rw [q24]; decide) (by rw [q24]; decide) (by rw [q24]; rfl) (by decide) ?_
    exact lc_24 cx hA hfl hX hbl hbA hN h0 h5 hw I J Y Z hl hf0 hf1 hf2 kk
  by_cases q25 : v1 = 25
  · refine lv_tableIn (tgt := 883) hx hb dL_law_39 (by rw [q25]; decide) (by rw [q25]; decide) (by rw [q25]; rfl) (by decide) ?_
    exact lc_25 cx hA hfl hX hbl hbA hN h0 h5 hw I J Y Z hl hf0 hf1 hf2 kk
  by_cases q26 : v1 = 26
  · refine lv_tableIn (tgt := 908) hx hb dL_law_39 (by rw [q26]; decide) (by rw [q26]; decide) (by rw [q26]; rfl) (by decide) ?_
    exact lc_26 cx hA hfl hX hbl hbA hN h0 h5 hw I J Y Z hl hf0 hf1 hf2 kk
  by_cases q27 : v1 = 27
  · refine lv_tableIn (tgt := 945) hx hb dL_law_39 (by rw [q27]; decide) (by rw [q27]; decide) (by rw [q27]; rfl) (by decide) ?_
    exact lc_27 cx hA hfl hX hbl hbA hN h0 h5 hw I J Y Z hl hf0 hf1 hf2 kk
  by_cases q28 : v1 = 28
  · refine lv_tableIn (tgt := 970) hx hb dL_law_39 (by rw [q28]; decide) (by rw [q28]; decide) (by rw [q28]; rfl) (by decide) ?_
    exact lc_28 cx hA hfl hX hbl hbA hN h0 h5 hw I J Y Z hl hf0 hf1 hf2 kk
  by_cases q29 : v1 = 29
  · refine lv_tableIn (tgt := 983) hx hb dL_law_39 (by rw [q29]; decide) (by rw [q29]; decide) (by rw [q29]; rfl) (by decide) ?_
    exact lc_29 cx hA hfl hX hbl hbA hN h0 h5 hw I J Y Z hl hf0 hf1 hf2 kk
  by_cases q30 : v1 = 30
  · refine lv_tableIn (tgt := 1008) hx hb dL_law_39 (by rw [q30]; decide) (by rw [q30]; decide) (by rw [q30]; rfl) (by decide) ?_
    exact lc_30 cx hA hfl hX hbl hbA hN h0 h5 hw I J Y Z hl hf0 hf1 hf2 kk
  by_cases q31 : v1 = 31
  · refine lv_tableIn (tgt := 1045) hx hb dL_law_39 (by rw [q31]; decide) (by rw [q31]; decide) (by rw [q31]; rfl) (by decide) ?_
    exact lc_31 cx hA hfl hX hbl hbA hN h0 h5 hw I J Y Z hl hf0 hf1 hf2 kk
  by_cases q32 : v1 = 32
  · refine lv_tableIn (tgt := 1082) hx hb dL_law_39 (by rw [q32]; decide) (by rw [q32]; decide) (by rw [q32]; rfl) (by decide) ?_
    exact lc_32 cx hA hfl hX hbl hbA hN h0 h5 hw I J Y Z hl hf0 hf1 hf2 kk
  by_cases q33 : v1 = 33
  · refine lv_tableIn (tgt := 1131) hx hb dL_law_39 (by rw [q33]; decide) (by rw [q33]; decide) (by rw [q33]; rfl) (by decide) ?_
    exact lc_33 cx hA hfl hX hbl hbA hN h0 h5 hw I J Y Z hl hf0 hf1 hf2 kk
  by_cases q34 : v1 = 34
  · refine lv_tableIn (tgt := 1180) hx hb dL_law_39 (by rw [q34]; decide) (by rw [q34]; decide) (by rw [q34]; rfl) (by decide) ?_
    exact lc_34 cx hA hfl hX hbl hbA hN h0 h5 hw I J Y Z hl hf0 hf1 hf2 kk
  by_cases q35 : v1 = 35
  · refine lv_tableIn (tgt := 1193) hx hb dL_law_39 (by rw [q35]; decide) (by rw [q35]; decide) (by rw [q35]; rfl) (by decide) ?_
    exact lc_35 cx hA hfl hX hbl hbA hN h0 h5 hw I J Y Z hl hf0 hf1 hf2 kk
  by_cases q36 : v1 = 36
  · refine lv_tableIn (tgt := 1242) hx hb dL_law_39 (by rw [q36]; decide) (by rw [q36]; decide) (by rw [q36]; rfl) (by decide) ?_
    exact lc_36 cx hA hfl hX hbl hbA hN h0 h5 hw I J Y Z hl hf0 hf1 hf2 kk
  by_cases q37 : v1 = 37
  · refine lv_tableIn (tgt := 1267) hx hb dL_law_39 (by rw [q37]; decide) (by rw [q37]; decide) (by rw [q37]; rfl) (by decide) ?_
    exact lc_37 cx hA hfl hX hbl hbA hN h0 h5 hw I J Y Z hl hf0 hf1 hf2 kk
  by_cases q38 : v1 = 38
  · refine lv_tableIn (tgt := 1280) hx hb dL_law_39 (by rw [q38]; decide) (by rw [q38]; decide) (by rw [q38]; rfl) (by decide) ?_
    exact lc_38 cx hA hfl hX hbl hbA hN h0 h5 hw I J Y Z hl hf0 hf1 hf2 kk
  by_cases q39 : v1 = 39
  · refine lv_tableIn (tgt := 1293) hx hb dL_law_39 (by rw [q39]; decide) (by rw [q39]; decide) (by rw [q39]; rfl) (by decide) ?_
    exact lc_39 cx hA hfl hX hbl hbA hN h0 h5 hw I J Y Z hl hf0 hf1 hf2 kk
  by_cases q40 : v1 = 40
  · refine lv_tableIn (tgt := 1330) hx hb dL_law_39 (by rw [q40]; decide) (by rw [q40]; decide) (by rw [q40]; rfl) (by decide) ?_
    exact lc_40 cx hA hfl hX hbl hbA hN h0 h5 hw I J Y Z hl hf0 hf1 hf2 kk
  by_cases q41 : v1 = 41
  · refine lv_tableIn (tgt := 1355) hx hb dL_law_39 (by rw [q41]; decide) (by rw [q41]; decide) (by rw [q41]; rfl) (by decide) ?_
    exact lc_41 cx hA hfl hX hbl hbA hN h0 h5 hw I J Y Z hl hf0 hf1 hf2 kk
  by_cases q42 : v1 = 42
  · refine lv_tableIn (tgt := 1380) hx hb dL_law_39 (by rw [q42]; decide) (by rw [q42]; decide) (by rw [q42]; rfl) (by decide) ?_
    exact lc_42 cx hA hfl hX hbl hbA hN h0 h5 hw I J Y Z hl hf0 hf1 hf2 kk
  by_cases q43 : v1 = 43
  · refine lv_tableIn (tgt := 1405) hx hb dL_law_39 (by rw [q43]; decide) (by rw [q43]; decide) (by rw [q43]; rfl) (by decide) ?_
    exact lc_43 cx hA hfl hX hbl hbA hN h0 h5 hw I J Y Z hl hf0 hf1 hf2 kk
  have q0 := iv_nt q0 (k := 0) (by decide)
  have q1 := iv_nt q1 (k := 1) (by decide)
  have q2 := iv_nt q2 (k := 2) (by decide)
  have q3 := iv_nt q3 (k := 3) (by decide)
  have q4 := iv_nt q4 (k := 4) (by decide)
  have q5 := iv_nt q5 (k := 5) (by decide)
  have q6 := iv_nt q6 (k := 6) (by decide)
  have q7 := iv_nt q7 (k := 7) (by decide)
  have q8 := iv_nt q8 (k := 8) (by decide)
  have q9 := iv_nt q9 (k := 9) (by decide)
  have q10 := iv_nt q10 (k := 10) (by decide)
  have q11 := iv_nt q11 (k := 11) (by decide)
  have q12 := iv_nt q12 (k := 12) (by decide)
  have q13 := iv_nt q13 (k := 13) (by decide)
  have q14 := iv_nt q14 (k := 14) (by decide)
  have q15 := iv_nt q15 (k := 15) (by decide)
  have q16 := iv_nt q16 (k := 16) (by decide)
  have q17 := iv_nt q17 (k := 17) (by decide)
  have q18 := iv_nt q18 (k := 18) (by decide)
  have q19 := iv_nt q19 (k := 19) (by decide)
  have q20 := iv_nt q20 (k := 20) (by decide)
  have q21 := iv_nt q21 (k := 21) (by decide)
  have q22 := iv_nt q22 (k := 22) (by decide)
  have q23 := iv_nt q23 (k := 23) (by decide)
  have q24 := iv_nt q24 (k := 24) (by decide)
  have q25 := iv_nt q25 (k := 25) (by decide)
  have q26 := iv_nt q26 (k := 26) (by decide)
  have q27 := iv_nt q27 (k := 27) (by decide)
  have q28 := iv_nt q28 (k := 28) (by decide)
  have q29 := iv_nt q29 (k := 29) (by decide)
  have q30 := iv_nt q30 (k := 30) (by decide)
  have q31 := iv_nt q31 (k := 31) (by decide)
  have q32 := iv_nt q32 (k := 32) (by decide)
  have q33 := iv_nt q33 (k := 33) (by decide)
  have q34 := iv_nt q34 (k := 34) (by decide)
  have q35 := iv_nt q35 (k := 35) (by decide)
  have q36 := iv_nt q36 (k := 36) (by decide)
  have q37 := iv_nt q37 (k := 37) (by decide)
  have q38 := iv_nt q38 (k := 38) (by decide)
  have q39 := iv_nt q39 (k := 39) (by decide)
  have q40 := iv_nt q40 (k := 40) (by decide)
  have q41 := iv_nt q41 (k := 41) (by decide)
  have q42 := iv_nt q42 (k := 42) (by decide)
  have q43 := iv_nt q43 (k := 43) (by decide)
  have := i1.1
  refine lv_tableOut (tgt := 1433) hx hb dL_law_39 (by omega) (by decide) ?_
  refine W.widen (k := cells + 1) (n := slots + 6) (by omega) (by omega) ?_
  exact kk σ H locs ls hw I J Y (lk_mono Z (by omega)) hl
set_option maxHeartbeats 4000000 in
theorem law_loop (cx : oCx p s m #[Value.ref b] c cL_law 8 RL cy D A K) (hA : ∀ q, s.heap.size ≤ q → A q) (hfl : l.stackTraces = false) (hX : va_X b N xs s s.heap) (hbl : b < s.heap.size) (hbA : ¬ A b) (hN : N ≤ 2560) (hr : meth.sig.returnType = ret) (hlocks : meth.locks = false) (hAs : ∀ q, A q → s.heap.size ≤ q) : ∀ (n : Nat) (i : Int32) (σ : oSt) (H : Heap) (locs : List Loc) (ls : Array Slot) (cells slots : Nat), 0 ≤ i.toInt → i.toInt ≤ 2565 → (N : Int) < i.toInt + 5 * n + 5 → cells + n ≤ 601024 → slots + 6 * n ≤ 7293034 → oI A L τ cy D s.heap σ H locs → lI L τ σ x k o t w → lX L τ σ t k tu tv → lY L τ σ x k gg kv → lK L τ σ x k ik kc i.toInt → lv_has ls 8 [(4, .int i), (3, .ref o), (2, .ref k), (1, .ref x), (0, .ref b)] → W p l e room_1 s m #[Value.ref b] below meth c H locs cells slots (lw_Z below #[Value.ref b] s) (F0 m 23 ls []) := by
  have hx := cx.1.1
  have hb := cx.1.2.1
  intro n
  induction n with
  | zero =>
    intro i σ H locs ls cells slots h0 h1 hn hc hs hw I J Y Z hl
    refine law_head cx hA hfl hX hbl hbA hN h0 h1 hw hl (fun q9 => ?_) (fun h5 => ?_)
    · refine lv_iconst (v := 1) hx hb dL_law_1439 (by decide) ?_
      refine va_forget (fun q hq => hAs _ (hw.2.2.1.2.2 q hq)) ?_
      refine W.widen (k := 601024) (n := 7293034) (by omega) (by omega) ?_
      exact lw_ret hx hb hr hlocks dL_law_1440
    · exact absurd h5 (by omega)
  | succ n ih =>
    intro i σ H locs ls cells slots h0 h1 hn hc hs hw I J Y Z hl
    refine law_head cx hA hfl hX hbl hbA hN h0 h1 hw hl (fun q9 => ?_) (fun h5 => ?_)
    · refine lv_iconst (v := 1) hx hb dL_law_1439 (by decide) ?_
      refine va_forget (fun q hq => hAs _ (hw.2.2.1.2.2 q hq)) ?_
      refine W.widen (k := 601024) (n := 7293034) (by omega) (by omega) ?_
      exact lw_ret hx hb hr hlocks dL_law_1440
    · refine law_step cx hA hfl hX hbl hbA hN h0 h5 hw I J Y Z hl ⟨(by show cells + 1 ≤ 601024; omega), (by show slots + 6 ≤ 7293034; omega)⟩ (fun σ1 H1 locs1 ls1 hw1 I1 J1 Y1 Z1 hl1 => ?_)
      obtain ⟨i2, e2⟩ : ∃ y : Int32, y = i + 5 := ⟨_, rfl⟩
      have x2 := ex_add e2 (a := 0) (b := 2560) (c := 5) (d := 5) ⟨h0, by omega⟩ ⟨by decide, by decide⟩ (by decide)
      have z3 : (5 : Int32).toInt = 5 := by decide
      refine lv_iinc (v := i2) (lv' := [(4, .int i2), (3, .ref o), (2, .ref k), (1, .ref x), (0, .ref b)]) hx hb dL_law_1433 hl1 (k := 0) rfl (by rw [e2]; rfl) (by decide) rfl (fun ls hl => ?_)
      refine lv_goto (tgt := 23) hx hb dL_law_1436 (by decide) ?_
      exact ih i2 σ1 H1 locs1 ls (cells + 1) (slots + 6) (by omega) (by omega) (by omega) (by omega) (by omega) hw1 I1 J1 Y1 (lk_mono Z1 (by omega)) hl
end LAW
theorem law_start {p : Program} {e : Env} {s : State} {m : MethodId} {below : List Frame} {meth : Method} {c : Code} (l : Launch) (hfl : l.stackTraces = false) {b N : Nat} {xs : Nat → Int32} (hN : N ≤ 2560) (C0 : lw_At p s m meth c b N xs) : W p l e room_1 s m #[Value.ref b] below meth c s.heap [] 0 0 (lw_Z below #[Value.ref b] s) (entryFrame m ([Value.ref b] : List Value).toArray 8) := by
  obtain ⟨cy, D, K, cx⟩ := law_setup C0
  obtain ⟨-, -, hr, -, -, -, hX, hbl, hlocks, -⟩ := id C0
  have hx := cx.1.1
  have hb := cx.1.2.1
  have hml := cx.1.2.2.1
  have hown := cx.1.2.2.2.1
  have hts := cx.1.2.2.2.2
  have hA : ∀ q : Nat, s.heap.size ≤ q → (fun q : Nat => s.heap.size ≤ q) q := fun _ h => h
  have hbA : ¬ (fun q : Nat => s.heap.size ≤ q) b := Nat.not_le.mpr hbl
  have hw : oI (fun q : Nat => s.heap.size ≤ q) [] (fun _ => 31) cy D s.heap lZ s.heap [] := lZ_I
  have hl := lv_entry ([.ref b]) (n := 8) (Nat.le_of_ble_eq_true rfl)
  rw [lg_entry_eq]
  generalize (lg_sl ([.ref b]) ++ List.replicate (8 - (lg_sl ([.ref b])).length) Slot.unset).toArray = ls at hl ⊢
  have hl : lv_has ls 8 [(0, .ref b)] := hl
  refine o_new cx hA hw 9 (by decide) rfl fiX10 tyX10 tyX10_ok dfX10 k_c_L_8 k_n_X10 k_i_X10 (by decide) (by decide) dL_law_0 (fun x L τ σ H g1 hw => ?_)
  refine lv_dup hx hb dL_law_3 rfl ?_
  refine o_cI hw (oRunI cx hA hw q_X10_init k_m_L_22 (As := []) (c_X10_init x (oG_q g1) (fun j => oG_zi g1) (fun j => oG_zl g1)) (by decide) rfl hl.1 rfl (Nat.le_of_ble_eq_true rfl) dL_law_4 (by decide)) (fun L τ σ H locs hp hw => ?_)
  obtain ⟨m1, m2, ⟨t, m3, m4⟩, ⟨w, m5, m6, m7⟩, -, ⟨gg, m8, m9, m10⟩, m12, -, m11⟩ := hp
  have m2 : τ x = 9 := m2
  have m3 : σ.2.2.2.2 576 x = some t := m3
  have m5 : σ.2.2.2.2 580 x = some w := m5
  have m4 : σ.1 385 t = 0 := m4
  have m6 : σ.1 514 w = 12 := m6
  have m7 : σ.1 515 w = 6 := m7
  have a0 : oA L τ x 9 := ⟨m1, m2⟩
  have m8 : σ.2.2.2.2 578 x = some gg := m8
  have m9 : σ.1 64 gg = 0 := m9
  have m10 : σ.1 65 gg = 0 := m10
  have m11 : NV σ x 0 := m11
  have hwA := hw
  obtain ⟨bt, et, ht⟩ := hw.2.2.2.2.2 576 x 6 (by rw [m2]; rfl) m1
  have ht : oA L τ t 6 := by rw [show t = bt from Option.some.inj (m3.symm.trans et)]; exact ht
  obtain ⟨bw, ew, hW⟩ := hw.2.2.2.2.2 580 x 8 (by rw [m2]; rfl) m1
  have hW : oA L τ w 8 := by rw [show w = bw from Option.some.inj (m5.symm.trans ew)]; exact hW
  obtain ⟨bgg, egg, hgg⟩ := hw.2.2.2.2.2 578 x 1 (by rw [m2]; rfl) m1
  have hgg : oA L τ gg 1 := by rw [show gg = bgg from Option.some.inj (m8.symm.trans egg)]; exact hgg
  refine lv_astore_n (lv' := [(1, .ref x), (0, .ref b)]) hx hb dL_law_7 rfl hl (by decide) rfl (fun ls hl => ?_)
  refine o_new cx hA hw 10 (by decide) rfl fiX11 tyX11 tyX11_ok dfX11 k_c_L_23 k_n_X11 k_i_X11 (by decide) (by decide) dL_law_8 (fun k L2 τ2 σ2 H g2 hw => ?_)
  refine lv_dup hx hb dL_law_11 rfl ?_
  refine o_cI hw (oRunI cx hA hw q_X11_init k_m_L_25 (As := []) (c_X11_init k (oG_q g2) (fun j => oG_zi g2) (fun j => oG_zl g2)) (by decide) rfl hl.1 rfl (Nat.le_of_ble_eq_true rfl) dL_law_12 (by decide)) (fun L3 τ3 σ3 H locs hp hw => ?_)
  obtain ⟨y, n2, f641, f642, f645, f647, f649, f650, f651, f653, f655, f657, f658, f660, f661, f662, f663, f668, f669, f672, f675, f681, ⟨ik, kc, r3a, r3b, z3a, z3b⟩⟩ := hp
  have c_k9 : oA L3 τ3 k 10 := oX_q y (oG_q g2) n2
  have z3b : ∀ j, σ3.2.2.1 kc j = 0 := z3b
  have z3a : ∀ j, σ3.2.2.1 ik j = 0 := z3a
  have r3b : σ3.2.2.2.2 684 k = some kc := r3b
  have r3a : σ3.2.2.2.2 683 k = some ik := r3a
  have kc9 : oA L3 τ3 kc 61 := by obtain ⟨b9, e9, h9⟩ := hw.2.2.2.2.2 684 k 61 (by rw [c_k9.2]; rfl) c_k9.1; rw [Option.some.inj (r3b.symm.trans e9)]; exact h9
  have ik9 : oA L3 τ3 ik 60 := by obtain ⟨b9, e9, h9⟩ := hw.2.2.2.2.2 683 k 60 (by rw [c_k9.2]; rfl) c_k9.1; rw [Option.some.inj (r3a.symm.trans e9)]; exact h9
  refine lv_astore_n (lv' := [(2, .ref k), (1, .ref x), (0, .ref b)]) hx hb dL_law_15 rfl hl (by decide) rfl (fun ls hl => ?_)
  refine lv_iconst (v := 1) hx hb dL_law_16 (by decide) ?_
  refine o_newl cx hA hw 62 (by decide) (fun _ => rfl) rfl (by decide) (by decide) (by decide) (by decide) (by decide) dL_law_17 (fun o L4 τ4 σ4 H g4 hw => ?_)
  refine lv_astore_n (lv' := [(3, .ref o), (2, .ref k), (1, .ref x), (0, .ref b)]) hx hb dL_law_19 rfl hl (by decide) rfl (fun ls hl => ?_)
  refine lv_iconst (v := 0) hx hb dL_law_20 (by decide) ?_
  refine lv_istore (lv' := [(4, .int 0), (3, .ref o), (2, .ref k), (1, .ref x), (0, .ref b)]) hx hb dL_law_21 hl (by decide) rfl (fun ls hl => ?_)
  have n_x := oG_ne g2 a0
  have b_x := oG_a g2 a0
  have c_x := oX_a y b_x n_x
  have d_x := oG_a g4 c_x
  have n_t := oG_ne g2 ht
  have b_t := oG_a g2 ht
  have c_t := oX_a y b_t n_t
  have d_t := oG_a g4 c_t
  have n_w := oG_ne g2 hW
  have b_w := oG_a g2 hW
  have c_w := oX_a y b_w n_w
  have d_w := oG_a g4 c_w
  have n_gg := oG_ne g2 hgg
  have b_gg := oG_a g2 hgg
  have c_gg := oX_a y b_gg n_gg
  have d_gg := oG_a g4 c_gg
  have c_k := oX_q y (oG_q g2) n2
  have d_k := oG_a g4 c_k
  have v385 : σ4.1 385 t = 0 := (oG_i g4 c_t).trans ((oX_ki y b_t n_t).trans ((oG_i g2 ht).trans m4))
  have v514 : σ4.1 514 w = 12 := (oG_i g4 c_w).trans ((oX_ki y b_w n_w).trans ((oG_i g2 hW).trans m6))
  have v515 : σ4.1 515 w = 6 := (oG_i g4 c_w).trans ((oX_ki y b_w n_w).trans ((oG_i g2 hW).trans m7))
  have r576 : σ4.2.2.2.2 576 x = some t := (oG_r g4 c_x).trans ((oX_kr y b_x n_x).trans ((oG_r g2 a0).trans m3))
  have r580 : σ4.2.2.2.2 580 x = some w := (oG_r g4 c_x).trans ((oX_kr y b_x n_x).trans ((oG_r g2 a0).trans m5))
  have a683 : oA L4 τ4 ik 60 := oG_a g4 ik9
  have r683 : σ4.2.2.2.2 683 k = some ik := (oG_r g4 c_k).trans r3a
  have w683 : ∀ j, σ4.2.2.1 ik j = 0 := fun j => (congrFun (oG_w g4 ik9) j).trans (z3a j)
  have a684 : oA L4 τ4 kc 61 := oG_a g4 kc9
  have r684 : σ4.2.2.2.2 684 k = some kc := (oG_r g4 c_k).trans r3b
  have w684 : ∀ j, σ4.2.2.1 kc j = 0 := fun j => (congrFun (oG_w g4 kc9) j).trans (z3b j)
  have v681 : σ4.1 681 k = 0 := (oG_i g4 c_k).trans f681
  have v587 : σ4.1 587 x = 0 := (oG_i g4 c_x).trans ((oX_ki y b_x n_x).trans ((oG_i g2 a0).trans m12))
  have v64 : σ4.1 64 gg = 0 := (oG_i g4 c_gg).trans ((oX_ki y b_gg n_gg).trans ((oG_i g2 hgg).trans m9))
  have v65 : σ4.1 65 gg = 0 := (oG_i g4 c_gg).trans ((oX_ki y b_gg n_gg).trans ((oG_i g2 hgg).trans m10))
  have r578 : σ4.2.2.2.2 578 x = some gg := (oG_r g4 c_x).trans ((oX_kr y b_x n_x).trans ((oG_r g2 a0).trans m8))
  have v642 : σ4.1 642 k = 0 := (oG_i g4 c_k).trans f642
  have v647 : σ4.1 647 k = 0 := (oG_i g4 c_k).trans f647
  have nv4 : NV σ4 x 0 := nv_old m11 a0 hwA.2.2.2.2.2 (fun b9 hb9 => ⟨fun j => (oG_i g4 (oX_a y (oG_a g2 ⟨hb9, rfl⟩) (oG_ne g2 ⟨hb9, rfl⟩))).trans ((oX_ki y (oG_a g2 ⟨hb9, rfl⟩) (oG_ne g2 ⟨hb9, rfl⟩)).trans (oG_i g2 ⟨hb9, rfl⟩)), fun j => (oG_r g4 (oX_a y (oG_a g2 ⟨hb9, rfl⟩) (oG_ne g2 ⟨hb9, rfl⟩))).trans ((oX_kr y (oG_a g2 ⟨hb9, rfl⟩) (oG_ne g2 ⟨hb9, rfl⟩)).trans (oG_r g2 ⟨hb9, rfl⟩))⟩)
  obtain ⟨kv, r643, a643⟩ := hw.2.2.2.2.2 643 k 49 (by rw [d_k.2]; rfl) d_k.1
  have v655 : σ4.1 655 k = 0 := (oG_i g4 c_k).trans f655
  have v650 : σ4.1 650 k = 12 := (oG_i g4 c_k).trans f650
  have v651 : σ4.1 651 k = 6 := (oG_i g4 c_k).trans f651
  have v641 : σ4.1 641 k = 0 := (oG_i g4 c_k).trans f641
  obtain ⟨tu, r384, a384⟩ := hw.2.2.2.2.2 384 t 35 (by rw [d_t.2]; rfl) d_t.1
  obtain ⟨tv, r654, a654⟩ := hw.2.2.2.2.2 654 k 51 (by rw [d_k.2]; rfl) d_k.1
  have z : (0 : Int32).toInt = 0 := by decide
  exact law_loop cx hA hfl hX hbl hbA hN hr hlocks (fun _ h => h) 512 0 σ4 H locs ls _ _ (by decide) (by decide) (by omega) (by decide) (by decide) hw ⟨d_x, d_k, oG_q g4, r576, r580, by rw [v385, v655], by rw [v514, v650], by rw [v515, v651], .inl (by rw [v641]; decide)⟩ ⟨r384, a384, r654, a654, tEq_0 (by rw [v655]; decide)⟩ ⟨by rw [v647]; exact nv4, r578, d_gg, r643, a643, by rw [v64, v641], by rw [v65, v642], .inl (by rw [v64]; decide)⟩ ⟨r683, a683, r684, a684, by rw [v681]; decide, by rw [v681]; decide, fun j hj => ⟨by rw [w684, v681]; decide, ⟨fun z => absurd z (by rw [v587, kb_0 j hj]; decide), fun z => absurd (w683 j) z.1⟩⟩⟩ hl
