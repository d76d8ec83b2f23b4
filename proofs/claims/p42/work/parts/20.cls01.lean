section OM
variable {l : Launch} {A : Nat → Prop} {L : List Nat} {τ : Nat → Nat} {cy : Nat → ClassId} {D : va_G} {K : (Nat → Nat) × (Nat → Nat)} {σ : oSt}
set_option maxHeartbeats 4000000 in
set_option maxRecDepth 100000 in
theorem c_X7_fault (a0 : Nat) (ha0 : oA L τ a0 6) : oMet l A L τ cy D K yX7_fault cX7_fault 1 (some .int) 0 0 [.ref a0] σ (va_Qi (fun r σ1 => σ1 = σ) (oPo A L τ cy D) A) := by
  refine oMk (by decide) (Nat.le_of_ble_eq_true rfl) rfl ?_
  intro p e s m args below meth c ls cx rx hA hw hl
  generalize hQ : MQ below _ args s 0 0 A = Q
  have hx := cx.1.1
  have hb := cx.1.2.1
  have hml := cx.1.2.2.1
  have hown := cx.1.2.2.2.1
  have hts := cx.1.2.2.2.2
  have hl : lv_has ls 1 [(0, .ref a0)] := hl
  refine lv_iconst (v := (-1)) hx hb dX7_fault_0 (by decide) ?_
  refine lv_aload_n hx hb dX7_fault_1 rfl (lv_at hl 0 rfl) ?_
  refine g_386 cx hw ha0 k_f_X7_37 dX7_fault_2 (fun v1 e1 => ?_)
  refine lv_isub hx hb dX7_fault_5 ?_
  refine lv_topi (fun v2 e2 => ?_)
  rw [← hQ]
  exact o_ri cx rx hw dX7_fault_6 rfl
abbrev fs_X2_faultIn : List Nat := [386, 387]
abbrev ts_X2_faultIn : List Nat := []
set_option maxHeartbeats 4000000 in
set_option maxRecDepth 100000 in
theorem c_X2_faultIn (a0 : Nat) (ha0 : oA L τ a0 1) (a1 : Nat) (ha1 : oA L τ a1 6) : oMet l A L τ cy D K yX2_faultIn cX2_faultIn 8 (some .int) 5 128 [.ref a0, .ref a1] σ (va_Qi (fun r σ1 => oFr τ fs_X2_faultIn ts_X2_faultIn σ σ1) (oPo A L τ cy D) A) := by
  refine oMk (by decide) (Nat.le_of_ble_eq_true rfl) rfl ?_
  intro p e s m args below meth c ls cx rx hA hw hl
  generalize hQ : MQ below _ args s 0 0 A = Q
  have hx := cx.1.1
  have hb := cx.1.2.1
  have hml := cx.1.2.2.1
  have hown := cx.1.2.2.2.1
  have hts := cx.1.2.2.2.2
  have hl : lv_has ls 8 [(0, .ref a0), (1, .ref a1)] := hl
  have fr : oFr τ fs_X2_faultIn ts_X2_faultIn σ σ := oFr_rf
  refine lv_aload_n hx hb dX2_faultIn_0 rfl (lv_at hl 1 rfl) ?_
  refine lv_bipush (v := 76) hx hb dX2_faultIn_1 (by decide) ?_
  refine o_cv hw (oRunV cx hA hw q_X7_begin k_m_X2_15 rfl ha1 (by decide) (As := [.int 76]) (c_X7_begin a1 ha1 76) (by decide) rfl hl.1 rfl (Nat.le_of_ble_eq_true rfl) dX2_faultIn_3 (by decide)) (fun σ1 H locs hp hw => ?_)
  have p2_0 := hp
  have fr := oFr_tr fr p2_0 (by decide)
  refine lv_bipush (v := 8) hx hb dX2_faultIn_6 (by decide) ?_
  refine lv_istore_n (lv' := [(2, .int 8), (0, .ref a0), (1, .ref a1)]) hx hb dX2_faultIn_8 rfl hl (by decide) rfl (fun ls hl => ?_)
  refine lv_iconst (v := 0) hx hb dX2_faultIn_9 (by decide) ?_
  refine lv_istore_n (lv' := [(3, .int 0), (2, .int 8), (0, .ref a0), (1, .ref a1)]) hx hb dX2_faultIn_10 rfl hl (by decide) rfl (fun ls hl => ?_)
  refine lv_iconst (v := 0) hx hb dX2_faultIn_11 (by decide) ?_
  refine lv_istore (lv' := [(4, .int 0), (3, .int 0), (2, .int 8), (0, .ref a0), (1, .ref a1)]) hx hb dX2_faultIn_12 hl (by decide) rfl (fun ls hl => ?_)
  refine lv_iconst (v := 0) hx hb dX2_faultIn_14 (by decide) ?_
  refine lv_istore (lv' := [(5, .int 0), (4, .int 0), (3, .int 0), (2, .int 8), (0, .ref a0), (1, .ref a1)]) hx hb dX2_faultIn_15 hl (by decide) rfl (fun ls hl => ?_)
  refine lv_iconst (v := 0) hx hb dX2_faultIn_17 (by decide) ?_
  refine lv_istore (lv' := [(6, .int 0), (5, .int 0), (4, .int 0), (3, .int 0), (2, .int 8), (0, .ref a0), (1, .ref a1)]) hx hb dX2_faultIn_18 hl (by decide) rfl (fun ls hl => ?_)
  have frE_20 := fr
  have J_20 : ∀ n20 : Nat, ∀ (j20_2 : Int32) (ij20_2 : Iv j20_2 0 8) (j20_3 : Int32) (ij20_3 : Iv j20_3 0 8) (j20_4 : Int32) (ij20_4 : Iv j20_4 0 7) (j20_5 : Int32) (ij20_5 : Iv j20_5 0 6) (j20_6 : Int32) (ij20_6 : Iv j20_6 0 77), ∀ (σ_20 : oSt) (H : Heap) (locs : List Loc), oI A L τ cy D s.heap σ_20 H locs → oFr τ fs_X2_faultIn ts_X2_faultIn σ σ_20 → (77 - j20_6.toInt).toNat < n20 → ∀ (ls : Array Slot), lv_has ls 8 [(0, .ref a0), (1, .ref a1), (2, .int j20_2), (3, .int j20_3), (4, .int j20_4), (5, .int j20_5), (6, .int j20_6)] → W p l e ({ frames := 5, cells := 0, slots := 0, locals := 128 } : Room) s m args below meth c H locs 0 0 Q (F0 m 20 ls []) := by
    intro n20
    induction n20 with
    | zero => intro j20_2 ij20_2 j20_3 ij20_3 j20_4 ij20_4 j20_5 ij20_5 j20_6 ij20_6 σ_20 H locs hw fr   hn_20   ls hl; exact absurd hn_20 (Nat.not_lt_zero _)
    | succ n20 ih_20 =>
      intro j20_2 ij20_2 j20_3 ij20_3 j20_4 ij20_4 j20_5 ij20_5 j20_6 ij20_6 σ_20 H locs hw fr   hn_20   ls hl
      have fr_20 := fr
      refine lv_iload hx hb dX2_faultIn_20 (lv_at hl 6 rfl) ?_
      refine lv_bipush (v := 76) hx hb dX2_faultIn_22 (by decide) ?_
      refine lv_icmp_gt (tgt := 163) hx hb dX2_faultIn_24 (by decide) (fun c3 => ?_) (fun c3 => ?_)
      · --
        have i4 : Iv j20_6 77 77 := iv_lt2 c3 (⟨by decide, by decide⟩ : Iv 76 76 76) ij20_6 (by decide)
        refine lv_aload_n hx hb dX2_faultIn_163 rfl (lv_at hl 1 rfl) ?_
        refine o_ci hw (oRunV cx hA hw q_X7_fault k_m_X2_35 rfl ha1 (by decide) (As := []) (c_X7_fault a1 ha1) (by decide) rfl hl.1 rfl (Nat.le_of_ble_eq_true rfl) dX2_faultIn_164 (by decide)) (fun v6 σ5 H locs hp hw => ?_)
        have p6_0 := hp
        rw [p6_0] at hw
        rw [← hQ]
        exact o_ri cx rx hw dX2_faultIn_167 fr
      · --
        have i7 : Iv j20_6 0 76 := iv_le1 (iv_nlt c3) ij20_6 (⟨by decide, by decide⟩ : Iv 76 76 76) (by decide)
        refine lv_iload hx hb dX2_faultIn_27 (lv_at hl 4 rfl) ?_
        have J_54 : ∀ (k54_0 : Int32) (ik54_0 : Iv k54_0 0 1), ∀ (H : Heap) (locs : List Loc), oI A L τ cy D s.heap σ_20 H locs → ∀ (ls : Array Slot), lv_has ls 8 [(0, .ref a0), (1, .ref a1), (2, .int j20_2), (3, .int j20_3), (4, .int j20_4), (5, .int j20_5), (6, .int j20_6)] → W p l e ({ frames := 5, cells := 0, slots := 0, locals := 128 } : Room) s m args below meth c H locs 0 0 Q (F0 m 54 ls [.int k54_0]) := by
          intro k54_0 ik54_0 H locs hw     ls hl
          refine lv_istore (lv' := [(7, .int k54_0), (0, .ref a0), (1, .ref a1), (2, .int j20_2), (3, .int j20_3), (4, .int j20_4), (5, .int j20_5), (6, .int j20_6)]) hx hb dX2_faultIn_54 hl (by decide) rfl (fun ls hl => ?_)
          refine lv_iload hx hb dX2_faultIn_56 (lv_at hl 0 rfl) ?_
          have J_70 : ∀ (H : Heap) (locs : List Loc), oI A L τ cy D s.heap σ_20 H locs → ∀ (ls : Array Slot), lv_has ls 8 [(0, .ref a0), (1, .ref a1), (2, .int j20_2), (3, .int j20_3), (4, .int j20_4), (5, .int j20_5), (6, .int j20_6), (7, .int k54_0)] → W p l e ({ frames := 5, cells := 0, slots := 0, locals := 128 } : Room) s m args below meth c H locs 0 0 Q (F0 m 70 ls []) := by
            intro  H locs hw     ls hl
            refine lv_iload hx hb dX2_faultIn_70 (lv_at hl 7 rfl) ?_
            have frE_157 := fr
            have J_157 : ∀ (j157_2 : Int32) (ij157_2 : Iv j157_2 0 8) (j157_3 : Int32) (ij157_3 : Iv j157_3 0 8) (j157_4 : Int32) (ij157_4 : Iv j157_4 0 7) (j157_5 : Int32) (ij157_5 : Iv j157_5 0 6), ∀ (σ_157 : oSt) (H : Heap) (locs : List Loc), oI A L τ cy D s.heap σ_157 H locs → oFr τ fs_X2_faultIn ts_X2_faultIn σ σ_157 → ∀ (ls : Array Slot), lv_has ls 8 [(0, .ref a0), (1, .ref a1), (2, .int j157_2), (3, .int j157_3), (4, .int j157_4), (5, .int j157_5), (6, .int j20_6), (7, .int k54_0)] → W p l e ({ frames := 5, cells := 0, slots := 0, locals := 128 } : Room) s m args below meth c H locs 0 0 Q (F0 m 157 ls []) := by
              intro j157_2 ij157_2 j157_3 ij157_3 j157_4 ij157_4 j157_5 ij157_5 σ_157 H locs hw fr      ls hl
              have fr_157 := fr
              obtain ⟨v8, e8⟩ : ∃ y : Int32, y = j20_6 + 1 := ⟨_, rfl⟩
              have i8 : Iv v8 1 77 := iv_add e8 i7 (⟨by decide, by decide⟩ : Iv 1 1 1) (by decide)
              have x8 : v8.toInt = j20_6.toInt + 1 := ex_add e8 i7 (⟨by decide, by decide⟩ : Iv 1 1 1) (by decide)
              refine lv_iinc (v := v8) (lv' := [(6, .int v8), (0, .ref a0), (1, .ref a1), (2, .int j157_2), (3, .int j157_3), (4, .int j157_4), (5, .int j157_5), (7, .int k54_0)]) hx hb dX2_faultIn_157 hl (k := 6) rfl (by rw [e8]; rfl) (by decide) rfl (fun ls hl => ?_)
              refine lv_goto (tgt := 20) hx hb dX2_faultIn_160 (by decide) ?_
              exact ih_20 j157_2 ij157_2 j157_3 ij157_3 j157_4 ij157_4 j157_5 ij157_5 v8 (iv_w i8 (by decide)) σ_157 _ _ hw fr (ms_up x8 (by decide) (iv_w (a' := 0) (b' := 77) i8 (by decide)).2 hn_20) _ (lv_sub hl [1, 2, 3, 4, 5, 6, 0] rfl)
            have frE_101 := fr
            have J_101 : ∀ (σ_101 : oSt) (H : Heap) (locs : List Loc), oI A L τ cy D s.heap σ_101 H locs → oFr τ fs_X2_faultIn ts_X2_faultIn σ σ_101 → ∀ (ls : Array Slot), lv_has ls 8 [(0, .ref a0), (1, .ref a1), (2, .int j20_2), (3, .int j20_3), (4, .int j20_4), (5, .int j20_5), (6, .int j20_6), (7, .int k54_0)] → W p l e ({ frames := 5, cells := 0, slots := 0, locals := 128 } : Room) s m args below meth c H locs 0 0 Q (F0 m 101 ls []) := by
              intro  σ_101 H locs hw fr      ls hl
              have fr_101 := fr
              refine lv_iload_n hx hb dX2_faultIn_101 rfl (lv_at hl 3 rfl) ?_
              refine lv_iload_n hx hb dX2_faultIn_102 rfl (lv_at hl 2 rfl) ?_
              have frE_131 := fr
              have J_131 : ∀ (σ_131 : oSt) (H : Heap) (locs : List Loc), oI A L τ cy D s.heap σ_131 H locs → oFr τ fs_X2_faultIn ts_X2_faultIn σ σ_131 → ∀ (ls : Array Slot), lv_has ls 8 [(0, .ref a0), (1, .ref a1), (2, .int j20_2), (3, .int j20_3), (4, .int j20_4), (5, .int j20_5), (6, .int j20_6), (7, .int k54_0)] → W p l e ({ frames := 5, cells := 0, slots := 0, locals := 128 } : Room) s m args below meth c H locs 0 0 Q (F0 m 131 ls []) := by
                intro  σ_131 H locs hw fr      ls hl
                have fr_131 := fr
                refine lv_iload_n hx hb dX2_faultIn_131 rfl (lv_at hl 3 rfl) ?_
                refine lv_iload_n hx hb dX2_faultIn_132 rfl (lv_at hl 2 rfl) ?_
                have frE_152 := fr
                have J_152 : ∀ (σ_152 : oSt) (H : Heap) (locs : List Loc), oI A L τ cy D s.heap σ_152 H locs → oFr τ fs_X2_faultIn ts_X2_faultIn σ σ_152 → ∀ (ls : Array Slot), lv_has ls 8 [(0, .ref a0), (1, .ref a1), (2, .int j20_2), (3, .int j20_3), (4, .int j20_4), (5, .int j20_5), (6, .int j20_6), (7, .int k54_0)] → W p l e ({ frames := 5, cells := 0, slots := 0, locals := 128 } : Room) s m args below meth c H locs 0 0 Q (F0 m 152 ls []) := by
                  intro  σ_152 H locs hw fr      ls hl
                  have fr_152 := fr
                  refine lv_aload_n hx hb dX2_faultIn_152 rfl (lv_at hl 1 rfl) ?_
                  refine o_ci hw (oRunV cx hA hw q_X7_fault k_m_X2_35 rfl ha1 (by decide) (As := []) (c_X7_fault a1 ha1) (by decide) rfl hl.1 rfl (Nat.le_of_ble_eq_true rfl) dX2_faultIn_153 (by decide)) (fun v10 σ9 H locs hp hw => ?_)
                  have p10_0 := hp
                  rw [p10_0] at hw
                  rw [← hQ]
                  exact o_ri cx rx hw dX2_faultIn_156 fr
                refine lv_icmp_ge (tgt := 152) hx hb dX2_faultIn_133 (by decide) (fun c11 => ?_) (fun c11 => ?_)
                · --
                  exact J_152 σ_131 _ _ hw fr _ (lv_sub hl [0, 1, 2, 3, 4, 5, 6, 7] rfl)
                · --
                  have i12 : Iv j20_3 0 7 := iv_lt1 (iv_nle c11) ij20_3 ij20_2 (by decide)
                  have i13 : Iv j20_2 1 8 := iv_lt2 (iv_nle c11) ij20_3 ij20_2 (by decide)
                  refine lv_aload_n hx hb dX2_faultIn_136 rfl (lv_at hl 1 rfl) ?_
                  refine va_ldcS hx hb hown cx.2.2.2.1.2.2.1 dX2_faultIn_137 ?_
                  refine o_ci hw (oRunV cx hA hw q_X7_takeOneOf k_m_X2_31 rfl ha1 (by decide) (As := [.ref (K.1 2)]) (c_X7_takeOneOf_2 a1 ha1) (by decide) rfl hl.1 rfl (Nat.le_of_ble_eq_true rfl) dX2_faultIn_139 (by decide)) (fun v15 σ14 H locs hp hw => ?_)
                  obtain ⟨p15_0, p15_1⟩ := hp
                  have fr := oFr_tr fr p15_0 (by decide)
                  refine lv_iconst (v := (-1)) hx hb dX2_faultIn_142 (by decide) ?_
                  refine lv_icmp_eq (tgt := 152) hx hb dX2_faultIn_143 (by decide) (fun c16 => ?_) (fun c16 => ?_)
                  · --
                    have i17 : Iv v15 (-1) (-1) := iv_eq1 c16 p15_1 (⟨by decide, by decide⟩ : Iv (-1) (-1) (-1)) (by decide)
                    exact J_152 σ14 _ _ hw fr _ (lv_sub hl [0, 1, 2, 3, 4, 5, 6, 7] rfl)
                  · --
                    have i18 : Iv v15 0 2147483647 := iv_ne1 c16 p15_1 (⟨by decide, by decide⟩ : Iv (-1) (-1) (-1)) (by decide)
                    obtain ⟨v19, e19⟩ : ∃ y : Int32, y = j20_3 + 1 := ⟨_, rfl⟩
                    have i19 : Iv v19 1 8 := iv_add e19 i12 (⟨by decide, by decide⟩ : Iv 1 1 1) (by decide)
                    have x19 : v19.toInt = j20_3.toInt + 1 := ex_add e19 i12 (⟨by decide, by decide⟩ : Iv 1 1 1) (by decide)
                    refine lv_iinc (v := v19) (lv' := [(3, .int v19), (0, .ref a0), (1, .ref a1), (2, .int j20_2), (4, .int j20_4), (5, .int j20_5), (6, .int j20_6), (7, .int k54_0)]) hx hb dX2_faultIn_146 hl (k := 3) rfl (by rw [e19]; rfl) (by decide) rfl (fun ls hl => ?_)
                    refine lv_goto (tgt := 157) hx hb dX2_faultIn_149 (by decide) ?_
                    exact J_157 j20_2 (iv_w i13 (by decide)) v19 (iv_w i19 (by decide)) j20_4 ij20_4 j20_5 ij20_5 σ14 _ _ hw fr _ (lv_sub hl [1, 2, 3, 0, 4, 5, 6, 7] rfl)
              refine lv_icmp_ge (tgt := 131) hx hb dX2_faultIn_103 (by decide) (fun c20 => ?_) (fun c20 => ?_)
              · --
                exact J_131 σ_101 _ _ hw fr _ (lv_sub hl [0, 1, 2, 3, 4, 5, 6, 7] rfl)
              · --
                have i21 : Iv j20_3 0 7 := iv_lt1 (iv_nle c20) ij20_3 ij20_2 (by decide)
                have i22 : Iv j20_2 1 8 := iv_lt2 (iv_nle c20) ij20_3 ij20_2 (by decide)
                refine lv_iload hx hb dX2_faultIn_106 (lv_at hl 5 rfl) ?_
                refine lv_bipush (v := 6) hx hb dX2_faultIn_108 (by decide) ?_
                refine lv_icmp_ge (tgt := 131) hx hb dX2_faultIn_110 (by decide) (fun c23 => ?_) (fun c23 => ?_)
                · --
                  have i24 : Iv j20_5 6 6 := iv_le2 c23 (⟨by decide, by decide⟩ : Iv 6 6 6) ij20_5 (by decide)
                  exact J_131 σ_101 _ _ hw fr _ (lv_sub hl [0, 1, 2, 3, 4, 5, 6, 7] rfl)
                · --
                  have i25 : Iv j20_5 0 5 := iv_lt1 (iv_nle c23) ij20_5 (⟨by decide, by decide⟩ : Iv 6 6 6) (by decide)
                  refine lv_aload_n hx hb dX2_faultIn_113 rfl (lv_at hl 1 rfl) ?_
                  refine lv_bipush (v := 43) hx hb dX2_faultIn_114 (by decide) ?_
                  refine o_ci hw (oRunV cx hA hw q_X7_take k_m_X2_25 rfl ha1 (by decide) (As := [.int 43]) (c_X7_take a1 ha1 43 (iv_w (⟨by decide, by decide⟩ : Iv 43 43 43) (by decide))) (by decide) rfl hl.1 rfl (Nat.le_of_ble_eq_true rfl) dX2_faultIn_116 (by decide)) (fun v27 σ26 H locs hp hw => ?_)
                  obtain ⟨p27_0, p27_1⟩ := hp
                  have fr := oFr_tr fr p27_0 (by decide)
                  refine lv_if_eq (tgt := 131) hx hb dX2_faultIn_119 (by decide) (fun c28 => ?_) (fun c28 => ?_)
                  · --
                    have i29 : Iv v27 0 0 := iv_eq1 c28 p27_1 (⟨by decide, by decide⟩ : Iv 0 0 0) (by decide)
                    exact J_131 σ26 _ _ hw fr _ (lv_sub hl [0, 1, 2, 3, 4, 5, 6, 7] rfl)
                  · --
                    have i30 : Iv v27 1 1 := iv_ne1 c28 p27_1 (⟨by decide, by decide⟩ : Iv 0 0 0) (by decide)
                    obtain ⟨v31, e31⟩ : ∃ y : Int32, y = j20_5 + 1 := ⟨_, rfl⟩
                    have i31 : Iv v31 1 6 := iv_add e31 i25 (⟨by decide, by decide⟩ : Iv 1 1 1) (by decide)
                    have x31 : v31.toInt = j20_5.toInt + 1 := ex_add e31 i25 (⟨by decide, by decide⟩ : Iv 1 1 1) (by decide)
                    refine lv_iinc (v := v31) (lv' := [(5, .int v31), (0, .ref a0), (1, .ref a1), (2, .int j20_2), (3, .int j20_3), (4, .int j20_4), (6, .int j20_6), (7, .int k54_0)]) hx hb dX2_faultIn_122 hl (k := 5) rfl (by rw [e31]; rfl) (by decide) rfl (fun ls hl => ?_)
                    obtain ⟨v32, e32⟩ : ∃ y : Int32, y = j20_3 + 1 := ⟨_, rfl⟩
                    have i32 : Iv v32 1 8 := iv_add e32 i21 (⟨by decide, by decide⟩ : Iv 1 1 1) (by decide)
                    have x32 : v32.toInt = j20_3.toInt + 1 := ex_add e32 i21 (⟨by decide, by decide⟩ : Iv 1 1 1) (by decide)
                    refine lv_iinc (v := v32) (lv' := [(3, .int v32), (5, .int v31), (0, .ref a0), (1, .ref a1), (2, .int j20_2), (4, .int j20_4), (6, .int j20_6), (7, .int k54_0)]) hx hb dX2_faultIn_125 hl (k := 4) rfl (by rw [e32]; rfl) (by decide) rfl (fun ls hl => ?_)
                    refine lv_goto (tgt := 157) hx hb dX2_faultIn_128 (by decide) ?_
                    exact J_157 j20_2 (iv_w i22 (by decide)) v32 (iv_w i32 (by decide)) j20_4 ij20_4 v31 (iv_w i31 (by decide)) σ26 _ _ hw fr _ (lv_sub hl [2, 3, 4, 0, 5, 1, 6, 7] rfl)
            refine lv_if_eq (tgt := 101) hx hb dX2_faultIn_72 (by decide) (fun c33 => ?_) (fun c33 => ?_)
            · --
              have i34 : Iv k54_0 0 0 := iv_eq1 c33 ik54_0 (⟨by decide, by decide⟩ : Iv 0 0 0) (by decide)
              exact J_101 σ_20 _ _ hw fr _ (lv_sub hl [0, 1, 2, 3, 4, 5, 6, 7] rfl)
            · --
              have i35 : Iv k54_0 1 1 := iv_ne1 c33 ik54_0 (⟨by decide, by decide⟩ : Iv 0 0 0) (by decide)
              refine lv_iload hx hb dX2_faultIn_75 (lv_at hl 4 rfl) ?_
              refine lv_bipush (v := 7) hx hb dX2_faultIn_77 (by decide) ?_
              refine lv_icmp_ge (tgt := 101) hx hb dX2_faultIn_79 (by decide) (fun c36 => ?_) (fun c36 => ?_)
              · --
                have i37 : Iv j20_4 7 7 := iv_le2 c36 (⟨by decide, by decide⟩ : Iv 7 7 7) ij20_4 (by decide)
                exact J_101 σ_20 _ _ hw fr _ (lv_sub hl [0, 1, 2, 3, 4, 5, 6, 7] rfl)
              · --
                have i38 : Iv j20_4 0 6 := iv_lt1 (iv_nle c36) ij20_4 (⟨by decide, by decide⟩ : Iv 7 7 7) (by decide)
                refine lv_aload_n hx hb dX2_faultIn_82 rfl (lv_at hl 1 rfl) ?_
                refine lv_bipush (v := 47) hx hb dX2_faultIn_83 (by decide) ?_
                refine o_ci hw (oRunV cx hA hw q_X7_take k_m_X2_25 rfl ha1 (by decide) (As := [.int 47]) (c_X7_take a1 ha1 47 (iv_w (⟨by decide, by decide⟩ : Iv 47 47 47) (by decide))) (by decide) rfl hl.1 rfl (Nat.le_of_ble_eq_true rfl) dX2_faultIn_85 (by decide)) (fun v40 σ39 H locs hp hw => ?_)
                obtain ⟨p40_0, p40_1⟩ := hp
                have fr := oFr_tr fr p40_0 (by decide)
                refine lv_if_eq (tgt := 101) hx hb dX2_faultIn_88 (by decide) (fun c41 => ?_) (fun c41 => ?_)
                · --
                  have i42 : Iv v40 0 0 := iv_eq1 c41 p40_1 (⟨by decide, by decide⟩ : Iv 0 0 0) (by decide)
                  exact J_101 σ39 _ _ hw fr _ (lv_sub hl [0, 1, 2, 3, 4, 5, 6, 7] rfl)
                · --
                  have i43 : Iv v40 1 1 := iv_ne1 c41 p40_1 (⟨by decide, by decide⟩ : Iv 0 0 0) (by decide)
                  refine lv_iload_n hx hb dX2_faultIn_91 rfl (lv_at hl 3 rfl) ?_
                  refine lv_istore_n (lv' := [(2, .int j20_3), (0, .ref a0), (1, .ref a1), (3, .int j20_3), (4, .int j20_4), (5, .int j20_5), (6, .int j20_6), (7, .int k54_0)]) hx hb dX2_faultIn_92 rfl hl (by decide) rfl (fun ls hl => ?_)
                  refine lv_iconst (v := 0) hx hb dX2_faultIn_93 (by decide) ?_
                  refine lv_istore_n (lv' := [(3, .int 0), (2, .int j20_3), (0, .ref a0), (1, .ref a1), (4, .int j20_4), (5, .int j20_5), (6, .int j20_6), (7, .int k54_0)]) hx hb dX2_faultIn_94 rfl hl (by decide) rfl (fun ls hl => ?_)
                  obtain ⟨v44, e44⟩ : ∃ y : Int32, y = j20_4 + 1 := ⟨_, rfl⟩
                  have i44 : Iv v44 1 7 := iv_add e44 i38 (⟨by decide, by decide⟩ : Iv 1 1 1) (by decide)
                  have x44 : v44.toInt = j20_4.toInt + 1 := ex_add e44 i38 (⟨by decide, by decide⟩ : Iv 1 1 1) (by decide)
                  refine lv_iinc (v := v44) (lv' := [(4, .int v44), (3, .int 0), (2, .int j20_3), (0, .ref a0), (1, .ref a1), (5, .int j20_5), (6, .int j20_6), (7, .int k54_0)]) hx hb dX2_faultIn_95 hl (k := 4) rfl (by rw [e44]; rfl) (by decide) rfl (fun ls hl => ?_)
                  refine lv_goto (tgt := 157) hx hb dX2_faultIn_98 (by decide) ?_
                  exact J_157 j20_3 ij20_3 0 (iv_w (⟨by decide, by decide⟩ : Iv 0 0 0) (by decide)) v44 (iv_w i44 (by decide)) j20_5 ij20_5 σ39 _ _ hw fr _ (lv_sub hl [3, 4, 2, 1, 0, 5, 6, 7] rfl)
          refine lv_if_eq (tgt := 70) hx hb dX2_faultIn_58 (by decide) (fun c45 => ?_) (fun c45 => ?_)
          · --
            have i46 : Iv k54_0 0 0 := iv_eq1 c45 ik54_0 (⟨by decide, by decide⟩ : Iv 0 0 0) (by decide)
            exact J_70 _ _ hw _ (lv_sub hl [1, 2, 3, 4, 5, 6, 7, 0] rfl)
          · --
            have i47 : Iv k54_0 1 1 := iv_ne1 c45 ik54_0 (⟨by decide, by decide⟩ : Iv 0 0 0) (by decide)
            refine lv_aload_n hx hb dX2_faultIn_61 rfl (lv_at hl 2 rfl) ?_
            refine o_ci hw (oRunV cx hA hw q_X7_isAtEnd k_m_X2_21 rfl ha1 (by decide) (As := []) (c_X7_isAtEnd a1 ha1) (by decide) rfl hl.1 rfl (Nat.le_of_ble_eq_true rfl) dX2_faultIn_62 (by decide)) (fun v49 σ48 H locs hp hw => ?_)
            obtain ⟨p49_0, p49_1⟩ := hp
            rw [p49_0] at hw
            refine lv_if_eq (tgt := 70) hx hb dX2_faultIn_65 (by decide) (fun c50 => ?_) (fun c50 => ?_)
            · --
              have i51 : Iv v49 0 0 := iv_eq1 c50 p49_1 (⟨by decide, by decide⟩ : Iv 0 0 0) (by decide)
              exact J_70 _ _ hw _ (lv_sub hl [1, 2, 3, 4, 5, 6, 7, 0] rfl)
            · --
              have i52 : Iv v49 1 1 := iv_ne1 c50 p49_1 (⟨by decide, by decide⟩ : Iv 0 0 0) (by decide)
              refine lv_iconst (v := 0) hx hb dX2_faultIn_68 (by decide) ?_
              rw [← hQ]
              exact o_ri cx rx hw dX2_faultIn_69 fr
        refine lv_if_ne (tgt := 44) hx hb dX2_faultIn_29 (by decide) (fun c53 => ?_) (fun c53 => ?_)
        · --
          have i54 : Iv j20_4 1 7 := iv_ne1 c53 ij20_4 (⟨by decide, by decide⟩ : Iv 0 0 0) (by decide)
          refine lv_iload_n hx hb dX2_faultIn_44 rfl (lv_at hl 3 rfl) ?_
          refine lv_iload_n hx hb dX2_faultIn_45 rfl (lv_at hl 2 rfl) ?_
          refine lv_icmp_ne (tgt := 53) hx hb dX2_faultIn_46 (by decide) (fun c55 => ?_) (fun c55 => ?_)
          · --
            refine lv_iconst (v := 0) hx hb dX2_faultIn_53 (by decide) ?_
            exact J_54 0 (iv_w (⟨by decide, by decide⟩ : Iv 0 0 0) (by decide)) _ _ hw _ (lv_sub hl [0, 1, 2, 3, 4, 5, 6] rfl)
          · --
            refine lv_iconst (v := 1) hx hb dX2_faultIn_49 (by decide) ?_
            refine lv_goto (tgt := 54) hx hb dX2_faultIn_50 (by decide) ?_
            exact J_54 1 (iv_w (⟨by decide, by decide⟩ : Iv 1 1 1) (by decide)) _ _ hw _ (lv_sub hl [0, 1, 2, 3, 4, 5, 6] rfl)
        · --
          have i56 : Iv j20_4 0 0 := iv_eq1 c53 ij20_4 (⟨by decide, by decide⟩ : Iv 0 0 0) (by decide)
          refine lv_iload_n hx hb dX2_faultIn_32 rfl (lv_at hl 3 rfl) ?_
          refine lv_if_le (tgt := 40) hx hb dX2_faultIn_33 (by decide) (fun c57 => ?_) (fun c57 => ?_)
          · --
            have i58 : Iv j20_3 0 0 := iv_le1 c57 ij20_3 (⟨by decide, by decide⟩ : Iv 0 0 0) (by decide)
            refine lv_iconst (v := 0) hx hb dX2_faultIn_40 (by decide) ?_
            refine lv_goto (tgt := 54) hx hb dX2_faultIn_41 (by decide) ?_
            exact J_54 0 (iv_w (⟨by decide, by decide⟩ : Iv 0 0 0) (by decide)) _ _ hw _ (lv_sub hl [0, 1, 2, 3, 4, 5, 6] rfl)
          · --
            have i59 : Iv j20_3 1 8 := iv_lt2 (iv_nle c57) (⟨by decide, by decide⟩ : Iv 0 0 0) ij20_3 (by decide)
            refine lv_iconst (v := 1) hx hb dX2_faultIn_36 (by decide) ?_
            refine lv_goto (tgt := 54) hx hb dX2_faultIn_37 (by decide) ?_
            exact J_54 1 (iv_w (⟨by decide, by decide⟩ : Iv 1 1 1) (by decide)) _ _ hw _ (lv_sub hl [0, 1, 2, 3, 4, 5, 6] rfl)
  exact J_20 _ 8 (iv_w (⟨by decide, by decide⟩ : Iv 8 8 8) (by decide)) 0 (iv_w (⟨by decide, by decide⟩ : Iv 0 0 0) (by decide)) 0 (iv_w (⟨by decide, by decide⟩ : Iv 0 0 0) (by decide)) 0 (iv_w (⟨by decide, by decide⟩ : Iv 0 0 0) (by decide)) 0 (iv_w (⟨by decide, by decide⟩ : Iv 0 0 0) (by decide)) σ1 _ _ hw fr (Nat.lt_succ_self _) _ (lv_sub hl [5, 6, 4, 3, 2, 1, 0] rfl)
abbrev fs_J7_fill_53178 : List Nat := []
abbrev ts_J7_fill_53178 : List Nat := [32]
set_option maxHeartbeats 4000000 in
set_option maxRecDepth 100000 in
theorem c_J7_fill_53178 (a0 : Nat) (ha0 : oA L τ a0 32) (a1 : Int32) : oMet l A L τ cy D K yJ7_fill_53178 cJ7_fill_53178 4 none 0 0 [.ref a0, .int a1] σ (va_Qv (fun σ1 => oFr τ fs_J7_fill_53178 ts_J7_fill_53178 σ σ1) (oPo A L τ cy D) A) := by
  refine oMk (by decide) (Nat.le_of_ble_eq_true rfl) rfl ?_
  intro p e s m args below meth c ls cx rx hA hw hl
  generalize hQ : MQ below _ args s 0 0 A = Q
  have hx := cx.1.1
  have hb := cx.1.2.1
  have hml := cx.1.2.2.1
  have hown := cx.1.2.2.2.1
  have hts := cx.1.2.2.2.2
  have hl : lv_has ls 4 [(0, .ref a0), (1, .int a1)] := hl
  have fr : oFr τ fs_J7_fill_53178 ts_J7_fill_53178 σ σ := oFr_rf
  refine lv_iconst (v := 0) hx hb dJ7_fill_53178_0 (by decide) ?_
  refine lv_istore_n (lv' := [(2, .int 0), (0, .ref a0), (1, .int a1)]) hx hb dJ7_fill_53178_1 rfl hl (by decide) rfl (fun ls hl => ?_)
  refine lv_aload_n hx hb dJ7_fill_53178_2 rfl (lv_at hl 1 rfl) ?_
  refine o_alen (v := 64) cx hw ha0 (by decide) rfl (by decide) dJ7_fill_53178_3 ?_
  refine lv_istore_n (lv' := [(3, .int 64), (2, .int 0), (0, .ref a0), (1, .int a1)]) hx hb dJ7_fill_53178_4 rfl hl (by decide) rfl (fun ls hl => ?_)
  have frE_5 := fr
  have J_5 : ∀ n5 : Nat, ∀ (j5_2 : Int32) (ij5_2 : Iv j5_2 0 2147483647), ∀ (σ_5 : oSt) (H : Heap) (locs : List Loc), oI A L τ cy D s.heap σ_5 H locs → oFr τ fs_J7_fill_53178 ts_J7_fill_53178 σ σ_5 → (2147483647 - j5_2.toInt).toNat < n5 → ∀ (ls : Array Slot), lv_has ls 4 [(0, .ref a0), (1, .int a1), (2, .int j5_2), (3, .int 64)] → W p l e ({ frames := 0, cells := 0, slots := 0, locals := 0 } : Room) s m args below meth c H locs 0 0 Q (F0 m 5 ls []) := by
    intro n5
    induction n5 with
    | zero => intro j5_2 ij5_2 σ_5 H locs hw fr   hn_5   ls hl; exact absurd hn_5 (Nat.not_lt_zero _)
    | succ n5 ih_5 =>
      intro j5_2 ij5_2 σ_5 H locs hw fr   hn_5   ls hl
      have fr_5 := fr
      refine lv_iload_n hx hb dJ7_fill_53178_5 rfl (lv_at hl 2 rfl) ?_
      refine lv_iload_n hx hb dJ7_fill_53178_6 rfl (lv_at hl 3 rfl) ?_
      refine lv_icmp_ge (tgt := 20) hx hb dJ7_fill_53178_7 (by decide) (fun c1 => ?_) (fun c1 => ?_)
      · --
        have i2 : Iv j5_2 64 2147483647 := iv_le2 c1 (⟨by decide, by decide⟩ : Iv 64 64 64) ij5_2 (by decide)
        rw [← hQ]
        exact o_rv cx rx hw dJ7_fill_53178_20 fr
      · --
        have i3 : Iv j5_2 0 63 := iv_lt1 (iv_nle c1) ij5_2 (⟨by decide, by decide⟩ : Iv 64 64 64) (by decide)
        refine lv_aload_n hx hb dJ7_fill_53178_10 rfl (lv_at hl 0 rfl) ?_
        refine lv_iload_n hx hb dJ7_fill_53178_11 rfl (lv_at hl 2 rfl) ?_
        refine lv_iload_n hx hb dJ7_fill_53178_12 rfl (lv_at hl 1 rfl) ?_
        refine o_iast cx hw ha0 (by decide) rfl (iv_in i3 (by decide)) trivial dJ7_fill_53178_13 (fun σ4 H locs eσ4 hw => ?_)
        have fr := oFr_p fr eσ4 ha0 (by decide)
        obtain ⟨v5, e5⟩ : ∃ y : Int32, y = j5_2 + 1 := ⟨_, rfl⟩
        have i5 : Iv v5 1 64 := iv_add e5 i3 (⟨by decide, by decide⟩ : Iv 1 1 1) (by decide)
        have x5 : v5.toInt = j5_2.toInt + 1 := ex_add e5 i3 (⟨by decide, by decide⟩ : Iv 1 1 1) (by decide)
        refine lv_iinc (v := v5) (lv' := [(2, .int v5), (0, .ref a0), (1, .int a1), (3, .int 64)]) hx hb dJ7_fill_53178_14 hl (k := 2) rfl (by rw [e5]; rfl) (by decide) rfl (fun ls hl => ?_)
        refine lv_goto (tgt := 5) hx hb dJ7_fill_53178_17 (by decide) ?_
        exact ih_5 v5 (iv_w i5 (by decide)) σ4 _ _ hw fr (ms_up x5 (by decide) (iv_w (a' := 0) (b' := 2147483647) i5 (by decide)).2 hn_5) _ (lv_sub hl [1, 2, 0, 3] rfl)
  exact J_5 _ 0 (iv_w (⟨by decide, by decide⟩ : Iv 0 0 0) (by decide)) σ _ _ hw fr (Nat.lt_succ_self _) _ (lv_sub hl [2, 3, 1, 0] rfl)
abbrev fs_X6_clear : List Nat := [327, 328, 329, 330, 331]
abbrev ts_X6_clear : List Nat := [32]
set_option maxHeartbeats 4000000 in
set_option maxRecDepth 100000 in
theorem c_X6_clear (a0 : Nat) (ha0 : oA L τ a0 5) : oMet l A L τ cy D K yX6_clear cX6_clear 1 none 1 23 [.ref a0] σ (va_Qv (fun σ1 => oFr τ fs_X6_clear ts_X6_clear σ σ1) (oPo A L τ cy D) A) := by
  refine oMk (by decide) (Nat.le_of_ble_eq_true rfl) rfl ?_
  intro p e s m args below meth c ls cx rx hA hw hl
  generalize hQ : MQ below _ args s 0 0 A = Q
  have hx := cx.1.1
  have hb := cx.1.2.1
  have hml := cx.1.2.2.1
  have hown := cx.1.2.2.2.1
  have hts := cx.1.2.2.2.2
  have hl : lv_has ls 1 [(0, .ref a0)] := hl
  have fr : oFr τ fs_X6_clear ts_X6_clear σ σ := oFr_rf
  refine lv_aload_n hx hb dX6_clear_0 rfl (lv_at hl 0 rfl) ?_
  refine g_320 cx hw ha0 k_f_X6_9 dX6_clear_1 (fun v1 e1 h1 => ?_)
  refine lv_iconst (v := 0) hx hb dX6_clear_4 (by decide) ?_
  refine o_cv hw (oRunS cx hA hw q_J7_fill_53178 k_m_X6_33 (As := [.ref v1, .int 0]) (c_J7_fill_53178 v1 h1 0) (by decide) rfl hl.1 rfl (Nat.le_of_ble_eq_true rfl) dX6_clear_5 (by decide)) (fun σ2 H locs hp hw => ?_)
  have p3_0 := hp
  have fr := oFr_tr fr p3_0 (by decide)
  refine lv_aload_n hx hb dX6_clear_8 rfl (lv_at hl 0 rfl) ?_
  refine g_321 cx hw ha0 k_f_X6_15 dX6_clear_9 (fun v4 e4 h4 => ?_)
  refine lv_iconst (v := 0) hx hb dX6_clear_12 (by decide) ?_
  refine o_cv hw (oRunS cx hA hw q_J7_fill_53178 k_m_X6_33 (As := [.ref v4, .int 0]) (c_J7_fill_53178 v4 h4 0) (by decide) rfl hl.1 rfl (Nat.le_of_ble_eq_true rfl) dX6_clear_13 (by decide)) (fun σ5 H locs hp hw => ?_)
  have p6_0 := hp
  have fr := oFr_tr fr p6_0 (by decide)
  refine lv_aload_n hx hb dX6_clear_16 rfl (lv_at hl 0 rfl) ?_
  refine g_322 cx hw ha0 k_f_X6_18 dX6_clear_17 (fun v7 e7 h7 => ?_)
  refine lv_iconst (v := 0) hx hb dX6_clear_20 (by decide) ?_
  refine o_cv hw (oRunS cx hA hw q_J7_fill_53178 k_m_X6_33 (As := [.ref v7, .int 0]) (c_J7_fill_53178 v7 h7 0) (by decide) rfl hl.1 rfl (Nat.le_of_ble_eq_true rfl) dX6_clear_21 (by decide)) (fun σ8 H locs hp hw => ?_)
  have p9_0 := hp
  have fr := oFr_tr fr p9_0 (by decide)
  refine lv_aload_n hx hb dX6_clear_24 rfl (lv_at hl 0 rfl) ?_
  refine g_323 cx hw ha0 k_f_X6_21 dX6_clear_25 (fun v10 e10 h10 => ?_)
  refine lv_iconst (v := (-1)) hx hb dX6_clear_28 (by decide) ?_
  refine o_cv hw (oRunS cx hA hw q_J7_fill_53178 k_m_X6_33 (As := [.ref v10, .int (-1)]) (c_J7_fill_53178 v10 h10 (-1)) (by decide) rfl hl.1 rfl (Nat.le_of_ble_eq_true rfl) dX6_clear_29 (by decide)) (fun σ11 H locs hp hw => ?_)
  have p12_0 := hp
  have fr := oFr_tr fr p12_0 (by decide)
  refine lv_aload_n hx hb dX6_clear_32 rfl (lv_at hl 0 rfl) ?_
  refine g_324 cx hw ha0 k_f_X6_24 dX6_clear_33 (fun v13 e13 h13 => ?_)
  refine lv_iconst (v := (-1)) hx hb dX6_clear_36 (by decide) ?_
  refine o_cv hw (oRunS cx hA hw q_J7_fill_53178 k_m_X6_33 (As := [.ref v13, .int (-1)]) (c_J7_fill_53178 v13 h13 (-1)) (by decide) rfl hl.1 rfl (Nat.le_of_ble_eq_true rfl) dX6_clear_37 (by decide)) (fun σ14 H locs hp hw => ?_)
  have p15_0 := hp
  have fr := oFr_tr fr p15_0 (by decide)
  refine lv_aload_n hx hb dX6_clear_40 rfl (lv_at hl 0 rfl) ?_
  refine lv_iconst (v := 0) hx hb dX6_clear_41 (by decide) ?_
  refine p_327 cx hw ha0 (iv_w (⟨by decide, by decide⟩ : Iv 0 0 0) (by decide)) k_f_X6_39 dX6_clear_42 (fun σ16 H locs eσ16 hw => ?_)
  have fr := oFr_i fr eσ16 (by decide)
  refine lv_aload_n hx hb dX6_clear_45 rfl (lv_at hl 0 rfl) ?_
  refine lv_iconst (v := 0) hx hb dX6_clear_46 (by decide) ?_
  refine p_328 cx hw ha0 k_f_X6_43 dX6_clear_47 (fun σ17 H locs eσ17 hw => ?_)
  have fr := oFr_i fr eσ17 (by decide)
  refine lv_aload_n hx hb dX6_clear_50 rfl (lv_at hl 0 rfl) ?_
  refine lv_iconst (v := 0) hx hb dX6_clear_51 (by decide) ?_
  refine p_329 cx hw ha0 k_f_X6_46 dX6_clear_52 (fun σ18 H locs eσ18 hw => ?_)
  have fr := oFr_i fr eσ18 (by decide)
  refine lv_aload_n hx hb dX6_clear_55 rfl (lv_at hl 0 rfl) ?_
  refine lv_iconst (v := 0) hx hb dX6_clear_56 (by decide) ?_
  refine p_330 cx hw ha0 k_f_X6_49 dX6_clear_57 (fun σ19 H locs eσ19 hw => ?_)
  have fr := oFr_i fr eσ19 (by decide)
  refine lv_aload_n hx hb dX6_clear_60 rfl (lv_at hl 0 rfl) ?_
  refine lv_iconst (v := 0) hx hb dX6_clear_61 (by decide) ?_
  refine p_331 cx hw ha0 k_f_X6_52 dX6_clear_62 (fun σ20 H locs eσ20 hw => ?_)
  have fr := oFr_i fr eσ20 (by decide)
  rw [← hQ]
  exact o_rv cx rx hw dX6_clear_65 fr
set_option maxHeartbeats 4000000 in
set_option maxRecDepth 100000 in
theorem c_X0_bit (a0 : Int32) : oMet l A L τ cy D K yX0_bit cX0_bit 1 (some .long) 0 0 [.int a0] σ (va_Ql (fun r σ1 => σ1 = σ) (oPo A L τ cy D) A) := by
  refine oMk (by decide) (Nat.le_of_ble_eq_true rfl) rfl ?_
  intro p e s m args below meth c ls cx rx hA hw hl
  generalize hQ : MQ below _ args s 0 0 A = Q
  have hx := cx.1.1
  have hb := cx.1.2.1
  have hml := cx.1.2.2.1
  have hown := cx.1.2.2.2.1
  have hts := cx.1.2.2.2.2
  have hl : lv_has ls 1 [(0, .int a0)] := hl
  refine lv_lconst (v := 1) hx hb dX0_bit_0 (by decide) ?_
  refine lv_iload_n hx hb dX0_bit_1 rfl (lv_at hl 0 rfl) ?_
  refine lv_lshl hx hb dX0_bit_2 rfl ?_
  refine lv_topl (fun v1 e1 => ?_)
  rw [← hQ]
  exact o_rl cx rx hw dX0_bit_3 rfl
abbrev fs_X7_takeFrom : List Nat := [386]
abbrev ts_X7_takeFrom : List Nat := []
set_option maxHeartbeats 4000000 in
set_option maxRecDepth 100000 in
theorem c_X7_takeFrom (a0 : Nat) (ha0 : oA L τ a0 6) (a1 : Int32) (ia1 : Iv a1 0 65535) (a2 : Int32) (a3 : Int32) : oMet l A L τ cy D K yX7_takeFrom cX7_takeFrom 5 (some .int) 1 20 [.ref a0, .int a1, .int a2, .int a3] σ (va_Qi (fun r σ1 => oFr τ fs_X7_takeFrom ts_X7_takeFrom σ σ1) (oPo A L τ cy D) A) := by
  refine oMk (by decide) (Nat.le_of_ble_eq_true rfl) rfl ?_
  intro p e s m args below meth c ls cx rx hA hw hl
  generalize hQ : MQ below _ args s 0 0 A = Q
  have hx := cx.1.1
  have hb := cx.1.2.1
  have hml := cx.1.2.2.1
  have hown := cx.1.2.2.2.1
  have hts := cx.1.2.2.2.2
  have hl : lv_has ls 5 [(0, .ref a0), (1, .int a1), (2, .int a2), (3, .int a3)] := hl
  have fr : oFr τ fs_X7_takeFrom ts_X7_takeFrom σ σ := oFr_rf
  refine lv_aload_n hx hb dX7_takeFrom_0 rfl (lv_at hl 0 rfl) ?_
  refine o_ci hw (oRunV cx hA hw q_X7_here k_m_X7_40 rfl ha0 (by decide) (As := []) (c_X7_here a0 ha0) (by decide) rfl hl.1 rfl (Nat.le_of_ble_eq_true rfl) dX7_takeFrom_1 (by decide)) (fun v2 σ1 H locs hp hw => ?_)
  have p2_0 := hp
  rw [p2_0] at hw
  refine lv_iload_n hx hb dX7_takeFrom_4 rfl (lv_at hl 1 rfl) ?_
  refine lv_isub hx hb dX7_takeFrom_5 ?_
  refine lv_topi (fun v3 e3 => ?_)
  refine lv_istore (lv' := [(4, .int v3), (0, .ref a0), (1, .int a1), (2, .int a2), (3, .int a3)]) hx hb dX7_takeFrom_6 hl (by decide) rfl (fun ls hl => ?_)
  refine lv_iload hx hb dX7_takeFrom_8 (lv_at hl 0 rfl) ?_
  refine lv_iload_n hx hb dX7_takeFrom_10 rfl (lv_at hl 3 rfl) ?_
  refine lv_icmp_lt (tgt := 20) hx hb dX7_takeFrom_11 (by decide) (fun c4 => ?_) (fun c4 => ?_)
  · --
    have i5 : Iv v3 (-2147483648) 2147483646 := iv_lt1 c4 (iv_top v3) (iv_top a2) (by decide)
    have i6 : Iv a2 (-2147483647) 2147483647 := iv_lt2 c4 (iv_top v3) (iv_top a2) (by decide)
    refine lv_iconst (v := (-1)) hx hb dX7_takeFrom_20 (by decide) ?_
    rw [← hQ]
    exact o_ri cx rx hw dX7_takeFrom_21 fr
  · --
    refine lv_iload hx hb dX7_takeFrom_14 (lv_at hl 0 rfl) ?_
    refine lv_iload_n hx hb dX7_takeFrom_16 rfl (lv_at hl 4 rfl) ?_
    refine lv_icmp_le (tgt := 22) hx hb dX7_takeFrom_17 (by decide) (fun c7 => ?_) (fun c7 => ?_)
    · --
      refine lv_aload_n hx hb dX7_takeFrom_22 rfl (lv_at hl 1 rfl) ?_
      refine o_cv hw (oRunV cx hA hw q_X7_step k_m_X7_43 rfl ha0 (by decide) (As := []) (c_X7_step a0 ha0) (by decide) rfl hl.1 rfl (Nat.le_of_ble_eq_true rfl) dX7_takeFrom_23 (by decide)) (fun σ8 H locs hp hw => ?_)
      have p9_0 := hp
      have fr := oFr_tr fr p9_0 (by decide)
      refine lv_iload hx hb dX7_takeFrom_26 (lv_at hl 0 rfl) ?_
      rw [← hQ]
      exact o_ri cx rx hw dX7_takeFrom_28 fr
    · --
      have i10 : Iv a3 (-2147483648) 2147483646 := iv_lt1 (iv_nle c7) (iv_top a3) (iv_top v3) (by decide)
      have i11 : Iv v3 (-2147483647) 2147483647 := iv_lt2 (iv_nle c7) (iv_top a3) (iv_top v3) (by decide)
      refine lv_iconst (v := (-1)) hx hb dX7_takeFrom_20 (by decide) ?_
      rw [← hQ]
      exact o_ri cx rx hw dX7_takeFrom_21 fr
abbrev fs_X7_digit : List Nat := [386]
abbrev ts_X7_digit : List Nat := []
set_option maxHeartbeats 4000000 in
set_option maxRecDepth 100000 in
theorem c_X7_digit (a0 : Nat) (ha0 : oA L τ a0 6) (a1 : Int32) (a2 : Int32) : oMet l A L τ cy D K yX7_digit cX7_digit 3 (some .int) 2 44 [.ref a0, .int a1, .int a2] σ (va_Qi (fun r σ1 => oFr τ fs_X7_digit ts_X7_digit σ σ1) (oPo A L τ cy D) A) := by
  refine oMk (by decide) (Nat.le_of_ble_eq_true rfl) rfl ?_
  intro p e s m args below meth c ls cx rx hA hw hl
  generalize hQ : MQ below _ args s 0 0 A = Q
  have hx := cx.1.1
  have hb := cx.1.2.1
  have hml := cx.1.2.2.1
  have hown := cx.1.2.2.2.1
  have hts := cx.1.2.2.2.2
  have hl : lv_has ls 3 [(0, .ref a0), (1, .int a1), (2, .int a2)] := hl
  have fr : oFr τ fs_X7_digit ts_X7_digit σ σ := oFr_rf
  refine lv_aload_n hx hb dX7_digit_0 rfl (lv_at hl 0 rfl) ?_
  refine lv_bipush (v := 48) hx hb dX7_digit_1 (by decide) ?_
  refine lv_iload_n hx hb dX7_digit_3 rfl (lv_at hl 1 rfl) ?_
  refine lv_iload_n hx hb dX7_digit_4 rfl (lv_at hl 2 rfl) ?_
  refine o_ci hw (oRunV cx hA hw q_X7_takeFrom k_m_X7_50 rfl ha0 (by decide) (As := [.int 48, .int a1, .int a2]) (c_X7_takeFrom a0 ha0 48 (iv_w (⟨by decide, by decide⟩ : Iv 48 48 48) (by decide)) a1 a2) (by decide) rfl hl.1 rfl (Nat.le_of_ble_eq_true rfl) dX7_digit_5 (by decide)) (fun v2 σ1 H locs hp hw => ?_)
  have p2_0 := hp
  have fr := oFr_tr fr p2_0 (by decide)
  rw [← hQ]
  exact o_ri cx rx hw dX7_digit_8 fr
abbrev fs_X2_layCell : List Nat := [66, 68, 69, 70, 386]
abbrev ts_X2_layCell : List Nat := [32, 34]
set_option maxHeartbeats 4000000 in
set_option maxRecDepth 100000 in
theorem c_X2_layCell (a0 : Nat) (ha0 : oA L τ a0 1) (a1 : Int32) (a2 : Nat) (ha2 : oA L τ a2 6) (a3 : Nat) (ha3 : oA L τ a3 5) : oMet l A L τ cy D K yX2_layCell cX2_layCell 4 none 3 66 [.ref a0, .int a1, .ref a2, .ref a3] σ (va_Qv (fun σ1 => oFr τ fs_X2_layCell ts_X2_layCell σ σ1) (oPo A L τ cy D) A) := by
  refine oMk (by decide) (Nat.le_of_ble_eq_true rfl) rfl ?_
  intro p e s m args below meth c ls cx rx hA hw hl
  generalize hQ : MQ below _ args s 0 0 A = Q
  have hx := cx.1.1
  have hb := cx.1.2.1
  have hml := cx.1.2.2.1
  have hown := cx.1.2.2.2.1
  have hts := cx.1.2.2.2.2
  have hl : lv_has ls 4 [(0, .ref a0), (1, .int a1), (2, .ref a2), (3, .ref a3)] := hl
  have fr : oFr τ fs_X2_layCell ts_X2_layCell σ σ := oFr_rf
  refine lv_iload_n hx hb dX2_layCell_0 rfl (lv_at hl 1 rfl) ?_
  refine lv_if_lt (tgt := 10) hx hb dX2_layCell_1 (by decide) (fun c1 => ?_) (fun c1 => ?_)
  · --
    have i2 : Iv a1 (-2147483648) (-1) := iv_lt1 c1 (iv_top a1) (⟨by decide, by decide⟩ : Iv 0 0 0) (by decide)
    rw [← hQ]
    exact o_rv cx rx hw dX2_layCell_10 fr
  · --
    have i3 : Iv a1 0 2147483647 := iv_le2 (iv_nlt c1) (⟨by decide, by decide⟩ : Iv 0 0 0) (iv_top a1) (by decide)
    refine lv_iload_n hx hb dX2_layCell_4 rfl (lv_at hl 1 rfl) ?_
    refine lv_bipush (v := 64) hx hb dX2_layCell_5 (by decide) ?_
    refine lv_icmp_lt (tgt := 11) hx hb dX2_layCell_7 (by decide) (fun c4 => ?_) (fun c4 => ?_)
    · --
      have i5 : Iv a1 0 63 := iv_lt1 c4 i3 (⟨by decide, by decide⟩ : Iv 64 64 64) (by decide)
      refine lv_aload_n hx hb dX2_layCell_11 rfl (lv_at hl 0 rfl) ?_
      refine lv_dup hx hb dX2_layCell_12 rfl ?_
      refine g_68 cx hw ha0 k_f_X2_44 dX2_layCell_13 (fun v6 e6 => ?_)
      refine lv_iload_n hx hb dX2_layCell_16 rfl (lv_at hl 1 rfl) ?_
      refine o_cl hw (oRunS cx hA hw q_X0_bit k_m_X2_74 (As := [.int a1]) (c_X0_bit a1) (by decide) rfl hl.1 rfl (Nat.le_of_ble_eq_true rfl) dX2_layCell_17 (by decide)) (fun v8 σ7 H locs hp hw => ?_)
      have p8_0 := hp
      rw [p8_0] at hw
      refine lv_lor hx hb dX2_layCell_20 ?_
      refine lv_topl (fun v9 e9 => ?_)
      refine p_68 cx hw ha0 k_f_X2_44 dX2_layCell_21 (fun σ10 H locs eσ10 hw => ?_)
      have fr := oFr_l fr eσ10 (by decide)
      refine lv_aload_n hx hb dX2_layCell_24 rfl (lv_at hl 2 rfl) ?_
      refine lv_bipush (v := 35) hx hb dX2_layCell_25 (by decide) ?_
      refine o_ci hw (oRunV cx hA hw q_X7_take k_m_X2_25 rfl ha2 (by decide) (As := [.int 35]) (c_X7_take a2 ha2 35 (iv_w (⟨by decide, by decide⟩ : Iv 35 35 35) (by decide))) (by decide) rfl hl.1 rfl (Nat.le_of_ble_eq_true rfl) dX2_layCell_27 (by decide)) (fun v12 σ11 H locs hp hw => ?_)
      obtain ⟨p12_0, p12_1⟩ := hp
      have fr := oFr_tr fr p12_0 (by decide)
      refine lv_if_eq (tgt := 49) hx hb dX2_layCell_30 (by decide) (fun c13 => ?_) (fun c13 => ?_)
      · --
        have i14 : Iv v12 0 0 := iv_eq1 c13 p12_1 (⟨by decide, by decide⟩ : Iv 0 0 0) (by decide)
        refine lv_aload_n hx hb dX2_layCell_49 rfl (lv_at hl 0 rfl) ?_
        refine g_66 cx hw ha0 k_f_X2_54 dX2_layCell_50 (fun v15 e15 i15 => ?_)
        refine lv_bipush (v := 6) hx hb dX2_layCell_53 (by decide) ?_
        have frE_90 := fr
        have J_90 : ∀ (σ_90 : oSt) (H : Heap) (locs : List Loc), oI A L τ cy D s.heap σ_90 H locs → oFr τ fs_X2_layCell ts_X2_layCell σ σ_90 → ∀ (ls : Array Slot), lv_has ls 4 [(0, .ref a0), (1, .int a1), (2, .ref a2), (3, .ref a3)] → W p l e ({ frames := 3, cells := 0, slots := 0, locals := 66 } : Room) s m args below meth c H locs 0 0 Q (F0 m 90 ls []) := by
          intro  σ_90 H locs hw fr      ls hl
          have fr_90 := fr
          refine lv_aload_n hx hb dX2_layCell_90 rfl (lv_at hl 0 rfl) ?_
          refine lv_dup hx hb dX2_layCell_91 rfl ?_
          refine g_69 cx hw ha0 k_f_X2_48 dX2_layCell_92 (fun v16 e16 => ?_)
          refine lv_iload_n hx hb dX2_layCell_95 rfl (lv_at hl 1 rfl) ?_
          refine o_cl hw (oRunS cx hA hw q_X0_bit k_m_X2_74 (As := [.int a1]) (c_X0_bit a1) (by decide) rfl hl.1 rfl (Nat.le_of_ble_eq_true rfl) dX2_layCell_96 (by decide)) (fun v18 σ17 H locs hp hw => ?_)
          have p18_0 := hp
          rw [p18_0] at hw
          refine lv_lor hx hb dX2_layCell_99 ?_
          refine lv_topl (fun v19 e19 => ?_)
          refine p_69 cx hw ha0 k_f_X2_48 dX2_layCell_100 (fun σ20 H locs eσ20 hw => ?_)
          have fr := oFr_l fr eσ20 (by decide)
          refine lv_aload_n hx hb dX2_layCell_103 rfl (lv_at hl 3 rfl) ?_
          refine g_320 cx hw ha3 k_f_X2_80 dX2_layCell_104 (fun v21 e21 h21 => ?_)
          refine lv_iload_n hx hb dX2_layCell_107 rfl (lv_at hl 1 rfl) ?_
          refine lv_iconst (v := 0) hx hb dX2_layCell_108 (by decide) ?_
          refine lv_aload_n hx hb dX2_layCell_109 rfl (lv_at hl 2 rfl) ?_
          refine lv_iconst (v := 0) hx hb dX2_layCell_110 (by decide) ?_
          refine lv_bipush (v := 9) hx hb dX2_layCell_111 (by decide) ?_
          refine o_ci hw (oRunV cx hA hw q_X7_digit k_m_X2_83 rfl ha2 (by decide) (As := [.int 0, .int 9]) (c_X7_digit a2 ha2 0 9) (by decide) rfl hl.1 rfl (Nat.le_of_ble_eq_true rfl) dX2_layCell_113 (by decide)) (fun v23 σ22 H locs hp hw => ?_)
          have p23_0 := hp
          have fr := oFr_tr fr p23_0 (by decide)
          refine va_mmax hx hb (hml.trans hl.1.symm) hown (hts _ k_m_X2_68) (hts _ k_s_J9_max_7cf53) (hts _ k_i_J9) (hts _ k_code_J9_max_7cf53) (by decide) (Nat.le_of_ble_eq_true rfl) (by decide) (by decide) dX2_layCell_116 ?_
          refine lv_topi (fun v24 e24 => ?_)
          have i24 : Iv v24 0 2147483647 := iv_max e24 (⟨by decide, by decide⟩ : Iv 0 0 0) (iv_top v23) (by decide)
          refine o_iast cx hw h21 (by decide) rfl (iv_in i5 (by decide)) trivial dX2_layCell_119 (fun σ25 H locs eσ25 hw => ?_)
          have fr := oFr_p fr eσ25 h21 (by decide)
          rw [← hQ]
          exact o_rv cx rx hw dX2_layCell_120 fr
        refine lv_icmp_ge (tgt := 90) hx hb dX2_layCell_55 (by decide) (fun c26 => ?_) (fun c26 => ?_)
        · --
          have i27 : Iv v15 6 6 := iv_le2 c26 (⟨by decide, by decide⟩ : Iv 6 6 6) i15 (by decide)
          exact J_90 σ11 _ _ hw fr _ (lv_sub hl [0, 1, 2, 3] rfl)
        · --
          have i28 : Iv v15 0 5 := iv_lt1 (iv_nle c26) i15 (⟨by decide, by decide⟩ : Iv 6 6 6) (by decide)
          refine lv_aload_n hx hb dX2_layCell_58 rfl (lv_at hl 2 rfl) ?_
          refine lv_bipush (v := 43) hx hb dX2_layCell_59 (by decide) ?_
          refine o_ci hw (oRunV cx hA hw q_X7_take k_m_X2_25 rfl ha2 (by decide) (As := [.int 43]) (c_X7_take a2 ha2 43 (iv_w (⟨by decide, by decide⟩ : Iv 43 43 43) (by decide))) (by decide) rfl hl.1 rfl (Nat.le_of_ble_eq_true rfl) dX2_layCell_61 (by decide)) (fun v30 σ29 H locs hp hw => ?_)
          obtain ⟨p30_0, p30_1⟩ := hp
          have fr := oFr_tr fr p30_0 (by decide)
          refine lv_if_eq (tgt := 90) hx hb dX2_layCell_64 (by decide) (fun c31 => ?_) (fun c31 => ?_)
          · --
            have i32 : Iv v30 0 0 := iv_eq1 c31 p30_1 (⟨by decide, by decide⟩ : Iv 0 0 0) (by decide)
            exact J_90 σ29 _ _ hw fr _ (lv_sub hl [0, 1, 2, 3] rfl)
          · --
            have i33 : Iv v30 1 1 := iv_ne1 c31 p30_1 (⟨by decide, by decide⟩ : Iv 0 0 0) (by decide)
            refine lv_aload_n hx hb dX2_layCell_67 rfl (lv_at hl 0 rfl) ?_
            refine g_67 cx hw ha0 k_f_X2_9 dX2_layCell_68 (fun v34 e34 h34 => ?_)
            refine lv_aload_n hx hb dX2_layCell_71 rfl (lv_at hl 0 rfl) ?_
            refine g_66 cx hw ha0 k_f_X2_54 dX2_layCell_72 (fun v35 e35 i35 => ?_)
            rw [show v35 = v15 from e35.trans ((kp_c p30_0 (by decide)).trans e15.symm)]
            refine lv_iload_n hx hb dX2_layCell_75 rfl (lv_at hl 1 rfl) ?_
            refine o_iast cx hw h34 (by decide) rfl (iv_in i28 (by decide)) trivial dX2_layCell_76 (fun σ36 H locs eσ36 hw => ?_)
            have fr := oFr_p fr eσ36 h34 (by decide)
            refine lv_aload_n hx hb dX2_layCell_77 rfl (lv_at hl 0 rfl) ?_
            refine lv_dup hx hb dX2_layCell_78 rfl ?_
            refine g_66 cx hw ha0 k_f_X2_54 dX2_layCell_79 (fun v37 e37 i37 => ?_)
            rw [show v37 = v15 from e37.trans ((kp_p eσ36).trans ((kp_c p30_0 (by decide)).trans e15.symm))]
            refine lv_iconst (v := 1) hx hb dX2_layCell_82 (by decide) ?_
            refine lv_iadd hx hb dX2_layCell_83 ?_
            refine lv_topi (fun v38 e38 => ?_)
            have i38 : Iv v38 1 6 := iv_add e38 i28 (⟨by decide, by decide⟩ : Iv 1 1 1) (by decide)
            have x38 : v38.toInt = v15.toInt + 1 := ex_add e38 i28 (⟨by decide, by decide⟩ : Iv 1 1 1) (by decide)
            refine p_66 cx hw ha0 (iv_w i38 (by decide)) k_f_X2_54 dX2_layCell_84 (fun σ39 H locs eσ39 hw => ?_)
            have fr := oFr_i fr eσ39 (by decide)
            refine lv_goto (tgt := 120) hx hb dX2_layCell_87 (by decide) ?_
            rw [← hQ]
            exact o_rv cx rx hw dX2_layCell_120 fr
      · --
        have i40 : Iv v12 1 1 := iv_ne1 c13 p12_1 (⟨by decide, by decide⟩ : Iv 0 0 0) (by decide)
        refine lv_aload_n hx hb dX2_layCell_33 rfl (lv_at hl 0 rfl) ?_
        refine lv_dup hx hb dX2_layCell_34 rfl ?_
        refine g_70 cx hw ha0 k_f_X2_51 dX2_layCell_35 (fun v41 e41 => ?_)
        refine lv_iload_n hx hb dX2_layCell_38 rfl (lv_at hl 1 rfl) ?_
        refine o_cl hw (oRunS cx hA hw q_X0_bit k_m_X2_74 (As := [.int a1]) (c_X0_bit a1) (by decide) rfl hl.1 rfl (Nat.le_of_ble_eq_true rfl) dX2_layCell_39 (by decide)) (fun v43 σ42 H locs hp hw => ?_)
        have p43_0 := hp
        rw [p43_0] at hw
        refine lv_lor hx hb dX2_layCell_42 ?_
        refine lv_topl (fun v44 e44 => ?_)
        refine p_70 cx hw ha0 k_f_X2_51 dX2_layCell_43 (fun σ45 H locs eσ45 hw => ?_)
        have fr := oFr_l fr eσ45 (by decide)
        refine lv_goto (tgt := 120) hx hb dX2_layCell_46 (by decide) ?_
        rw [← hQ]
        exact o_rv cx rx hw dX2_layCell_120 fr
    · --
      have i46 : Iv a1 64 2147483647 := iv_le2 (iv_nlt c4) (⟨by decide, by decide⟩ : Iv 64 64 64) i3 (by decide)
      rw [← hQ]
      exact o_rv cx rx hw dX2_layCell_10 fr
abbrev fs_X2_lay : List Nat := [64, 65, 66, 68, 69, 70, 327, 328, 329, 330, 331, 386, 387]
abbrev ts_X2_lay : List Nat := [32, 34]
set_option maxHeartbeats 4000000 in
set_option maxRecDepth 100000 in
theorem c_X2_lay (a0 : Nat) (ha0 : oA L τ a0 1) (a1 : Nat) (ha1 : oA L τ a1 6) (a2 : Nat) (ha2 : oA L τ a2 5) : oMet l A L τ cy D K yX2_lay cX2_lay 5 none 4 89 [.ref a0, .ref a1, .ref a2] σ (va_Qv (fun σ1 => oFr τ fs_X2_lay ts_X2_lay σ σ1) (oPo A L τ cy D) A) := by
  refine oMk (by decide) (Nat.le_of_ble_eq_true rfl) rfl ?_
  intro p e s m args below meth c ls cx rx hA hw hl
  generalize hQ : MQ below _ args s 0 0 A = Q
  have hx := cx.1.1
  have hb := cx.1.2.1
  have hml := cx.1.2.2.1
  have hown := cx.1.2.2.2.1
  have hts := cx.1.2.2.2.2
  have hl : lv_has ls 5 [(0, .ref a0), (1, .ref a1), (2, .ref a2)] := hl
  have fr : oFr τ fs_X2_lay ts_X2_lay σ σ := oFr_rf
  refine lv_aload_n hx hb dX2_lay_0 rfl (lv_at hl 2 rfl) ?_
  refine o_cv hw (oRunV cx hA hw q_X6_clear k_m_X2_39 rfl ha2 (by decide) (As := []) (c_X6_clear a2 ha2) (by decide) rfl hl.1 rfl (Nat.le_of_ble_eq_true rfl) dX2_lay_1 (by decide)) (fun σ1 H locs hp hw => ?_)
  have p2_0 := hp
  have fr := oFr_tr fr p2_0 (by decide)
  refine lv_aload_n hx hb dX2_lay_4 rfl (lv_at hl 0 rfl) ?_
  refine lv_lconst (v := 0) hx hb dX2_lay_5 (by decide) ?_
  refine p_68 cx hw ha0 k_f_X2_44 dX2_lay_6 (fun σ3 H locs eσ3 hw => ?_)
  have fr := oFr_l fr eσ3 (by decide)
  refine lv_aload_n hx hb dX2_lay_9 rfl (lv_at hl 0 rfl) ?_
  refine lv_lconst (v := 0) hx hb dX2_lay_10 (by decide) ?_
  refine p_69 cx hw ha0 k_f_X2_48 dX2_lay_11 (fun σ4 H locs eσ4 hw => ?_)
  have fr := oFr_l fr eσ4 (by decide)
  refine lv_aload_n hx hb dX2_lay_14 rfl (lv_at hl 0 rfl) ?_
  refine lv_lconst (v := 0) hx hb dX2_lay_15 (by decide) ?_
  refine p_70 cx hw ha0 k_f_X2_51 dX2_lay_16 (fun σ5 H locs eσ5 hw => ?_)
  have fr := oFr_l fr eσ5 (by decide)
  refine lv_aload_n hx hb dX2_lay_19 rfl (lv_at hl 0 rfl) ?_
  refine lv_iconst (v := 0) hx hb dX2_lay_20 (by decide) ?_
  refine p_66 cx hw ha0 (iv_w (⟨by decide, by decide⟩ : Iv 0 0 0) (by decide)) k_f_X2_54 dX2_lay_21 (fun σ6 H locs eσ6 hw => ?_)
  have fr := oFr_i fr eσ6 (by decide)
  refine lv_aload_n hx hb dX2_lay_24 rfl (lv_at hl 0 rfl) ?_
  refine lv_iconst (v := 0) hx hb dX2_lay_25 (by decide) ?_
  refine p_64 cx hw ha0 k_f_X2_58 dX2_lay_26 (fun σ7 H locs eσ7 hw => ?_)
  have fr := oFr_i fr eσ7 (by decide)
  refine lv_aload_n hx hb dX2_lay_29 rfl (lv_at hl 0 rfl) ?_
  refine lv_iconst (v := 1) hx hb dX2_lay_30 (by decide) ?_
  refine p_65 cx hw ha0 k_f_X2_61 dX2_lay_31 (fun σ8 H locs eσ8 hw => ?_)
  have fr := oFr_i fr eσ8 (by decide)
  refine lv_iconst (v := 0) hx hb dX2_lay_34 (by decide) ?_
  refine lv_istore_n (lv' := [(3, .int 0), (0, .ref a0), (1, .ref a1), (2, .ref a2)]) hx hb dX2_lay_35 rfl hl (by decide) rfl (fun ls hl => ?_)
  refine lv_aload_n hx hb dX2_lay_36 rfl (lv_at hl 2 rfl) ?_
  refine lv_bipush (v := 76) hx hb dX2_lay_37 (by decide) ?_
  refine o_cv hw (oRunV cx hA hw q_X7_begin k_m_X2_15 rfl ha1 (by decide) (As := [.int 76]) (c_X7_begin a1 ha1 76) (by decide) rfl hl.1 rfl (Nat.le_of_ble_eq_true rfl) dX2_lay_39 (by decide)) (fun σ9 H locs hp hw => ?_)
  have p10_0 := hp
  have fr := oFr_tr fr p10_0 (by decide)
  refine lv_iconst (v := 0) hx hb dX2_lay_42 (by decide) ?_
  refine lv_istore (lv' := [(4, .int 0), (3, .int 0), (0, .ref a0), (1, .ref a1), (2, .ref a2)]) hx hb dX2_lay_43 hl (by decide) rfl (fun ls hl => ?_)
  have frE_45 := fr
  have J_45 : ∀ n45 : Nat, ∀ (j45_3 : Int32) (j45_4 : Int32) (ij45_4 : Iv j45_4 0 76), ∀ (σ_45 : oSt) (H : Heap) (locs : List Loc), oI A L τ cy D s.heap σ_45 H locs → oFr τ fs_X2_lay ts_X2_lay σ σ_45 → (76 - j45_4.toInt).toNat < n45 → ∀ (ls : Array Slot), lv_has ls 5 [(0, .ref a0), (1, .ref a1), (2, .ref a2), (3, .int j45_3), (4, .int j45_4)] → W p l e ({ frames := 4, cells := 0, slots := 0, locals := 89 } : Room) s m args below meth c H locs 0 0 Q (F0 m 45 ls []) := by
    intro n45
    induction n45 with
    | zero => intro j45_3 j45_4 ij45_4 σ_45 H locs hw fr   hn_45   ls hl; exact absurd hn_45 (Nat.not_lt_zero _)
    | succ n45 ih_45 =>
      intro j45_3 j45_4 ij45_4 σ_45 H locs hw fr   hn_45   ls hl
      have fr_45 := fr
      refine lv_iload hx hb dX2_lay_45 (lv_at hl 4 rfl) ?_
      refine lv_bipush (v := 76) hx hb dX2_lay_47 (by decide) ?_
      refine lv_icmp_ge (tgt := 121) hx hb dX2_lay_49 (by decide) (fun c11 => ?_) (fun c11 => ?_)
      · --
        have i12 : Iv j45_4 76 76 := iv_le2 c11 (⟨by decide, by decide⟩ : Iv 76 76 76) ij45_4 (by decide)
        rw [← hQ]
        exact o_rv cx rx hw dX2_lay_121 fr
      · --
        have i13 : Iv j45_4 0 75 := iv_lt1 (iv_nle c11) ij45_4 (⟨by decide, by decide⟩ : Iv 76 76 76) (by decide)
        refine lv_aload_n hx hb dX2_lay_52 rfl (lv_at hl 1 rfl) ?_
        refine o_ci hw (oRunV cx hA hw q_X7_isAtEnd k_m_X2_21 rfl ha1 (by decide) (As := []) (c_X7_isAtEnd a1 ha1) (by decide) rfl hl.1 rfl (Nat.le_of_ble_eq_true rfl) dX2_lay_53 (by decide)) (fun v15 σ14 H locs hp hw => ?_)
        obtain ⟨p15_0, p15_1⟩ := hp
        rw [p15_0] at hw
        refine lv_if_ne (tgt := 121) hx hb dX2_lay_56 (by decide) (fun c16 => ?_) (fun c16 => ?_)
        · --
          have i17 : Iv v15 1 1 := iv_ne1 c16 p15_1 (⟨by decide, by decide⟩ : Iv 0 0 0) (by decide)
          rw [← hQ]
          exact o_rv cx rx hw dX2_lay_121 fr
        · --
          have i18 : Iv v15 0 0 := iv_eq1 c16 p15_1 (⟨by decide, by decide⟩ : Iv 0 0 0) (by decide)
          refine lv_aload_n hx hb dX2_lay_59 rfl (lv_at hl 1 rfl) ?_
          refine lv_bipush (v := 47) hx hb dX2_lay_60 (by decide) ?_
          refine o_ci hw (oRunV cx hA hw q_X7_take k_m_X2_25 rfl ha1 (by decide) (As := [.int 47]) (c_X7_take a1 ha1 47 (iv_w (⟨by decide, by decide⟩ : Iv 47 47 47) (by decide))) (by decide) rfl hl.1 rfl (Nat.le_of_ble_eq_true rfl) dX2_lay_62 (by decide)) (fun v20 σ19 H locs hp hw => ?_)
          obtain ⟨p20_0, p20_1⟩ := hp
          have fr := oFr_tr fr p20_0 (by decide)
          have frE_115 := fr
          have J_115 : ∀ (j115_3 : Int32), ∀ (σ_115 : oSt) (H : Heap) (locs : List Loc), oI A L τ cy D s.heap σ_115 H locs → oFr τ fs_X2_lay ts_X2_lay σ σ_115 → ∀ (ls : Array Slot), lv_has ls 5 [(0, .ref a0), (1, .ref a1), (2, .ref a2), (3, .int j115_3), (4, .int j45_4)] → W p l e ({ frames := 4, cells := 0, slots := 0, locals := 89 } : Room) s m args below meth c H locs 0 0 Q (F0 m 115 ls []) := by
            intro j115_3 σ_115 H locs hw fr      ls hl
            have fr_115 := fr
            obtain ⟨v21, e21⟩ : ∃ y : Int32, y = j45_4 + 1 := ⟨_, rfl⟩
            have i21 : Iv v21 1 76 := iv_add e21 i13 (⟨by decide, by decide⟩ : Iv 1 1 1) (by decide)
            have x21 : v21.toInt = j45_4.toInt + 1 := ex_add e21 i13 (⟨by decide, by decide⟩ : Iv 1 1 1) (by decide)
            refine lv_iinc (v := v21) (lv' := [(4, .int v21), (0, .ref a0), (1, .ref a1), (2, .ref a2), (3, .int j115_3)]) hx hb dX2_lay_115 hl (k := 4) rfl (by rw [e21]; rfl) (by decide) rfl (fun ls hl => ?_)
            refine lv_goto (tgt := 45) hx hb dX2_lay_118 (by decide) ?_
            exact ih_45 j115_3 v21 (iv_w i21 (by decide)) σ_115 _ _ hw fr (ms_up x21 (by decide) (iv_w (a' := 0) (b' := 76) i21 (by decide)).2 hn_45) _ (lv_sub hl [1, 2, 3, 4, 0] rfl)
          refine lv_if_eq (tgt := 83) hx hb dX2_lay_65 (by decide) (fun c22 => ?_) (fun c22 => ?_)
          · --
            have i23 : Iv v20 0 0 := iv_eq1 c22 p20_1 (⟨by decide, by decide⟩ : Iv 0 0 0) (by decide)
            refine lv_aload_n hx hb dX2_lay_83 rfl (lv_at hl 0 rfl) ?_
            refine lv_bipush (v := 8) hx hb dX2_lay_84 (by decide) ?_
            refine lv_aload_n hx hb dX2_lay_86 rfl (lv_at hl 0 rfl) ?_
            refine g_65 cx hw ha0 k_f_X2_61 dX2_lay_87 (fun v24 e24 => ?_)
            refine lv_iconst (v := 1) hx hb dX2_lay_90 (by decide) ?_
            refine lv_isub hx hb dX2_lay_91 ?_
            refine lv_topi (fun v25 e25 => ?_)
            refine lv_imul hx hb dX2_lay_92 ?_
            refine lv_topi (fun v26 e26 => ?_)
            refine lv_iload_n hx hb dX2_lay_93 rfl (lv_at hl 3 rfl) ?_
            refine lv_iadd hx hb dX2_lay_94 ?_
            refine lv_topi (fun v27 e27 => ?_)
            refine lv_aload_n hx hb dX2_lay_95 rfl (lv_at hl 1 rfl) ?_
            refine lv_aload_n hx hb dX2_lay_96 rfl (lv_at hl 2 rfl) ?_
            refine o_cv hw (oRunV cx hA hw q_X2_layCell k_m_X2_64 rfl ha0 (by decide) (As := [.int v27, .ref a1, .ref a2]) (c_X2_layCell a0 ha0 v27 a1 ha1 a2 ha2) (by decide) rfl hl.1 rfl (Nat.le_of_ble_eq_true rfl) dX2_lay_97 (by decide)) (fun σ28 H locs hp hw => ?_)
            have p29_0 := hp
            have fr := oFr_tr fr p29_0 (by decide)
            obtain ⟨v30, e30⟩ : ∃ y : Int32, y = j45_3 + 1 := ⟨_, rfl⟩
            refine lv_iinc (v := v30) (lv' := [(3, .int v30), (0, .ref a0), (1, .ref a1), (2, .ref a2), (4, .int j45_4)]) hx hb dX2_lay_100 hl (k := 3) rfl (by rw [e30]; rfl) (by decide) rfl (fun ls hl => ?_)
            refine lv_aload_n hx hb dX2_lay_103 rfl (lv_at hl 1 rfl) ?_
            refine lv_aload_n hx hb dX2_lay_104 rfl (lv_at hl 1 rfl) ?_
            refine g_64 cx hw ha0 k_f_X2_58 dX2_lay_105 (fun v31 e31 => ?_)
            refine lv_iload_n hx hb dX2_lay_108 rfl (lv_at hl 0 rfl) ?_
            refine va_mmax hx hb (hml.trans hl.1.symm) hown (hts _ k_m_X2_68) (hts _ k_s_J9_max_7cf53) (hts _ k_i_J9) (hts _ k_code_J9_max_7cf53) (by decide) (Nat.le_of_ble_eq_true rfl) (by decide) (by decide) dX2_lay_109 ?_
            refine lv_topi (fun v32 e32 => ?_)
            refine p_64 cx hw ha0 k_f_X2_58 dX2_lay_112 (fun σ33 H locs eσ33 hw => ?_)
            have fr := oFr_i fr eσ33 (by decide)
            exact J_115 v30 σ33 _ _ hw fr _ (lv_sub hl [1, 2, 3, 0, 4] rfl)
          · --
            have i34 : Iv v20 1 1 := iv_ne1 c22 p20_1 (⟨by decide, by decide⟩ : Iv 0 0 0) (by decide)
            refine lv_aload_n hx hb dX2_lay_68 rfl (lv_at hl 0 rfl) ?_
            refine lv_dup hx hb dX2_lay_69 rfl ?_
            refine g_65 cx hw ha0 k_f_X2_61 dX2_lay_70 (fun v35 e35 => ?_)
            refine lv_iconst (v := 1) hx hb dX2_lay_73 (by decide) ?_
            refine lv_iadd hx hb dX2_lay_74 ?_
            refine lv_topi (fun v36 e36 => ?_)
            refine p_65 cx hw ha0 k_f_X2_61 dX2_lay_75 (fun σ37 H locs eσ37 hw => ?_)
            have fr := oFr_i fr eσ37 (by decide)
            refine lv_iconst (v := 0) hx hb dX2_lay_78 (by decide) ?_
            refine lv_istore_n (lv' := [(3, .int 0), (0, .ref a0), (1, .ref a1), (2, .ref a2), (4, .int j45_4)]) hx hb dX2_lay_79 rfl hl (by decide) rfl (fun ls hl => ?_)
            refine lv_goto (tgt := 115) hx hb dX2_lay_80 (by decide) ?_
            exact J_115 0 σ37 _ _ hw fr _ (lv_sub hl [1, 2, 3, 0, 4] rfl)
  exact J_45 _ 0 0 (iv_w (⟨by decide, by decide⟩ : Iv 0 0 0) (by decide)) σ9 _ _ hw fr (Nat.lt_succ_self _) _ (lv_sub hl [2, 3, 4, 1, 0] rfl)
abbrev fs_X3_forget : List Nat := [130]
abbrev ts_X3_forget : List Nat := []
set_option maxHeartbeats 4000000 in
set_option maxRecDepth 100000 in
theorem c_X3_forget (a0 : Nat) (ha0 : oA L τ a0 2) : oMet l A L τ cy D K yX3_forget cX3_forget 1 none 0 0 [.ref a0] σ (va_Qv (fun σ1 => oFr τ fs_X3_forget ts_X3_forget σ σ1) (oPo A L τ cy D) A) := by
  refine oMk (by decide) (Nat.le_of_ble_eq_true rfl) rfl ?_
  intro p e s m args below meth c ls cx rx hA hw hl
  generalize hQ : MQ below _ args s 0 0 A = Q
  have hx := cx.1.1
  have hb := cx.1.2.1
  have hml := cx.1.2.2.1
  have hown := cx.1.2.2.2.1
  have hts := cx.1.2.2.2.2
  have hl : lv_has ls 1 [(0, .ref a0)] := hl
  have fr : oFr τ fs_X3_forget ts_X3_forget σ σ := oFr_rf
  refine lv_aload_n hx hb dX3_forget_0 rfl (lv_at hl 0 rfl) ?_
  refine lv_iconst (v := 0) hx hb dX3_forget_1 (by decide) ?_
  refine p_130 cx hw ha0 (iv_w (⟨by decide, by decide⟩ : Iv 0 0 0) (by decide)) k_f_X3_16 dX3_forget_2 (fun σ1 H locs eσ1 hw => ?_)
  have fr := oFr_i fr eσ1 (by decide)
  rw [← hQ]
  exact o_rv cx rx hw dX3_forget_5 fr
abbrev fs_X7_empty : List Nat := [385]
abbrev ts_X7_empty : List Nat := []
set_option maxHeartbeats 4000000 in
set_option maxRecDepth 100000 in
theorem c_X7_empty (a0 : Nat) (ha0 : oA L τ a0 6) : oMet l A L τ cy D K yX7_empty cX7_empty 1 none 0 0 [.ref a0] σ (va_Qv (fun σ1 => oFr τ fs_X7_empty ts_X7_empty σ σ1 ∧ Iv (σ1.1 385 a0) 0 0) (oPo A L τ cy D) A) := by
  refine oMk (by decide) (Nat.le_of_ble_eq_true rfl) rfl ?_
  intro p e s m args below meth c ls cx rx hA hw hl
  generalize hQ : MQ below _ args s 0 0 A = Q
  have hx := cx.1.1
  have hb := cx.1.2.1
  have hml := cx.1.2.2.1
  have hown := cx.1.2.2.2.1
  have hts := cx.1.2.2.2.2
  have hl : lv_has ls 1 [(0, .ref a0)] := hl
  have fr : oFr τ fs_X7_empty ts_X7_empty σ σ := oFr_rf
  refine lv_aload_n hx hb dX7_empty_0 rfl (lv_at hl 0 rfl) ?_
  refine lv_iconst (v := 0) hx hb dX7_empty_1 (by decide) ?_
  refine p_385 cx hw ha0 (iv_w (⟨by decide, by decide⟩ : Iv 0 0 0) (by decide)) k_f_X7_19 dX7_empty_2 (fun σ1 H locs eσ1 hw => ?_)
  have fr := oFr_i fr eσ1 (by decide)
  rw [← hQ]
  exact o_rv cx rx hw dX7_empty_5 ⟨fr, (kn_iv ((kp_s eσ1)) (iv_w (⟨by decide, by decide⟩ : Iv 0 0 0) (by decide)))⟩
abbrev fs_X6_copyFrom : List Nat := [327, 328, 329, 330, 331]
abbrev ts_X6_copyFrom : List Nat := [32, 33, 34]
set_option maxHeartbeats 4000000 in
set_option maxRecDepth 100000 in
theorem c_X6_copyFrom (a0 : Nat) (ha0 : oA L τ a0 5) (a1 : Nat) (ha1 : oA L τ a1 5) : oMet l A L τ cy D K yX6_copyFrom cX6_copyFrom 2 none 1 60 [.ref a0, .ref a1] σ (va_Qv (fun σ1 => oFr τ fs_X6_copyFrom ts_X6_copyFrom σ σ1) (oPo A L τ cy D) A) := by
  refine oMk (by decide) (Nat.le_of_ble_eq_true rfl) rfl ?_
  intro p e s m args below meth c ls cx rx hA hw hl
  generalize hQ : MQ below _ args s 0 0 A = Q
  have hx := cx.1.1
  have hb := cx.1.2.1
  have hml := cx.1.2.2.1
  have hown := cx.1.2.2.2.1
  have hts := cx.1.2.2.2.2
  have hl : lv_has ls 2 [(0, .ref a0), (1, .ref a1)] := hl
  have fr : oFr τ fs_X6_copyFrom ts_X6_copyFrom σ σ := oFr_rf
  refine lv_aload_n hx hb dX6_copyFrom_0 rfl (lv_at hl 1 rfl) ?_
  refine g_320 cx hw ha1 k_f_X6_9 dX6_copyFrom_1 (fun v1 e1 h1 => ?_)
  refine lv_iconst (v := 0) hx hb dX6_copyFrom_4 (by decide) ?_
  refine lv_aload_n hx hb dX6_copyFrom_5 rfl (lv_at hl 0 rfl) ?_
  refine g_320 cx hw ha0 k_f_X6_9 dX6_copyFrom_6 (fun v2 e2 h2 => ?_)
  refine lv_iconst (v := 0) hx hb dX6_copyFrom_9 (by decide) ?_
  refine lv_bipush (v := 64) hx hb dX6_copyFrom_10 (by decide) ?_
  refine o_copyi cx hw h1 h2 (by decide) rfl (by decide) k_m_X6_55 hl.1 (by decide) (Nat.le_of_ble_eq_true rfl) dX6_copyFrom_12 (fun σ3 H locs eσ3 hw => ?_)
  have fr := oFr_p fr eσ3 h2 (by decide)
  refine lv_aload_n hx hb dX6_copyFrom_15 rfl (lv_at hl 1 rfl) ?_
  refine g_321 cx hw ha1 k_f_X6_15 dX6_copyFrom_16 (fun v4 e4 h4 => ?_)
  refine lv_iconst (v := 0) hx hb dX6_copyFrom_19 (by decide) ?_
  refine lv_aload_n hx hb dX6_copyFrom_20 rfl (lv_at hl 0 rfl) ?_
  refine g_321 cx hw ha0 k_f_X6_15 dX6_copyFrom_21 (fun v5 e5 h5 => ?_)
  refine lv_iconst (v := 0) hx hb dX6_copyFrom_24 (by decide) ?_
  refine lv_bipush (v := 64) hx hb dX6_copyFrom_25 (by decide) ?_
  refine o_copyi cx hw h4 h5 (by decide) rfl (by decide) k_m_X6_55 hl.1 (by decide) (Nat.le_of_ble_eq_true rfl) dX6_copyFrom_27 (fun σ6 H locs eσ6 hw => ?_)
  have fr := oFr_p fr eσ6 h5 (by decide)
  refine lv_aload_n hx hb dX6_copyFrom_30 rfl (lv_at hl 1 rfl) ?_
  refine g_322 cx hw ha1 k_f_X6_18 dX6_copyFrom_31 (fun v7 e7 h7 => ?_)
  refine lv_iconst (v := 0) hx hb dX6_copyFrom_34 (by decide) ?_
  refine lv_aload_n hx hb dX6_copyFrom_35 rfl (lv_at hl 0 rfl) ?_
  refine g_322 cx hw ha0 k_f_X6_18 dX6_copyFrom_36 (fun v8 e8 h8 => ?_)
  refine lv_iconst (v := 0) hx hb dX6_copyFrom_39 (by decide) ?_
  refine lv_bipush (v := 64) hx hb dX6_copyFrom_40 (by decide) ?_
  refine o_copyi cx hw h7 h8 (by decide) rfl (by decide) k_m_X6_55 hl.1 (by decide) (Nat.le_of_ble_eq_true rfl) dX6_copyFrom_42 (fun σ9 H locs eσ9 hw => ?_)
  have fr := oFr_p fr eσ9 h8 (by decide)
  refine lv_aload_n hx hb dX6_copyFrom_45 rfl (lv_at hl 1 rfl) ?_
  refine g_323 cx hw ha1 k_f_X6_21 dX6_copyFrom_46 (fun v10 e10 h10 => ?_)
  refine lv_iconst (v := 0) hx hb dX6_copyFrom_49 (by decide) ?_
  refine lv_aload_n hx hb dX6_copyFrom_50 rfl (lv_at hl 0 rfl) ?_
  refine g_323 cx hw ha0 k_f_X6_21 dX6_copyFrom_51 (fun v11 e11 h11 => ?_)
  refine lv_iconst (v := 0) hx hb dX6_copyFrom_54 (by decide) ?_
  refine lv_bipush (v := 64) hx hb dX6_copyFrom_55 (by decide) ?_
  refine o_copyi cx hw h10 h11 (by decide) rfl (by decide) k_m_X6_55 hl.1 (by decide) (Nat.le_of_ble_eq_true rfl) dX6_copyFrom_57 (fun σ12 H locs eσ12 hw => ?_)
  have fr := oFr_p fr eσ12 h11 (by decide)
  refine lv_aload_n hx hb dX6_copyFrom_60 rfl (lv_at hl 1 rfl) ?_
  refine g_324 cx hw ha1 k_f_X6_24 dX6_copyFrom_61 (fun v13 e13 h13 => ?_)
  refine lv_iconst (v := 0) hx hb dX6_copyFrom_64 (by decide) ?_
  refine lv_aload_n hx hb dX6_copyFrom_65 rfl (lv_at hl 0 rfl) ?_
  refine g_324 cx hw ha0 k_f_X6_24 dX6_copyFrom_66 (fun v14 e14 h14 => ?_)
  refine lv_iconst (v := 0) hx hb dX6_copyFrom_69 (by decide) ?_
  refine lv_bipush (v := 64) hx hb dX6_copyFrom_70 (by decide) ?_
  refine o_copyi cx hw h13 h14 (by decide) rfl (by decide) k_m_X6_55 hl.1 (by decide) (Nat.le_of_ble_eq_true rfl) dX6_copyFrom_72 (fun σ15 H locs eσ15 hw => ?_)
  have fr := oFr_p fr eσ15 h14 (by decide)
  refine lv_aload_n hx hb dX6_copyFrom_75 rfl (lv_at hl 1 rfl) ?_
  refine g_325 cx hw ha1 k_f_X6_27 dX6_copyFrom_76 (fun v16 e16 h16 => ?_)
  refine lv_iconst (v := 0) hx hb dX6_copyFrom_79 (by decide) ?_
  refine lv_aload_n hx hb dX6_copyFrom_80 rfl (lv_at hl 0 rfl) ?_
  refine g_325 cx hw ha0 k_f_X6_27 dX6_copyFrom_81 (fun v17 e17 h17 => ?_)
  refine lv_iconst (v := 0) hx hb dX6_copyFrom_84 (by decide) ?_
  refine lv_bipush (v := 6) hx hb dX6_copyFrom_85 (by decide) ?_
  refine o_copyi cx hw h16 h17 (by decide) rfl (by decide) k_m_X6_55 hl.1 (by decide) (Nat.le_of_ble_eq_true rfl) dX6_copyFrom_87 (fun σ18 H locs eσ18 hw => ?_)
  have fr := oFr_p fr eσ18 h17 (by decide)
  refine lv_aload_n hx hb dX6_copyFrom_90 rfl (lv_at hl 1 rfl) ?_
  refine g_326 cx hw ha1 k_f_X6_30 dX6_copyFrom_91 (fun v19 e19 h19 => ?_)
  refine lv_iconst (v := 0) hx hb dX6_copyFrom_94 (by decide) ?_
  refine lv_aload_n hx hb dX6_copyFrom_95 rfl (lv_at hl 0 rfl) ?_
  refine g_326 cx hw ha0 k_f_X6_30 dX6_copyFrom_96 (fun v20 e20 h20 => ?_)
  refine lv_iconst (v := 0) hx hb dX6_copyFrom_99 (by decide) ?_
  refine lv_bipush (v := 6) hx hb dX6_copyFrom_100 (by decide) ?_
  refine o_copyi cx hw h19 h20 (by decide) rfl (by decide) k_m_X6_55 hl.1 (by decide) (Nat.le_of_ble_eq_true rfl) dX6_copyFrom_102 (fun σ21 H locs eσ21 hw => ?_)
  have fr := oFr_p fr eσ21 h20 (by decide)
  refine lv_aload_n hx hb dX6_copyFrom_105 rfl (lv_at hl 0 rfl) ?_
  refine lv_aload_n hx hb dX6_copyFrom_106 rfl (lv_at hl 1 rfl) ?_
  refine g_327 cx hw ha1 k_f_X6_39 dX6_copyFrom_107 (fun v22 e22 i22 => ?_)
  refine p_327 cx hw ha0 (iv_w i22 (by decide)) k_f_X6_39 dX6_copyFrom_110 (fun σ23 H locs eσ23 hw => ?_)
  have fr := oFr_i fr eσ23 (by decide)
  refine lv_aload_n hx hb dX6_copyFrom_113 rfl (lv_at hl 0 rfl) ?_
  refine lv_aload_n hx hb dX6_copyFrom_114 rfl (lv_at hl 1 rfl) ?_
  refine g_328 cx hw ha1 k_f_X6_43 dX6_copyFrom_115 (fun v24 e24 => ?_)
  refine p_328 cx hw ha0 k_f_X6_43 dX6_copyFrom_118 (fun σ25 H locs eσ25 hw => ?_)
  have fr := oFr_i fr eσ25 (by decide)
  refine lv_aload_n hx hb dX6_copyFrom_121 rfl (lv_at hl 0 rfl) ?_
  refine lv_aload_n hx hb dX6_copyFrom_122 rfl (lv_at hl 1 rfl) ?_
  refine g_329 cx hw ha1 k_f_X6_46 dX6_copyFrom_123 (fun v26 e26 => ?_)
  refine p_329 cx hw ha0 k_f_X6_46 dX6_copyFrom_126 (fun σ27 H locs eσ27 hw => ?_)
  have fr := oFr_i fr eσ27 (by decide)
  refine lv_aload_n hx hb dX6_copyFrom_129 rfl (lv_at hl 0 rfl) ?_
  refine lv_aload_n hx hb dX6_copyFrom_130 rfl (lv_at hl 1 rfl) ?_
  refine g_330 cx hw ha1 k_f_X6_49 dX6_copyFrom_131 (fun v28 e28 => ?_)
  refine p_330 cx hw ha0 k_f_X6_49 dX6_copyFrom_134 (fun σ29 H locs eσ29 hw => ?_)
  have fr := oFr_i fr eσ29 (by decide)
  refine lv_aload_n hx hb dX6_copyFrom_137 rfl (lv_at hl 0 rfl) ?_
  refine lv_aload_n hx hb dX6_copyFrom_138 rfl (lv_at hl 1 rfl) ?_
  refine g_331 cx hw ha1 k_f_X6_52 dX6_copyFrom_139 (fun v30 e30 => ?_)
  refine p_331 cx hw ha0 k_f_X6_52 dX6_copyFrom_142 (fun σ31 H locs eσ31 hw => ?_)
  have fr := oFr_i fr eσ31 (by decide)
  rw [← hQ]
  exact o_rv cx rx hw dX6_copyFrom_145 fr
abbrev fs_X7_column : List Nat := [386]
abbrev ts_X7_column : List Nat := []
set_option maxHeartbeats 4000000 in
set_option maxRecDepth 100000 in
theorem c_X7_column (a0 : Nat) (ha0 : oA L τ a0 6) (a1 : Int32) : oMet l A L τ cy D K yX7_column cX7_column 2 (some .int) 2 44 [.ref a0, .int a1] σ (va_Qi (fun r σ1 => oFr τ fs_X7_column ts_X7_column σ σ1) (oPo A L τ cy D) A) := by
  refine oMk (by decide) (Nat.le_of_ble_eq_true rfl) rfl ?_
  intro p e s m args below meth c ls cx rx hA hw hl
  generalize hQ : MQ below _ args s 0 0 A = Q
  have hx := cx.1.1
  have hb := cx.1.2.1
  have hml := cx.1.2.2.1
  have hown := cx.1.2.2.2.1
  have hts := cx.1.2.2.2.2
  have hl : lv_has ls 2 [(0, .ref a0), (1, .int a1)] := hl
  have fr : oFr τ fs_X7_column ts_X7_column σ σ := oFr_rf
  refine lv_aload_n hx hb dX7_column_0 rfl (lv_at hl 0 rfl) ?_
  refine lv_bipush (v := 97) hx hb dX7_column_1 (by decide) ?_
  refine lv_iconst (v := 0) hx hb dX7_column_3 (by decide) ?_
  refine lv_iload_n hx hb dX7_column_4 rfl (lv_at hl 1 rfl) ?_
  refine lv_iconst (v := 1) hx hb dX7_column_5 (by decide) ?_
  refine lv_isub hx hb dX7_column_6 ?_
  refine lv_topi (fun v1 e1 => ?_)
  refine o_ci hw (oRunV cx hA hw q_X7_takeFrom k_m_X7_50 rfl ha0 (by decide) (As := [.int 97, .int 0, .int v1]) (c_X7_takeFrom a0 ha0 97 (iv_w (⟨by decide, by decide⟩ : Iv 97 97 97) (by decide)) 0 v1) (by decide) rfl hl.1 rfl (Nat.le_of_ble_eq_true rfl) dX7_column_7 (by decide)) (fun v3 σ2 H locs hp hw => ?_)
  have p3_0 := hp
  have fr := oFr_tr fr p3_0 (by decide)
  rw [← hQ]
  exact o_ri cx rx hw dX7_column_10 fr
abbrev fs_X10_readCell : List Nat := [386]
abbrev ts_X10_readCell : List Nat := []
set_option maxHeartbeats 4000000 in
set_option maxRecDepth 100000 in
theorem c_X10_readCell (a0 : Nat) (ha0 : oA L τ a0 9) (a1 : Int32) (a2 : Int32) : oMet l A L τ cy D K yX10_readCell cX10_readCell 5 (some .int) 3 66 [.ref a0, .int a1, .int a2] σ (va_Qi (fun r σ1 => oFr τ fs_X10_readCell ts_X10_readCell σ σ1) (oPo A L τ cy D) A) := by
  refine oMk (by decide) (Nat.le_of_ble_eq_true rfl) rfl ?_
  intro p e s m args below meth c ls cx rx hA hw hl
  generalize hQ : MQ below _ args s 0 0 A = Q
  have hx := cx.1.1
  have hb := cx.1.2.1
  have hml := cx.1.2.2.1
  have hown := cx.1.2.2.2.1
  have hts := cx.1.2.2.2.2
  have hl : lv_has ls 5 [(0, .ref a0), (1, .int a1), (2, .int a2)] := hl
  have fr : oFr τ fs_X10_readCell ts_X10_readCell σ σ := oFr_rf
  refine lv_aload_n hx hb dX10_readCell_0 rfl (lv_at hl 0 rfl) ?_
  refine g_576 cx hw ha0 k_f_X10_10 dX10_readCell_1 (fun v1 e1 h1 => ?_)
  refine lv_iload_n hx hb dX10_readCell_4 rfl (lv_at hl 1 rfl) ?_
  refine o_ci hw (oRunV cx hA hw q_X7_column k_m_X10_254 rfl h1 (by decide) (As := [.int a1]) (c_X7_column v1 h1 a1) (by decide) rfl hl.1 rfl (Nat.le_of_ble_eq_true rfl) dX10_readCell_5 (by decide)) (fun v3 σ2 H locs hp hw => ?_)
  have p3_0 := hp
  have fr := oFr_tr fr p3_0 (by decide)
  refine lv_istore_n (lv' := [(3, .int v3), (0, .ref a0), (1, .int a1), (2, .int a2)]) hx hb dX10_readCell_8 rfl hl (by decide) rfl (fun ls hl => ?_)
  refine lv_iload_n hx hb dX10_readCell_9 rfl (lv_at hl 0 rfl) ?_
  refine lv_iconst (v := (-1)) hx hb dX10_readCell_10 (by decide) ?_
  refine lv_icmp_ne (tgt := 16) hx hb dX10_readCell_11 (by decide) (fun c4 => ?_) (fun c4 => ?_)
  · --
    refine lv_aload_n hx hb dX10_readCell_16 rfl (lv_at hl 1 rfl) ?_
    refine g_576 cx hw ha0 k_f_X10_10 dX10_readCell_17 (fun v5 e5 h5 => ?_)
    rw [show v5 = v1 from Option.some.inj (e5.symm.trans (((kr_c p3_0 (by decide)).trans e1)))]
    refine lv_iconst (v := 1) hx hb dX10_readCell_20 (by decide) ?_
    refine lv_iload_n hx hb dX10_readCell_21 rfl (lv_at hl 3 rfl) ?_
    refine o_ci hw (oRunV cx hA hw q_X7_digit k_m_X10_247 rfl h1 (by decide) (As := [.int 1, .int a2]) (c_X7_digit v1 h1 1 a2) (by decide) rfl hl.1 rfl (Nat.le_of_ble_eq_true rfl) dX10_readCell_22 (by decide)) (fun v7 σ6 H locs hp hw => ?_)
    have p7_0 := hp
    have fr := oFr_tr fr p7_0 (by decide)
    refine lv_istore (lv' := [(4, .int v7), (3, .int v3), (0, .ref a0), (1, .int a1), (2, .int a2)]) hx hb dX10_readCell_25 hl (by decide) rfl (fun ls hl => ?_)
    refine lv_iload hx hb dX10_readCell_27 (lv_at hl 0 rfl) ?_
    refine lv_iconst (v := (-1)) hx hb dX10_readCell_29 (by decide) ?_
    refine lv_icmp_ne (tgt := 37) hx hb dX10_readCell_30 (by decide) (fun c8 => ?_) (fun c8 => ?_)
    · --
      refine lv_bipush (v := 8) hx hb dX10_readCell_37 (by decide) ?_
      refine lv_iload hx hb dX10_readCell_39 (lv_at hl 0 rfl) ?_
      refine lv_iconst (v := 1) hx hb dX10_readCell_41 (by decide) ?_
      refine lv_isub hx hb dX10_readCell_42 ?_
      refine lv_topi (fun v9 e9 => ?_)
      refine lv_imul hx hb dX10_readCell_43 ?_
      refine lv_topi (fun v10 e10 => ?_)
      refine lv_iload_n hx hb dX10_readCell_44 rfl (lv_at hl 1 rfl) ?_
      refine lv_iadd hx hb dX10_readCell_45 ?_
      refine lv_topi (fun v11 e11 => ?_)
      rw [← hQ]
      exact o_ri cx rx hw dX10_readCell_46 fr
    · --
      have i12 : Iv v7 (-1) (-1) := iv_eq1 c8 (iv_top v7) (⟨by decide, by decide⟩ : Iv (-1) (-1) (-1)) (by decide)
      refine lv_iconst (v := (-1)) hx hb dX10_readCell_33 (by decide) ?_
      refine lv_goto (tgt := 46) hx hb dX10_readCell_34 (by decide) ?_
      rw [← hQ]
      exact o_ri cx rx hw dX10_readCell_46 fr
  · --
    have i13 : Iv v3 (-1) (-1) := iv_eq1 c4 (iv_top v3) (⟨by decide, by decide⟩ : Iv (-1) (-1) (-1)) (by decide)
    refine lv_iconst (v := (-1)) hx hb dX10_readCell_14 (by decide) ?_
    rw [← hQ]
    exact o_ri cx rx hw dX10_readCell_15 fr
set_option maxHeartbeats 4000000 in
set_option maxRecDepth 100000 in
theorem c_X0_has (a0 : Int64) (a1 : Int32) : oMet l A L τ cy D K yX0_has cX0_has 3 (some .boolean) 0 0 [.long a0, .int a1] σ (va_Qi (fun r σ1 => σ1 = σ ∧ Iv r 0 1 ∧ (¬ r = 0 → Iv a1 0 63)) (oPo A L τ cy D) A) := by
  refine oMk (by decide) (Nat.le_of_ble_eq_true rfl) rfl ?_
  intro p e s m args below meth c ls cx rx hA hw hl
  generalize hQ : MQ below _ args s 0 0 A = Q
  have hx := cx.1.1
  have hb := cx.1.2.1
  have hml := cx.1.2.2.1
  have hown := cx.1.2.2.2.1
  have hts := cx.1.2.2.2.2
  have hl : lv_has ls 3 [(0, .long a0), (2, .int a1)] := hl
  refine lv_iload_n hx hb dX0_has_0 rfl (lv_at hl 1 rfl) ?_
  refine lv_if_lt (tgt := 24) hx hb dX0_has_1 (by decide) (fun c1 => ?_) (fun c1 => ?_)
  · --
    have i2 : Iv a1 (-2147483648) (-1) := iv_lt1 c1 (iv_top a1) (⟨by decide, by decide⟩ : Iv 0 0 0) (by decide)
    refine lv_iconst (v := 0) hx hb dX0_has_24 (by decide) ?_
    rw [← hQ]
    exact o_rz cx rx hw (iv_nz01 (iv_w (⟨by decide, by decide⟩ : Iv 0 0 0) (by decide))) dX0_has_25 ⟨rfl, (iv_w (⟨by decide, by decide⟩ : Iv 0 0 0) (by decide)), (fun h => absurd rfl h)⟩
  · --
    have i3 : Iv a1 0 2147483647 := iv_le2 (iv_nlt c1) (⟨by decide, by decide⟩ : Iv 0 0 0) (iv_top a1) (by decide)
    refine lv_iload_n hx hb dX0_has_4 rfl (lv_at hl 1 rfl) ?_
    refine lv_bipush (v := 64) hx hb dX0_has_5 (by decide) ?_
    refine lv_icmp_ge (tgt := 24) hx hb dX0_has_7 (by decide) (fun c4 => ?_) (fun c4 => ?_)
    · --
      have i5 : Iv a1 64 2147483647 := iv_le2 c4 (⟨by decide, by decide⟩ : Iv 64 64 64) i3 (by decide)
      refine lv_iconst (v := 0) hx hb dX0_has_24 (by decide) ?_
      rw [← hQ]
      exact o_rz cx rx hw (iv_nz01 (iv_w (⟨by decide, by decide⟩ : Iv 0 0 0) (by decide))) dX0_has_25 ⟨rfl, (iv_w (⟨by decide, by decide⟩ : Iv 0 0 0) (by decide)), (fun h => absurd rfl h)⟩
    · --
      have i6 : Iv a1 0 63 := iv_lt1 (iv_nle c4) i3 (⟨by decide, by decide⟩ : Iv 64 64 64) (by decide)
      refine lv_lload_n hx hb dX0_has_10 rfl (lv_at hl 0 rfl) ?_
      refine lv_iload_n hx hb dX0_has_11 rfl (lv_at hl 1 rfl) ?_
      refine lv_lushr hx hb dX0_has_12 rfl ?_
      refine lv_topl (fun v7 e7 => ?_)
      refine lv_lconst (v := 1) hx hb dX0_has_13 (by decide) ?_
      refine lv_land hx hb dX0_has_14 ?_
      refine lv_topl (fun v8 e8 => ?_)
      refine lv_lconst (v := 0) hx hb dX0_has_15 (by decide) ?_
      refine W.lcmp hx hb dX0_has_16 ?_
      refine lv_topi (fun v9 e9 => ?_)
      have i9 : Iv v9 (-1) 1 := iv_lcmp e9
      refine lv_if_eq (tgt := 24) hx hb dX0_has_17 (by decide) (fun c10 => ?_) (fun c10 => ?_)
      · --
        have i11 : Iv v9 0 0 := iv_eq1 c10 i9 (⟨by decide, by decide⟩ : Iv 0 0 0) (by decide)
        refine lv_iconst (v := 0) hx hb dX0_has_24 (by decide) ?_
        rw [← hQ]
        exact o_rz cx rx hw (iv_nz01 (iv_w (⟨by decide, by decide⟩ : Iv 0 0 0) (by decide))) dX0_has_25 ⟨rfl, (iv_w (⟨by decide, by decide⟩ : Iv 0 0 0) (by decide)), (fun h => absurd rfl h)⟩
      · --
        refine lv_iconst (v := 1) hx hb dX0_has_20 (by decide) ?_
        refine lv_goto (tgt := 25) hx hb dX0_has_21 (by decide) ?_
        rw [← hQ]
        exact o_rz cx rx hw (iv_nz01 (iv_w (⟨by decide, by decide⟩ : Iv 1 1 1) (by decide))) dX0_has_25 ⟨rfl, (iv_w (⟨by decide, by decide⟩ : Iv 1 1 1) (by decide)), (fun _ => iv_w i6 (by decide))⟩
set_option maxHeartbeats 4000000 in
set_option maxRecDepth 100000 in
theorem c_X2_isPlain (a0 : Nat) (ha0 : oA L τ a0 1) (a1 : Int32) : oMet l A L τ cy D K yX2_isPlain cX2_isPlain 2 (some .boolean) 1 22 [.ref a0, .int a1] σ (va_Qi (fun r σ1 => σ1 = σ ∧ Iv r 0 1 ∧ (¬ r = 0 → Iv a1 0 63)) (oPo A L τ cy D) A) := by
  refine oMk (by decide) (Nat.le_of_ble_eq_true rfl) rfl ?_
  intro p e s m args below meth c ls cx rx hA hw hl
  generalize hQ : MQ below _ args s 0 0 A = Q
  have hx := cx.1.1
  have hb := cx.1.2.1
  have hml := cx.1.2.2.1
  have hown := cx.1.2.2.2.1
  have hts := cx.1.2.2.2.2
  have hl : lv_has ls 2 [(0, .ref a0), (1, .int a1)] := hl
  refine lv_aload_n hx hb dX2_isPlain_0 rfl (lv_at hl 0 rfl) ?_
  refine g_69 cx hw ha0 k_f_X2_48 dX2_isPlain_1 (fun v1 e1 => ?_)
  refine lv_iload_n hx hb dX2_isPlain_4 rfl (lv_at hl 1 rfl) ?_
  refine o_ci hw (oRunS cx hA hw q_X0_has k_m_X2_86 (As := [.long v1, .int a1]) (c_X0_has v1 a1) (by decide) rfl hl.1 rfl (Nat.le_of_ble_eq_true rfl) dX2_isPlain_5 (by decide)) (fun v3 σ2 H locs hp hw => ?_)
  obtain ⟨p3_0, p3_1, p3_2⟩ := hp
  rw [p3_0] at hw
  rw [← hQ]
  exact o_rz cx rx hw (iv_nz01 (iv_w p3_1 (by decide))) dX2_isPlain_8 ⟨rfl, (iv_w p3_1 (by decide)), (fun h => iv_w (p3_2 h) (by decide))⟩
abbrev fs_X7_stepBack : List Nat := [386]
abbrev ts_X7_stepBack : List Nat := []
set_option maxHeartbeats 4000000 in
set_option maxRecDepth 100000 in
theorem c_X7_stepBack (a0 : Nat) (ha0 : oA L τ a0 6) : oMet l A L τ cy D K yX7_stepBack cX7_stepBack 1 none 0 0 [.ref a0] σ (va_Qv (fun σ1 => oFr τ fs_X7_stepBack ts_X7_stepBack σ σ1) (oPo A L τ cy D) A) := by
  refine oMk (by decide) (Nat.le_of_ble_eq_true rfl) rfl ?_
  intro p e s m args below meth c ls cx rx hA hw hl
  generalize hQ : MQ below _ args s 0 0 A = Q
  have hx := cx.1.1
  have hb := cx.1.2.1
  have hml := cx.1.2.2.1
  have hown := cx.1.2.2.2.1
  have hts := cx.1.2.2.2.2
  have hl : lv_has ls 1 [(0, .ref a0)] := hl
  have fr : oFr τ fs_X7_stepBack ts_X7_stepBack σ σ := oFr_rf
  refine lv_aload_n hx hb dX7_stepBack_0 rfl (lv_at hl 0 rfl) ?_
  refine lv_dup hx hb dX7_stepBack_1 rfl ?_
  refine g_386 cx hw ha0 k_f_X7_37 dX7_stepBack_2 (fun v1 e1 => ?_)
  refine lv_iconst (v := 1) hx hb dX7_stepBack_5 (by decide) ?_
  refine lv_isub hx hb dX7_stepBack_6 ?_
  refine lv_topi (fun v2 e2 => ?_)
  refine p_386 cx hw ha0 k_f_X7_37 dX7_stepBack_7 (fun σ3 H locs eσ3 hw => ?_)
  have fr := oFr_i fr eσ3 (by decide)
  rw [← hQ]
  exact o_rv cx rx hw dX7_stepBack_10 fr
abbrev fs_X6_tread : List Nat := [329]
abbrev ts_X6_tread : List Nat := [32, 33]
set_option maxHeartbeats 4000000 in
set_option maxRecDepth 100000 in
theorem c_X6_tread (a0 : Nat) (ha0 : oA L τ a0 5) (a1 : Int32) (ia1 : Iv a1 0 5) (a2 : Int32) (ia2 : Iv a2 0 63) : oMet l A L τ cy D K yX6_tread cX6_tread 3 none 0 0 [.ref a0, .int a1, .int a2] σ (va_Qv (fun σ1 => oFr τ fs_X6_tread ts_X6_tread σ σ1) (oPo A L τ cy D) A) := by
  refine oMk (by decide) (Nat.le_of_ble_eq_true rfl) rfl ?_
  intro p e s m args below meth c ls cx rx hA hw hl
  generalize hQ : MQ below _ args s 0 0 A = Q
  have hx := cx.1.1
  have hb := cx.1.2.1
  have hml := cx.1.2.2.1
  have hown := cx.1.2.2.2.1
  have hts := cx.1.2.2.2.2
  have hl : lv_has ls 3 [(0, .ref a0), (1, .int a1), (2, .int a2)] := hl
  have fr : oFr τ fs_X6_tread ts_X6_tread σ σ := oFr_rf
  refine lv_aload_n hx hb dX6_tread_0 rfl (lv_at hl 0 rfl) ?_
  refine g_325 cx hw ha0 k_f_X6_27 dX6_tread_1 (fun v1 e1 h1 => ?_)
  refine lv_iload_n hx hb dX6_tread_4 rfl (lv_at hl 1 rfl) ?_
  refine lv_iload_n hx hb dX6_tread_5 rfl (lv_at hl 2 rfl) ?_
  refine o_iast cx hw h1 (by decide) rfl (iv_in ia1 (by decide)) (iv_w ia2 (by decide)) dX6_tread_6 (fun σ2 H locs eσ2 hw => ?_)
  have fr := oFr_p fr eσ2 h1 (by decide)
  refine lv_aload_n hx hb dX6_tread_7 rfl (lv_at hl 0 rfl) ?_
  refine g_323 cx hw ha0 k_f_X6_21 dX6_tread_8 (fun v3 e3 h3 => ?_)
  refine lv_iload_n hx hb dX6_tread_11 rfl (lv_at hl 2 rfl) ?_
  refine lv_aload_n hx hb dX6_tread_12 rfl (lv_at hl 0 rfl) ?_
  refine g_331 cx hw ha0 k_f_X6_52 dX6_tread_13 (fun v4 e4 => ?_)
  refine o_iast cx hw h3 (by decide) rfl (iv_in ia2 (by decide)) trivial dX6_tread_16 (fun σ5 H locs eσ5 hw => ?_)
  have fr := oFr_p fr eσ5 h3 (by decide)
  refine lv_aload_n hx hb dX6_tread_17 rfl (lv_at hl 0 rfl) ?_
  refine g_324 cx hw ha0 k_f_X6_24 dX6_tread_18 (fun v6 e6 h6 => ?_)
  refine lv_iload_n hx hb dX6_tread_21 rfl (lv_at hl 2 rfl) ?_
  refine lv_iload_n hx hb dX6_tread_22 rfl (lv_at hl 1 rfl) ?_
  refine o_iast cx hw h6 (by decide) rfl (iv_in ia2 (by decide)) trivial dX6_tread_23 (fun σ7 H locs eσ7 hw => ?_)
  have fr := oFr_p fr eσ7 h6 (by decide)
  refine lv_aload_n hx hb dX6_tread_24 rfl (lv_at hl 0 rfl) ?_
  refine lv_dup hx hb dX6_tread_25 rfl ?_
  refine g_329 cx hw ha0 k_f_X6_46 dX6_tread_26 (fun v8 e8 => ?_)
  refine lv_iconst (v := 1) hx hb dX6_tread_29 (by decide) ?_
  refine lv_iload_n hx hb dX6_tread_30 rfl (lv_at hl 1 rfl) ?_
  refine lv_ishl hx hb dX6_tread_31 ?_
  refine lv_topi (fun v9 e9 => ?_)
  have i9 : Iv v9 1 32 := iv_shl1 e9 ia1 (by decide)
  refine lv_iconst (v := (-1)) hx hb dX6_tread_32 (by decide) ?_
  refine lv_ixor hx hb dX6_tread_33 ?_
  refine lv_topi (fun v10 e10 => ?_)
  refine lv_iand hx hb dX6_tread_34 ?_
  refine lv_topi (fun v11 e11 => ?_)
  refine p_329 cx hw ha0 k_f_X6_46 dX6_tread_35 (fun σ12 H locs eσ12 hw => ?_)
  have fr := oFr_i fr eσ12 (by decide)
  rw [← hQ]
  exact o_rv cx rx hw dX6_tread_38 fr
abbrev fs_X6_addHerd : List Nat := [327, 328, 329]
abbrev ts_X6_addHerd : List Nat := [32, 33, 34]
set_option maxHeartbeats 4000000 in
set_option maxRecDepth 100000 in
theorem c_X6_addHerd (a0 : Nat) (ha0 : oA L τ a0 5) (a1 : Int32) (ia1 : Iv a1 0 63) (a2 : Int32) (a3 : Int32) (ia3 : Iv a3 0 1) : oMet l A L τ cy D K yX6_addHerd cX6_addHerd 5 none 1 22 [.ref a0, .int a1, .int a2, .int a3] σ (va_Qv (fun σ1 => oFr τ fs_X6_addHerd ts_X6_addHerd σ σ1) (oPo A L τ cy D) A) := by
  refine oMk (by decide) (Nat.le_of_ble_eq_true rfl) rfl ?_
  intro p e s m args below meth c ls cx rx hA hw hl
  generalize hQ : MQ below _ args s 0 0 A = Q
  have hx := cx.1.1
  have hb := cx.1.2.1
  have hml := cx.1.2.2.1
  have hown := cx.1.2.2.2.1
  have hts := cx.1.2.2.2.2
  have hl : lv_has ls 5 [(0, .ref a0), (1, .int a1), (2, .int a2), (3, .int a3)] := hl
  have fr : oFr τ fs_X6_addHerd ts_X6_addHerd σ σ := oFr_rf
  refine lv_aload_n hx hb dX6_addHerd_0 rfl (lv_at hl 0 rfl) ?_
  refine g_327 cx hw ha0 k_f_X6_39 dX6_addHerd_1 (fun v1 e1 i1 => ?_)
  refine lv_bipush (v := 6) hx hb dX6_addHerd_4 (by decide) ?_
  refine lv_icmp_lt (tgt := 10) hx hb dX6_addHerd_6 (by decide) (fun c2 => ?_) (fun c2 => ?_)
  · --
    have i3 : Iv v1 0 5 := iv_lt1 c2 i1 (⟨by decide, by decide⟩ : Iv 6 6 6) (by decide)
    refine lv_aload_n hx hb dX6_addHerd_10 rfl (lv_at hl 0 rfl) ?_
    refine g_327 cx hw ha0 k_f_X6_39 dX6_addHerd_11 (fun v4 e4 i4 => ?_)
    rw [show v4 = v1 from e4.trans e1.symm]
    refine lv_istore (lv' := [(4, .int v1), (0, .ref a0), (1, .int a1), (2, .int a2), (3, .int a3)]) hx hb dX6_addHerd_14 hl (by decide) rfl (fun ls hl => ?_)
    refine lv_aload_n hx hb dX6_addHerd_16 rfl (lv_at hl 1 rfl) ?_
    refine lv_dup hx hb dX6_addHerd_17 rfl ?_
    refine g_327 cx hw ha0 k_f_X6_39 dX6_addHerd_18 (fun v5 e5 i5 => ?_)
    rw [show v5 = v1 from e5.trans e1.symm]
    refine lv_iconst (v := 1) hx hb dX6_addHerd_21 (by decide) ?_
    refine lv_iadd hx hb dX6_addHerd_22 ?_
    refine lv_topi (fun v6 e6 => ?_)
    have i6 : Iv v6 1 6 := iv_add e6 i3 (⟨by decide, by decide⟩ : Iv 1 1 1) (by decide)
    have x6 : v6.toInt = v1.toInt + 1 := ex_add e6 i3 (⟨by decide, by decide⟩ : Iv 1 1 1) (by decide)
    refine p_327 cx hw ha0 (iv_w i6 (by decide)) k_f_X6_39 dX6_addHerd_23 (fun σ7 H locs eσ7 hw => ?_)
    have fr := oFr_i fr eσ7 (by decide)
    refine lv_aload_n hx hb dX6_addHerd_26 rfl (lv_at hl 1 rfl) ?_
    refine g_326 cx hw ha0 k_f_X6_30 dX6_addHerd_27 (fun v8 e8 h8 => ?_)
    refine lv_iload hx hb dX6_addHerd_30 (lv_at hl 0 rfl) ?_
    refine lv_iload_n hx hb dX6_addHerd_32 rfl (lv_at hl 3 rfl) ?_
    refine o_iast cx hw h8 (by decide) rfl (iv_in i3 (by decide)) trivial dX6_addHerd_33 (fun σ9 H locs eσ9 hw => ?_)
    have fr := oFr_p fr eσ9 h8 (by decide)
    refine lv_aload_n hx hb dX6_addHerd_34 rfl (lv_at hl 1 rfl) ?_
    refine lv_dup hx hb dX6_addHerd_35 rfl ?_
    refine g_328 cx hw ha0 k_f_X6_43 dX6_addHerd_36 (fun v10 e10 => ?_)
    refine lv_iload_n hx hb dX6_addHerd_39 rfl (lv_at hl 4 rfl) ?_
    have J_51 : ∀ (k51_2 : Int32) (ik51_2 : Iv k51_2 0 32), ∀ (H : Heap) (locs : List Loc), oI A L τ cy D s.heap σ9 H locs → ∀ (ls : Array Slot), lv_has ls 5 [(0, .ref a0), (1, .int a1), (2, .int a2), (3, .int a3), (4, .int v1)] → W p l e ({ frames := 1, cells := 0, slots := 0, locals := 22 } : Room) s m args below meth c H locs 0 0 Q (F0 m 51 ls [.int k51_2, .int v10, .ref a0]) := by
      intro k51_2 ik51_2 H locs hw     ls hl
      refine lv_ior hx hb dX6_addHerd_51 ?_
      refine lv_topi (fun v11 e11 => ?_)
      refine p_328 cx hw ha0 k_f_X6_43 dX6_addHerd_52 (fun σ12 H locs eσ12 hw => ?_)
      have fr := oFr_i fr eσ12 (by decide)
      refine lv_aload_n hx hb dX6_addHerd_55 rfl (lv_at hl 0 rfl) ?_
      refine lv_iload hx hb dX6_addHerd_56 (lv_at hl 4 rfl) ?_
      refine lv_iload_n hx hb dX6_addHerd_58 rfl (lv_at hl 1 rfl) ?_
      refine o_cv hw (oRunV cx hA hw q_X6_tread k_m_X6_61 rfl ha0 (by decide) (As := [.int v1, .int a1]) (c_X6_tread a0 ha0 v1 (iv_w i3 (by decide)) a1 (iv_w ia1 (by decide))) (by decide) rfl hl.1 rfl (Nat.le_of_ble_eq_true rfl) dX6_addHerd_59 (by decide)) (fun σ13 H locs hp hw => ?_)
      have p14_0 := hp
      have fr := oFr_tr fr p14_0 (by decide)
      refine lv_aload_n hx hb dX6_addHerd_62 rfl (lv_at hl 0 rfl) ?_
      refine lv_dup hx hb dX6_addHerd_63 rfl ?_
      refine g_329 cx hw ha0 k_f_X6_46 dX6_addHerd_64 (fun v15 e15 => ?_)
      refine lv_iconst (v := 1) hx hb dX6_addHerd_67 (by decide) ?_
      refine lv_iload hx hb dX6_addHerd_68 (lv_at hl 4 rfl) ?_
      refine lv_ishl hx hb dX6_addHerd_70 ?_
      refine lv_topi (fun v16 e16 => ?_)
      have i16 : Iv v16 1 32 := iv_shl1 e16 i3 (by decide)
      refine lv_ior hx hb dX6_addHerd_71 ?_
      refine lv_topi (fun v17 e17 => ?_)
      refine p_329 cx hw ha0 k_f_X6_46 dX6_addHerd_72 (fun σ18 H locs eσ18 hw => ?_)
      have fr := oFr_i fr eσ18 (by decide)
      rw [← hQ]
      exact o_rv cx rx hw dX6_addHerd_75 fr
    refine lv_if_eq (tgt := 50) hx hb dX6_addHerd_40 (by decide) (fun c19 => ?_) (fun c19 => ?_)
    · --
      have i20 : Iv a3 0 0 := iv_eq1 c19 ia3 (⟨by decide, by decide⟩ : Iv 0 0 0) (by decide)
      refine lv_iconst (v := 0) hx hb dX6_addHerd_50 (by decide) ?_
      exact J_51 0 (iv_w (⟨by decide, by decide⟩ : Iv 0 0 0) (by decide)) _ _ hw _ (lv_sub hl [1, 2, 3, 4, 0] rfl)
    · --
      have i21 : Iv a3 1 1 := iv_ne1 c19 ia3 (⟨by decide, by decide⟩ : Iv 0 0 0) (by decide)
      refine lv_iconst (v := 1) hx hb dX6_addHerd_43 (by decide) ?_
      refine lv_iload hx hb dX6_addHerd_44 (lv_at hl 0 rfl) ?_
      refine lv_ishl hx hb dX6_addHerd_46 ?_
      refine lv_topi (fun v22 e22 => ?_)
      have i22 : Iv v22 1 32 := iv_shl1 e22 i3 (by decide)
      refine lv_goto (tgt := 51) hx hb dX6_addHerd_47 (by decide) ?_
      exact J_51 v22 (iv_w i22 (by decide)) _ _ hw _ (lv_sub hl [1, 2, 3, 4, 0] rfl)
  · --
    have i23 : Iv v1 6 6 := iv_le2 (iv_nlt c2) (⟨by decide, by decide⟩ : Iv 6 6 6) i1 (by decide)
    rw [← hQ]
    exact o_rv cx rx hw dX6_addHerd_9 fr
abbrev fs_X10_readHerd : List Nat := [327, 328, 329, 386]
abbrev ts_X10_readHerd : List Nat := [32, 33, 34]
set_option maxHeartbeats 4000000 in
set_option maxRecDepth 100000 in
theorem c_X10_readHerd (a0 : Nat) (ha0 : oA L τ a0 9) : oMet l A L τ cy D K yX10_readHerd cX10_readHerd 3 (some .boolean) 4 90 [.ref a0] σ (va_Qi (fun r σ1 => oFr τ fs_X10_readHerd ts_X10_readHerd σ σ1 ∧ Iv r 0 1) (oPo A L τ cy D) A) := by
  refine oMk (by decide) (Nat.le_of_ble_eq_true rfl) rfl ?_
  intro p e s m args below meth c ls cx rx hA hw hl
  generalize hQ : MQ below _ args s 0 0 A = Q
  have hx := cx.1.1
  have hb := cx.1.2.1
  have hml := cx.1.2.2.1
  have hown := cx.1.2.2.2.1
  have hts := cx.1.2.2.2.2
  have hl : lv_has ls 3 [(0, .ref a0)] := hl
  have fr : oFr τ fs_X10_readHerd ts_X10_readHerd σ σ := oFr_rf
  refine lv_aload_n hx hb dX10_readHerd_0 rfl (lv_at hl 0 rfl) ?_
  refine g_582 cx hw ha0 k_f_X10_53 dX10_readHerd_1 (fun v1 e1 h1 => ?_)
  refine g_327 cx hw h1 k_f_X10_206 dX10_readHerd_4 (fun v2 e2 i2 => ?_)
  refine lv_bipush (v := 6) hx hb dX10_readHerd_7 (by decide) ?_
  refine lv_icmp_lt (tgt := 14) hx hb dX10_readHerd_9 (by decide) (fun c3 => ?_) (fun c3 => ?_)
  · --
    have i4 : Iv v2 0 5 := iv_lt1 c3 i2 (⟨by decide, by decide⟩ : Iv 6 6 6) (by decide)
    refine lv_aload_n hx hb dX10_readHerd_14 rfl (lv_at hl 0 rfl) ?_
    refine lv_aload_n hx hb dX10_readHerd_15 rfl (lv_at hl 0 rfl) ?_
    refine g_578 cx hw ha0 k_f_X10_26 dX10_readHerd_16 (fun v5 e5 h5 => ?_)
    refine g_64 cx hw h5 k_f_X10_121 dX10_readHerd_19 (fun v6 e6 => ?_)
    refine lv_aload_n hx hb dX10_readHerd_22 rfl (lv_at hl 0 rfl) ?_
    refine g_578 cx hw ha0 k_f_X10_26 dX10_readHerd_23 (fun v7 e7 h7 => ?_)
    rw [show v7 = v5 from Option.some.inj (e7.symm.trans (e5))]
    refine g_65 cx hw h5 k_f_X10_124 dX10_readHerd_26 (fun v8 e8 => ?_)
    refine o_ci hw (oRunV cx hA hw q_X10_readCell k_m_X10_238 rfl ha0 (by decide) (As := [.int v6, .int v8]) (c_X10_readCell a0 ha0 v6 v8) (by decide) rfl hl.1 rfl (Nat.le_of_ble_eq_true rfl) dX10_readHerd_29 (by decide)) (fun v10 σ9 H locs hp hw => ?_)
    have p10_0 := hp
    have fr := oFr_tr fr p10_0 (by decide)
    refine lv_istore_n (lv' := [(1, .int v10), (0, .ref a0)]) hx hb dX10_readHerd_32 rfl hl (by decide) rfl (fun ls hl => ?_)
    refine lv_iload_n hx hb dX10_readHerd_33 rfl (lv_at hl 0 rfl) ?_
    refine lv_iconst (v := (-1)) hx hb dX10_readHerd_34 (by decide) ?_
    refine lv_icmp_ne (tgt := 40) hx hb dX10_readHerd_35 (by decide) (fun c11 => ?_) (fun c11 => ?_)
    · --
      refine lv_aload_n hx hb dX10_readHerd_40 rfl (lv_at hl 1 rfl) ?_
      refine g_578 cx hw ha0 k_f_X10_26 dX10_readHerd_41 (fun v12 e12 h12 => ?_)
      rw [show v12 = v5 from Option.some.inj (e12.symm.trans (((kr_c p10_0 (by decide)).trans e5)))]
      refine lv_iload_n hx hb dX10_readHerd_44 rfl (lv_at hl 0 rfl) ?_
      refine o_ci hw (oRunV cx hA hw q_X2_isPlain k_m_X10_241 rfl h5 (by decide) (As := [.int v10]) (c_X2_isPlain v5 h5 v10) (by decide) rfl hl.1 rfl (Nat.le_of_ble_eq_true rfl) dX10_readHerd_45 (by decide)) (fun v14 σ13 H locs hp hw => ?_)
      obtain ⟨p14_0, p14_1, p14_2⟩ := hp
      rw [p14_0] at hw
      refine lv_if_ne (tgt := 60) hx hb dX10_readHerd_48 (by decide) (fun c15 => ?_) (fun c15 => ?_)
      · --
        have i16 : Iv v14 1 1 := iv_ne1 c15 p14_1 (⟨by decide, by decide⟩ : Iv 0 0 0) (by decide)
        have i17 : Iv v10 0 63 := p14_2 c15
        refine lv_aload_n hx hb dX10_readHerd_60 rfl (lv_at hl 1 rfl) ?_
        refine g_576 cx hw ha0 k_f_X10_10 dX10_readHerd_61 (fun v18 e18 h18 => ?_)
        refine lv_iconst (v := 0) hx hb dX10_readHerd_64 (by decide) ?_
        refine lv_bipush (v := 9) hx hb dX10_readHerd_65 (by decide) ?_
        refine o_ci hw (oRunV cx hA hw q_X7_digit k_m_X10_247 rfl h18 (by decide) (As := [.int 0, .int 9]) (c_X7_digit v18 h18 0 9) (by decide) rfl hl.1 rfl (Nat.le_of_ble_eq_true rfl) dX10_readHerd_67 (by decide)) (fun v20 σ19 H locs hp hw => ?_)
        have p20_0 := hp
        have fr := oFr_tr fr p20_0 (by decide)
        refine lv_istore_n (lv' := [(2, .int v20), (1, .int v10), (0, .ref a0)]) hx hb dX10_readHerd_70 rfl hl (by decide) rfl (fun ls hl => ?_)
        refine lv_iload_n hx hb dX10_readHerd_71 rfl (lv_at hl 0 rfl) ?_
        refine lv_iconst (v := (-1)) hx hb dX10_readHerd_72 (by decide) ?_
        refine lv_icmp_ne (tgt := 78) hx hb dX10_readHerd_73 (by decide) (fun c21 => ?_) (fun c21 => ?_)
        · --
          refine lv_aload_n hx hb dX10_readHerd_78 rfl (lv_at hl 2 rfl) ?_
          refine g_582 cx hw ha0 k_f_X10_53 dX10_readHerd_79 (fun v22 e22 h22 => ?_)
          rw [show v22 = v1 from Option.some.inj (e22.symm.trans (((kr_c p20_0 (by decide)).trans ((kr_c p10_0 (by decide)).trans e1))))]
          refine lv_iload_n hx hb dX10_readHerd_82 rfl (lv_at hl 1 rfl) ?_
          refine lv_iload_n hx hb dX10_readHerd_83 rfl (lv_at hl 0 rfl) ?_
          refine lv_aload_n hx hb dX10_readHerd_84 rfl (lv_at hl 2 rfl) ?_
          refine g_576 cx hw ha0 k_f_X10_10 dX10_readHerd_85 (fun v23 e23 h23 => ?_)
          rw [show v23 = v18 from Option.some.inj (e23.symm.trans (((kr_c p20_0 (by decide)).trans e18)))]
          refine lv_bipush (v := 42) hx hb dX10_readHerd_88 (by decide) ?_
          refine o_ci hw (oRunV cx hA hw q_X7_take k_m_X10_234 rfl h18 (by decide) (As := [.int 42]) (c_X7_take v18 h18 42 (iv_w (⟨by decide, by decide⟩ : Iv 42 42 42) (by decide))) (by decide) rfl hl.1 rfl (Nat.le_of_ble_eq_true rfl) dX10_readHerd_90 (by decide)) (fun v25 σ24 H locs hp hw => ?_)
          obtain ⟨p25_0, p25_1⟩ := hp
          have fr := oFr_tr fr p25_0 (by decide)
          refine o_cv hw (oRunV cx hA hw q_X6_addHerd k_m_X10_250 rfl h1 (by decide) (As := [.int v10, .int v20, .int v25]) (c_X6_addHerd v1 h1 v10 (iv_w i17 (by decide)) v20 v25 (iv_w p25_1 (by decide))) (by decide) rfl hl.1 rfl (Nat.le_of_ble_eq_true rfl) dX10_readHerd_93 (by decide)) (fun σ26 H locs hp hw => ?_)
          have p27_0 := hp
          have fr := oFr_tr fr p27_0 (by decide)
          refine lv_iconst (v := 1) hx hb dX10_readHerd_96 (by decide) ?_
          rw [← hQ]
          exact o_rz cx rx hw (iv_nz01 (iv_w (⟨by decide, by decide⟩ : Iv 1 1 1) (by decide))) dX10_readHerd_97 ⟨fr, (iv_w (⟨by decide, by decide⟩ : Iv 1 1 1) (by decide))⟩
        · --
          have i28 : Iv v20 (-1) (-1) := iv_eq1 c21 (iv_top v20) (⟨by decide, by decide⟩ : Iv (-1) (-1) (-1)) (by decide)
          refine lv_iconst (v := 0) hx hb dX10_readHerd_76 (by decide) ?_
          rw [← hQ]
          exact o_rz cx rx hw (iv_nz01 (iv_w (⟨by decide, by decide⟩ : Iv 0 0 0) (by decide))) dX10_readHerd_77 ⟨fr, (iv_w (⟨by decide, by decide⟩ : Iv 0 0 0) (by decide))⟩
      · --
        have i29 : Iv v14 0 0 := iv_eq1 c15 p14_1 (⟨by decide, by decide⟩ : Iv 0 0 0) (by decide)
        refine lv_aload_n hx hb dX10_readHerd_51 rfl (lv_at hl 1 rfl) ?_
        refine g_576 cx hw ha0 k_f_X10_10 dX10_readHerd_52 (fun v30 e30 h30 => ?_)
        refine o_cv hw (oRunV cx hA hw q_X7_stepBack k_m_X10_244 rfl h30 (by decide) (As := []) (c_X7_stepBack v30 h30) (by decide) rfl hl.1 rfl (Nat.le_of_ble_eq_true rfl) dX10_readHerd_55 (by decide)) (fun σ31 H locs hp hw => ?_)
        have p32_0 := hp
        have fr := oFr_tr fr p32_0 (by decide)
        refine lv_iconst (v := 0) hx hb dX10_readHerd_58 (by decide) ?_
        rw [← hQ]
        exact o_rz cx rx hw (iv_nz01 (iv_w (⟨by decide, by decide⟩ : Iv 0 0 0) (by decide))) dX10_readHerd_59 ⟨fr, (iv_w (⟨by decide, by decide⟩ : Iv 0 0 0) (by decide))⟩
    · --
      have i33 : Iv v10 (-1) (-1) := iv_eq1 c11 (iv_top v10) (⟨by decide, by decide⟩ : Iv (-1) (-1) (-1)) (by decide)
      refine lv_iconst (v := 0) hx hb dX10_readHerd_38 (by decide) ?_
      rw [← hQ]
      exact o_rz cx rx hw (iv_nz01 (iv_w (⟨by decide, by decide⟩ : Iv 0 0 0) (by decide))) dX10_readHerd_39 ⟨fr, (iv_w (⟨by decide, by decide⟩ : Iv 0 0 0) (by decide))⟩
  · --
    have i34 : Iv v2 6 6 := iv_le2 (iv_nlt c3) (⟨by decide, by decide⟩ : Iv 6 6 6) i2 (by decide)
    refine lv_iconst (v := 0) hx hb dX10_readHerd_12 (by decide) ?_
    rw [← hQ]
    exact o_rz cx rx hw (iv_nz01 (iv_w (⟨by decide, by decide⟩ : Iv 0 0 0) (by decide))) dX10_readHerd_13 ⟨fr, (iv_w (⟨by decide, by decide⟩ : Iv 0 0 0) (by decide))⟩
abbrev fs_X10_readHerds : List Nat := [327, 328, 329, 330, 331, 386, 387]
abbrev ts_X10_readHerds : List Nat := [32, 33, 34]
set_option maxHeartbeats 4000000 in
set_option maxRecDepth 100000 in
theorem c_X10_readHerds (a0 : Nat) (ha0 : oA L τ a0 9) : oMet l A L τ cy D K yX10_readHerds cX10_readHerds 2 (some .int) 5 112 [.ref a0] σ (va_Qi (fun r σ1 => oFr τ fs_X10_readHerds ts_X10_readHerds σ σ1) (oPo A L τ cy D) A) := by
  refine oMk (by decide) (Nat.le_of_ble_eq_true rfl) rfl ?_
  intro p e s m args below meth c ls cx rx hA hw hl
  generalize hQ : MQ below _ args s 0 0 A = Q
  have hx := cx.1.1
  have hb := cx.1.2.1
  have hml := cx.1.2.2.1
  have hown := cx.1.2.2.2.1
  have hts := cx.1.2.2.2.2
  have hl : lv_has ls 2 [(0, .ref a0)] := hl
  have fr : oFr τ fs_X10_readHerds ts_X10_readHerds σ σ := oFr_rf
  refine lv_aload_n hx hb dX10_readHerds_0 rfl (lv_at hl 0 rfl) ?_
  refine g_576 cx hw ha0 k_f_X10_10 dX10_readHerds_1 (fun v1 e1 h1 => ?_)
  refine lv_bipush (v := 76) hx hb dX10_readHerds_4 (by decide) ?_
  refine o_cv hw (oRunV cx hA hw q_X7_begin k_m_X10_220 rfl h1 (by decide) (As := [.int 76]) (c_X7_begin v1 h1 76) (by decide) rfl hl.1 rfl (Nat.le_of_ble_eq_true rfl) dX10_readHerds_6 (by decide)) (fun σ2 H locs hp hw => ?_)
  have p3_0 := hp
  have fr := oFr_tr fr p3_0 (by decide)
  refine lv_aload_n hx hb dX10_readHerds_9 rfl (lv_at hl 0 rfl) ?_
  refine g_576 cx hw ha0 k_f_X10_10 dX10_readHerds_10 (fun v4 e4 h4 => ?_)
  rw [show v4 = v1 from Option.some.inj (e4.symm.trans (((kr_c p3_0 (by decide)).trans e1)))]
  refine o_ci hw (oRunV cx hA hw q_X7_isAtEnd k_m_X10_224 rfl h1 (by decide) (As := []) (c_X7_isAtEnd v1 h1) (by decide) rfl hl.1 rfl (Nat.le_of_ble_eq_true rfl) dX10_readHerds_13 (by decide)) (fun v6 σ5 H locs hp hw => ?_)
  obtain ⟨p6_0, p6_1⟩ := hp
  rw [p6_0] at hw
  refine lv_if_eq (tgt := 21) hx hb dX10_readHerds_16 (by decide) (fun c7 => ?_) (fun c7 => ?_)
  · --
    have i8 : Iv v6 0 0 := iv_eq1 c7 p6_1 (⟨by decide, by decide⟩ : Iv 0 0 0) (by decide)
    refine lv_aload_n hx hb dX10_readHerds_21 rfl (lv_at hl 0 rfl) ?_
    refine g_582 cx hw ha0 k_f_X10_53 dX10_readHerds_22 (fun v9 e9 h9 => ?_)
    refine lv_aload_n hx hb dX10_readHerds_25 rfl (lv_at hl 0 rfl) ?_
    refine g_581 cx hw ha0 k_f_X10_49 dX10_readHerds_26 (fun v10 e10 h10 => ?_)
    refine o_cv hw (oRunV cx hA hw q_X6_copyFrom k_m_X10_131 rfl h9 (by decide) (As := [.ref v10]) (c_X6_copyFrom v9 h9 v10 h10) (by decide) rfl hl.1 rfl (Nat.le_of_ble_eq_true rfl) dX10_readHerds_29 (by decide)) (fun σ11 H locs hp hw => ?_)
    have p12_0 := hp
    have fr := oFr_tr fr p12_0 (by decide)
    refine lv_iconst (v := 1) hx hb dX10_readHerds_32 (by decide) ?_
    refine lv_istore_n (lv' := [(1, .int 1), (0, .ref a0)]) hx hb dX10_readHerds_33 rfl hl (by decide) rfl (fun ls hl => ?_)
    have frE_34 := fr
    have J_34 : ∀ n34 : Nat, ∀ (j34_1 : Int32) (ij34_1 : Iv j34_1 1 7), ∀ (σ_34 : oSt) (H : Heap) (locs : List Loc), oI A L τ cy D s.heap σ_34 H locs → oFr τ fs_X10_readHerds ts_X10_readHerds σ σ_34 → (7 - j34_1.toInt).toNat < n34 → ∀ (ls : Array Slot), lv_has ls 2 [(0, .ref a0), (1, .int j34_1)] → W p l e ({ frames := 5, cells := 0, slots := 0, locals := 112 } : Room) s m args below meth c H locs 0 0 Q (F0 m 34 ls []) := by
      intro n34
      induction n34 with
      | zero => intro j34_1 ij34_1 σ_34 H locs hw fr   hn_34   ls hl; exact absurd hn_34 (Nat.not_lt_zero _)
      | succ n34 ih_34 =>
        intro j34_1 ij34_1 σ_34 H locs hw fr   hn_34   ls hl
        have fr_34 := fr
        refine lv_iload_n hx hb dX10_readHerds_34 rfl (lv_at hl 1 rfl) ?_
        refine lv_bipush (v := 6) hx hb dX10_readHerds_35 (by decide) ?_
        refine lv_icmp_gt (tgt := 93) hx hb dX10_readHerds_37 (by decide) (fun c13 => ?_) (fun c13 => ?_)
        · --
          have i14 : Iv j34_1 7 7 := iv_lt2 c13 (⟨by decide, by decide⟩ : Iv 6 6 6) ij34_1 (by decide)
          refine lv_aload_n hx hb dX10_readHerds_93 rfl (lv_at hl 0 rfl) ?_
          refine g_576 cx hw ha0 k_f_X10_10 dX10_readHerds_94 (fun v15 e15 h15 => ?_)
          rw [show v15 = v1 from Option.some.inj (e15.symm.trans (((kr_c fr_34 (by decide)).trans ((kr_c frE_34 (by decide)).symm.trans (((kr_c p12_0 (by decide)).trans ((kr_c p3_0 (by decide)).trans e1)))))))]
          refine o_ci hw (oRunV cx hA hw q_X7_fault k_m_X10_231 rfl h1 (by decide) (As := []) (c_X7_fault v1 h1) (by decide) rfl hl.1 rfl (Nat.le_of_ble_eq_true rfl) dX10_readHerds_97 (by decide)) (fun v17 σ16 H locs hp hw => ?_)
          have p17_0 := hp
          rw [p17_0] at hw
          rw [← hQ]
          exact o_ri cx rx hw dX10_readHerds_100 fr
        · --
          have i18 : Iv j34_1 1 6 := iv_le1 (iv_nlt c13) ij34_1 (⟨by decide, by decide⟩ : Iv 6 6 6) (by decide)
          refine lv_aload_n hx hb dX10_readHerds_40 rfl (lv_at hl 0 rfl) ?_
          refine o_ci hw (oRunV cx hA hw q_X10_readHerd k_m_X10_228 rfl ha0 (by decide) (As := []) (c_X10_readHerd a0 ha0) (by decide) rfl hl.1 rfl (Nat.le_of_ble_eq_true rfl) dX10_readHerds_41 (by decide)) (fun v20 σ19 H locs hp hw => ?_)
          obtain ⟨p20_0, p20_1⟩ := hp
          have fr := oFr_tr fr p20_0 (by decide)
          refine lv_if_ne (tgt := 55) hx hb dX10_readHerds_44 (by decide) (fun c21 => ?_) (fun c21 => ?_)
          · --
            have i22 : Iv v20 1 1 := iv_ne1 c21 p20_1 (⟨by decide, by decide⟩ : Iv 0 0 0) (by decide)
            refine lv_aload_n hx hb dX10_readHerds_55 rfl (lv_at hl 0 rfl) ?_
            refine g_576 cx hw ha0 k_f_X10_10 dX10_readHerds_56 (fun v23 e23 h23 => ?_)
            rw [show v23 = v1 from Option.some.inj (e23.symm.trans (((kr_c p20_0 (by decide)).trans ((kr_c fr_34 (by decide)).trans ((kr_c frE_34 (by decide)).symm.trans (((kr_c p12_0 (by decide)).trans ((kr_c p3_0 (by decide)).trans e1))))))))]
            refine o_ci hw (oRunV cx hA hw q_X7_isAtEnd k_m_X10_224 rfl h1 (by decide) (As := []) (c_X7_isAtEnd v1 h1) (by decide) rfl hl.1 rfl (Nat.le_of_ble_eq_true rfl) dX10_readHerds_59 (by decide)) (fun v25 σ24 H locs hp hw => ?_)
            obtain ⟨p25_0, p25_1⟩ := hp
            rw [p25_0] at hw
            refine lv_if_eq (tgt := 67) hx hb dX10_readHerds_62 (by decide) (fun c26 => ?_) (fun c26 => ?_)
            · --
              have i27 : Iv v25 0 0 := iv_eq1 c26 p25_1 (⟨by decide, by decide⟩ : Iv 0 0 0) (by decide)
              refine lv_aload_n hx hb dX10_readHerds_67 rfl (lv_at hl 0 rfl) ?_
              refine g_576 cx hw ha0 k_f_X10_10 dX10_readHerds_68 (fun v28 e28 h28 => ?_)
              rw [show v28 = v1 from Option.some.inj (e28.symm.trans (((kr_c p20_0 (by decide)).trans ((kr_c fr_34 (by decide)).trans ((kr_c frE_34 (by decide)).symm.trans (((kr_c p12_0 (by decide)).trans ((kr_c p3_0 (by decide)).trans e1))))))))]
              refine lv_bipush (v := 59) hx hb dX10_readHerds_71 (by decide) ?_
              refine o_ci hw (oRunV cx hA hw q_X7_take k_m_X10_234 rfl h1 (by decide) (As := [.int 59]) (c_X7_take v1 h1 59 (iv_w (⟨by decide, by decide⟩ : Iv 59 59 59) (by decide))) (by decide) rfl hl.1 rfl (Nat.le_of_ble_eq_true rfl) dX10_readHerds_73 (by decide)) (fun v30 σ29 H locs hp hw => ?_)
              obtain ⟨p30_0, p30_1⟩ := hp
              have fr := oFr_tr fr p30_0 (by decide)
              refine lv_if_ne (tgt := 87) hx hb dX10_readHerds_76 (by decide) (fun c31 => ?_) (fun c31 => ?_)
              · --
                have i32 : Iv v30 1 1 := iv_ne1 c31 p30_1 (⟨by decide, by decide⟩ : Iv 0 0 0) (by decide)
                obtain ⟨v33, e33⟩ : ∃ y : Int32, y = j34_1 + 1 := ⟨_, rfl⟩
                have i33 : Iv v33 2 7 := iv_add e33 i18 (⟨by decide, by decide⟩ : Iv 1 1 1) (by decide)
                have x33 : v33.toInt = j34_1.toInt + 1 := ex_add e33 i18 (⟨by decide, by decide⟩ : Iv 1 1 1) (by decide)
                refine lv_iinc (v := v33) (lv' := [(1, .int v33), (0, .ref a0)]) hx hb dX10_readHerds_87 hl (k := 1) rfl (by rw [e33]; rfl) (by decide) rfl (fun ls hl => ?_)
                refine lv_goto (tgt := 34) hx hb dX10_readHerds_90 (by decide) ?_
                exact ih_34 v33 (iv_w i33 (by decide)) σ29 _ _ hw fr (ms_up x33 (by decide) (iv_w (a' := 1) (b' := 7) i33 (by decide)).2 hn_34) _ (lv_sub hl [1, 0] rfl)
              · --
                have i34 : Iv v30 0 0 := iv_eq1 c31 p30_1 (⟨by decide, by decide⟩ : Iv 0 0 0) (by decide)
                refine lv_aload_n hx hb dX10_readHerds_79 rfl (lv_at hl 0 rfl) ?_
                refine g_576 cx hw ha0 k_f_X10_10 dX10_readHerds_80 (fun v35 e35 h35 => ?_)
                rw [show v35 = v1 from Option.some.inj (e35.symm.trans (((kr_c p30_0 (by decide)).trans ((kr_c p20_0 (by decide)).trans ((kr_c fr_34 (by decide)).trans ((kr_c frE_34 (by decide)).symm.trans (((kr_c p12_0 (by decide)).trans ((kr_c p3_0 (by decide)).trans e1)))))))))]
                refine o_ci hw (oRunV cx hA hw q_X7_fault k_m_X10_231 rfl h1 (by decide) (As := []) (c_X7_fault v1 h1) (by decide) rfl hl.1 rfl (Nat.le_of_ble_eq_true rfl) dX10_readHerds_83 (by decide)) (fun v37 σ36 H locs hp hw => ?_)
                have p37_0 := hp
                rw [p37_0] at hw
                rw [← hQ]
                exact o_ri cx rx hw dX10_readHerds_86 fr
            · --
              have i38 : Iv v25 1 1 := iv_ne1 c26 p25_1 (⟨by decide, by decide⟩ : Iv 0 0 0) (by decide)
              refine lv_iload_n hx hb dX10_readHerds_65 rfl (lv_at hl 1 rfl) ?_
              rw [← hQ]
              exact o_ri cx rx hw dX10_readHerds_66 fr
          · --
            have i39 : Iv v20 0 0 := iv_eq1 c21 p20_1 (⟨by decide, by decide⟩ : Iv 0 0 0) (by decide)
            refine lv_aload_n hx hb dX10_readHerds_47 rfl (lv_at hl 0 rfl) ?_
            refine g_576 cx hw ha0 k_f_X10_10 dX10_readHerds_48 (fun v40 e40 h40 => ?_)
            rw [show v40 = v1 from Option.some.inj (e40.symm.trans (((kr_c p20_0 (by decide)).trans ((kr_c fr_34 (by decide)).trans ((kr_c frE_34 (by decide)).symm.trans (((kr_c p12_0 (by decide)).trans ((kr_c p3_0 (by decide)).trans e1))))))))]
            refine o_ci hw (oRunV cx hA hw q_X7_fault k_m_X10_231 rfl h1 (by decide) (As := []) (c_X7_fault v1 h1) (by decide) rfl hl.1 rfl (Nat.le_of_ble_eq_true rfl) dX10_readHerds_51 (by decide)) (fun v42 σ41 H locs hp hw => ?_)
            have p42_0 := hp
            rw [p42_0] at hw
            rw [← hQ]
            exact o_ri cx rx hw dX10_readHerds_54 fr
    exact J_34 _ 1 (iv_w (⟨by decide, by decide⟩ : Iv 1 1 1) (by decide)) σ11 _ _ hw fr (Nat.lt_succ_self _) _ (lv_sub hl [1, 0] rfl)
  · --
    have i43 : Iv v6 1 1 := iv_ne1 c7 p6_1 (⟨by decide, by decide⟩ : Iv 0 0 0) (by decide)
    refine lv_iconst (v := 0) hx hb dX10_readHerds_19 (by decide) ?_
    rw [← hQ]
    exact o_ri cx rx hw dX10_readHerds_20 fr
end OM
