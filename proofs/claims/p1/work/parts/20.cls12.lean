section OM
variable {l : Launch} {A : Nat → Prop} {L : List Nat} {τ : Nat → Nat} {cy : Nat → ClassId} {D : va_G} {K : (Nat → Nat) × (Nat → Nat)} {σ : oSt}
set_option maxHeartbeats 4000000 in
set_option maxRecDepth 100000 in
theorem c_X11_sumR (n : Nat) (IH2 : P_X11_productR l A L τ cy D K n) : P_X11_sumR l A L τ cy D K (n) := by
  intro σ a0 ha0 a1 ia1 b0 hF0 hb0 hf660 hm
  refine oMk (by decide) (Nat.le_of_ble_eq_true rfl) rfl ?_
  intro p e s m args below meth c ls cx rx hA hw hl
  generalize hQ : MQ below _ args s 0 0 A = Q
  have hx := cx.1.1
  have hb := cx.1.2.1
  have hml := cx.1.2.2.1
  have hown := cx.1.2.2.2.1
  have hts := cx.1.2.2.2.2
  have hl : lv_has ls 5 [(0, .ref a0), (1, .int a1)] := hl
  have fr : oFr τ fs_X11_sumR ts_X11_sumR σ σ := oFr_rf
  refine lv_aload_n hx hb dX11_sum_0 rfl (lv_at hl 0 rfl) ?_
  refine lv_iload_n hx hb dX11_sum_1 rfl (lv_at hl 1 rfl) ?_
  have i1 : Iv (σ.1 662 a0) 0 200 := o_fb (j := 662) hw ha0 rfl
  have i2 : Iv (σ.1 663 a0) (-1) 200 := o_fb (j := 663) hw ha0 rfl
  have i3 : Iv (σ.1 661 a0) 0 80 := o_fb (j := 661) hw ha0 rfl
  refine o_ci hw (oRunV cx hA hw q_X11_product k_m_X11_189 rfl ha0 (by decide) (As := [.int a1]) (IH2 _ a0 ha0 a1 (iv_w ia1 (by decide)) b0 (hF0) hb0 (kn_iv (rfl) (iv_w hf660 (by decide))) (by have := (ia1).1; have := (ia1).2; have := (hf660).1; have := (hf660).2; have := (i1).1; have := (i1).2; have := (i2).1; have := (i2).2; have := (i3).1; have := (i3).2; omega)) (by constructor <;> (dsimp only; omega)) rfl hl.1 rfl (Nat.le_of_ble_eq_true rfl) dX11_sum_2 ⟨Nat.le_refl 0, Nat.le_refl 0⟩) (fun v5 σ4 H locs hp hw => ?_)
  obtain ⟨p5_0, p5_1, p5_2⟩ := hp
  have fr := oFr_tr fr p5_0 (by decide)
  have i6 : Iv (σ4.1 662 a0) 0 200 := o_fb (j := 662) hw ha0 rfl
  have i7 : Iv (σ4.1 663 a0) (-1) 200 := o_fb (j := 663) hw ha0 rfl
  refine lv_istore_n (lv' := [(2, .int v5), (0, .ref a0), (1, .int a1)]) hx hb dX11_sum_5 rfl hl (by decide) rfl (fun ls hl => ?_)
  have J_6 : ∀ n6 : Nat, ∀ (H : Heap) (locs : List Loc), oI A L τ cy D s.heap σ4 H locs → ((σ4.1 660 a0).toInt - (σ4.1 662 a0).toInt).toNat < n6 → ((σ.1 662 a0).toInt ≤ (σ4.1 662 a0).toInt) → ((σ.1 662 a0).toInt ≤ (σ.1 661 a0).toInt → (σ4.1 662 a0).toInt ≤ (σ.1 661 a0).toInt) → ∀ (ls : Array Slot), lv_has ls 5 [(0, .ref a0), (1, .int a1), (2, .int v5)] → W p l e ({ frames := 4 * (n) + 12, cells := 0, slots := 0, locals := 100 * (n) + 348 } : Room) s m args below meth c H locs 0 0 Q (F0 m 6 ls []) := by
    intro n6
    induction n6 with
    | zero => intro  H locs hw  hn_6 mo_6 to_6  ls hl; exact absurd hn_6 (Nat.not_lt_zero _)
    | succ n6 ih_6 =>
      intro  H locs hw  hn_6 mo_6 to_6  ls hl
      refine lv_aload_n hx hb dX11_sum_6 rfl (lv_at hl 0 rfl) ?_
      refine o_ci hw (oRunV cx hA hw q_X11_fine k_m_X11_126 rfl ha0 (by decide) (As := []) (c_X11_fine a0 ha0) (by constructor <;> (dsimp only; omega)) rfl hl.1 rfl (Nat.le_of_ble_eq_true rfl) dX11_sum_7 ⟨Nat.le_refl 0, Nat.le_refl 0⟩) (fun v9 σ8 H locs hp hw => ?_)
      obtain ⟨p9_0, p9_1, p9_2⟩ := hp
      rw [p9_0] at hw
      refine lv_if_eq (tgt := 82) hx hb dX11_sum_10 (by decide) (fun c10 => ?_) (fun c10 => ?_)
      · --
        have i11 : Iv (σ4.1 663 a0) 0 200 := (fun h => (by have := z_ti h; have := (ia1).1; have := (ia1).2; have := (p9_1).1; have := (p9_1).2; have := (hf660).1; have := (hf660).2; have := (i3).1; have := (i3).2; have := (i6).1; have := (i6).2; have := (i7).1; have := (i7).2; have := (i1).1; have := (i1).2; have := (i2).1; have := (i2).2; have : (σ4.1 660 a0).toInt = ((σ.1 660 a0) : Int32).toInt := congrArg Int32.toInt (show σ4.1 660 a0 = (σ.1 660 a0) from ((kp_c p5_0 (by decide)).trans rfl)); have : (σ4.1 661 a0).toInt = ((σ.1 661 a0) : Int32).toInt := congrArg Int32.toInt (show σ4.1 661 a0 = (σ.1 661 a0) from ((kp_c p5_0 (by decide)).trans rfl)); exact ⟨by omega, by omega⟩)) c10
        have i12 : Iv v9 0 0 := iv_eq1 c10 p9_1 (⟨by decide, by decide⟩ : Iv 0 0 0) (by decide)
        refine lv_iload_n hx hb dX11_sum_82 rfl (lv_at hl 2 rfl) ?_
        rw [← hQ]
        exact o_ri cx rx hw dX11_sum_83 ⟨fr, (by exact (by have := (ia1).1; have := (ia1).2; have := (hf660).1; have := (hf660).2; have := (i3).1; have := (i3).2; have := (i6).1; have := (i6).2; have := (i11).1; have := (i11).2; have := (i1).1; have := (i1).2; have := (i2).1; have := (i2).2; have := (i12).1; have := (i12).2; have : (σ4.1 660 a0).toInt = ((σ.1 660 a0) : Int32).toInt := congrArg Int32.toInt (show σ4.1 660 a0 = (σ.1 660 a0) from ((kp_c p5_0 (by decide)).trans rfl)); have : (σ4.1 661 a0).toInt = ((σ.1 661 a0) : Int32).toInt := congrArg Int32.toInt (show σ4.1 661 a0 = (σ.1 661 a0) from ((kp_c p5_0 (by decide)).trans rfl)); have : (v9 : Int32).toInt = (0 : Int32).toInt := congrArg Int32.toInt c10; have : (0 : Int32).toInt = 0 := (by decide); omega)), (by exact (by have := (ia1).1; have := (ia1).2; have := (hf660).1; have := (hf660).2; have := (i3).1; have := (i3).2; have := (i6).1; have := (i6).2; have := (i11).1; have := (i11).2; have := (i1).1; have := (i1).2; have := (i2).1; have := (i2).2; have := (i12).1; have := (i12).2; have : (σ4.1 660 a0).toInt = ((σ.1 660 a0) : Int32).toInt := congrArg Int32.toInt (show σ4.1 660 a0 = (σ.1 660 a0) from ((kp_c p5_0 (by decide)).trans rfl)); have : (σ4.1 661 a0).toInt = ((σ.1 661 a0) : Int32).toInt := congrArg Int32.toInt (show σ4.1 661 a0 = (σ.1 661 a0) from ((kp_c p5_0 (by decide)).trans rfl)); have : (v9 : Int32).toInt = (0 : Int32).toInt := congrArg Int32.toInt c10; have : (0 : Int32).toInt = 0 := (by decide); omega))⟩
      · --
        have i13 : Iv v9 1 1 := iv_ne1 c10 p9_1 (⟨by decide, by decide⟩ : Iv 0 0 0) (by decide)
        have i14 : Iv (σ4.1 663 a0) (-1) (-1) := (fun h => (by have := nz_ti h; have := (ia1).1; have := (ia1).2; have := (p9_1).1; have := (p9_1).2; have := (hf660).1; have := (hf660).2; have := (i3).1; have := (i3).2; have := (i6).1; have := (i6).2; have := (i7).1; have := (i7).2; have := (i1).1; have := (i1).2; have := (i2).1; have := (i2).2; have : (σ4.1 660 a0).toInt = ((σ.1 660 a0) : Int32).toInt := congrArg Int32.toInt (show σ4.1 660 a0 = (σ.1 660 a0) from ((kp_c p5_0 (by decide)).trans rfl)); have : (σ4.1 661 a0).toInt = ((σ.1 661 a0) : Int32).toInt := congrArg Int32.toInt (show σ4.1 661 a0 = (σ.1 661 a0) from ((kp_c p5_0 (by decide)).trans rfl)); exact ⟨by omega, by omega⟩)) c10
        refine lv_aload_n hx hb dX11_sum_13 rfl (lv_at hl 0 rfl) ?_
        have z15 : (σ4.1 660 a0).toInt = ((σ.1 660 a0) : Int32).toInt := congrArg Int32.toInt (show σ4.1 660 a0 = (σ.1 660 a0) from ((kp_c p5_0 (by decide)).trans rfl))
        have z16 : (σ4.1 661 a0).toInt = ((σ.1 661 a0) : Int32).toInt := congrArg Int32.toInt (show σ4.1 661 a0 = (σ.1 661 a0) from ((kp_c p5_0 (by decide)).trans rfl))
        refine o_ci hw (oRunV cx hA hw q_X11_here k_m_X11_130 rfl ha0 (by decide) (As := []) (c_X11_hereR a0 ha0 b0 (((kr_c p5_0 (by decide)).trans hF0)) hb0 (kn_iv (((kp_c p5_0 (by decide)).trans rfl)) (iv_w hf660 (by decide)))) (by constructor <;> (dsimp only; omega)) rfl hl.1 rfl (Nat.le_of_ble_eq_true rfl) dX11_sum_14 ⟨Nat.le_refl 0, Nat.le_refl 0⟩) (fun v18 σ17 H locs hp hw => ?_)
        obtain ⟨p18_0, p18_1, p18_2, p18_3, p18_4, p18_5, p18_6⟩ := hp
        rw [p18_0] at hw
        have hnv18 := congrArg Int32.toInt p18_6
        refine lv_bipush (v := 43) hx hb dX11_sum_17 (by decide) ?_
        refine lv_icmp_eq (tgt := 31) hx hb dX11_sum_19 (by decide) (fun c19 => ?_) (fun c19 => ?_)
        · --
          exact iv_no (iv_eq1 (lo := 43) (hi := (-1)) c19 p18_1 (⟨by decide, by decide⟩ : Iv 43 43 43) (by decide)) (by decide)
        · --
          refine lv_aload_n hx hb dX11_sum_22 rfl (lv_at hl 0 rfl) ?_
          have z20 : (σ4.1 660 a0).toInt = ((σ.1 660 a0) : Int32).toInt := congrArg Int32.toInt (show σ4.1 660 a0 = (σ.1 660 a0) from ((kp_c p5_0 (by decide)).trans rfl))
          have z21 : (σ4.1 661 a0).toInt = ((σ.1 661 a0) : Int32).toInt := congrArg Int32.toInt (show σ4.1 661 a0 = (σ.1 661 a0) from ((kp_c p5_0 (by decide)).trans rfl))
          refine o_ci hw (oRunV cx hA hw q_X11_here k_m_X11_130 rfl ha0 (by decide) (As := []) (c_X11_hereR a0 ha0 b0 (((kr_c p5_0 (by decide)).trans hF0)) hb0 (kn_iv (((kp_c p5_0 (by decide)).trans rfl)) (iv_w hf660 (by decide)))) (by constructor <;> (dsimp only; omega)) rfl hl.1 rfl (Nat.le_of_ble_eq_true rfl) dX11_sum_23 ⟨Nat.le_refl 0, Nat.le_refl 0⟩) (fun v23 σ22 H locs hp hw => ?_)
          obtain ⟨p23_0, p23_1, p23_2, p23_3, p23_4, p23_5, p23_6⟩ := hp
          rw [p23_0] at hw
          have hnv23 := congrArg Int32.toInt p23_6
          refine lv_bipush (v := 45) hx hb dX11_sum_26 (by decide) ?_
          refine lv_icmp_ne (tgt := 82) hx hb dX11_sum_28 (by decide) (fun c24 => ?_) (fun c24 => ?_)
          · --
            refine lv_iload_n hx hb dX11_sum_82 rfl (lv_at hl 2 rfl) ?_
            rw [← hQ]
            exact o_ri cx rx hw dX11_sum_83 ⟨fr, (by exact (by have := (ia1).1; have := (ia1).2; have := (hf660).1; have := (hf660).2; have := (i3).1; have := (i3).2; have := (i6).1; have := (i6).2; have := (i14).1; have := (i14).2; have := (i1).1; have := (i1).2; have := (i2).1; have := (i2).2; have := (i13).1; have := (i13).2; have := (p18_1).1; have := (p18_1).2; have := (p23_1).1; have := (p23_1).2; have : (σ4.1 660 a0).toInt = ((σ.1 660 a0) : Int32).toInt := congrArg Int32.toInt (show σ4.1 660 a0 = (σ.1 660 a0) from ((kp_c p5_0 (by decide)).trans rfl)); have : (σ4.1 661 a0).toInt = ((σ.1 661 a0) : Int32).toInt := congrArg Int32.toInt (show σ4.1 661 a0 = (σ.1 661 a0) from ((kp_c p5_0 (by decide)).trans rfl)); omega)), (by exact (by have := (ia1).1; have := (ia1).2; have := (hf660).1; have := (hf660).2; have := (i3).1; have := (i3).2; have := (i6).1; have := (i6).2; have := (i14).1; have := (i14).2; have := (i1).1; have := (i1).2; have := (i2).1; have := (i2).2; have := (i13).1; have := (i13).2; have := (p18_1).1; have := (p18_1).2; have := (p23_1).1; have := (p23_1).2; have : (σ4.1 660 a0).toInt = ((σ.1 660 a0) : Int32).toInt := congrArg Int32.toInt (show σ4.1 660 a0 = (σ.1 660 a0) from ((kp_c p5_0 (by decide)).trans rfl)); have : (σ4.1 661 a0).toInt = ((σ.1 661 a0) : Int32).toInt := congrArg Int32.toInt (show σ4.1 661 a0 = (σ.1 661 a0) from ((kp_c p5_0 (by decide)).trans rfl)); omega))⟩
          · --
            exact iv_no (iv_eq1 (lo := 45) (hi := (-1)) c24 p23_1 (⟨by decide, by decide⟩ : Iv 45 45 45) (by decide)) (by decide)
  exact J_6 _ _ _ hw (Nat.lt_succ_self _) (by have := (ia1).1; have := (ia1).2; have := (hf660).1; have := (hf660).2; have := (i3).1; have := (i3).2; have := (i6).1; have := (i6).2; have := (i7).1; have := (i7).2; have := (i1).1; have := (i1).2; have := (i2).1; have := (i2).2; have : (σ4.1 660 a0).toInt = ((σ.1 660 a0) : Int32).toInt := congrArg Int32.toInt (show σ4.1 660 a0 = (σ.1 660 a0) from ((kp_c p5_0 (by decide)).trans rfl)); have : (σ4.1 661 a0).toInt = ((σ.1 661 a0) : Int32).toInt := congrArg Int32.toInt (show σ4.1 661 a0 = (σ.1 661 a0) from ((kp_c p5_0 (by decide)).trans rfl)); omega) (by have := (ia1).1; have := (ia1).2; have := (hf660).1; have := (hf660).2; have := (i3).1; have := (i3).2; have := (i6).1; have := (i6).2; have := (i7).1; have := (i7).2; have := (i1).1; have := (i1).2; have := (i2).1; have := (i2).2; have : (σ4.1 660 a0).toInt = ((σ.1 660 a0) : Int32).toInt := congrArg Int32.toInt (show σ4.1 660 a0 = (σ.1 660 a0) from ((kp_c p5_0 (by decide)).trans rfl)); have : (σ4.1 661 a0).toInt = ((σ.1 661 a0) : Int32).toInt := congrArg Int32.toInt (show σ4.1 661 a0 = (σ.1 661 a0) from ((kp_c p5_0 (by decide)).trans rfl)); omega) _ (lv_sub hl [1, 2, 0] rfl)
set_option maxHeartbeats 4000000 in
set_option maxRecDepth 100000 in
theorem c_X11_heldR (n : Nat) (IH3 : P_X11_sumR l A L τ cy D K n) : P_X11_heldR l A L τ cy D K (n) := by
  intro σ a0 ha0 a1 ia1 b0 hF0 hb0 hf660 hm
  refine oMk (by decide) (Nat.le_of_ble_eq_true rfl) rfl ?_
  intro p e s m args below meth c ls cx rx hA hw hl
  generalize hQ : MQ below _ args s 0 0 A = Q
  have hx := cx.1.1
  have hb := cx.1.2.1
  have hml := cx.1.2.2.1
  have hown := cx.1.2.2.2.1
  have hts := cx.1.2.2.2.2
  have hl : lv_has ls 3 [(0, .ref a0), (1, .int a1)] := hl
  have fr : oFr τ fs_X11_heldR ts_X11_heldR σ σ := oFr_rf
  refine lv_aload_n hx hb dX11_held_0 rfl (lv_at hl 0 rfl) ?_
  refine lv_iload_n hx hb dX11_held_1 rfl (lv_at hl 1 rfl) ?_
  have i1 : Iv (σ.1 662 a0) 0 200 := o_fb (j := 662) hw ha0 rfl
  have i2 : Iv (σ.1 663 a0) (-1) 200 := o_fb (j := 663) hw ha0 rfl
  have i3 : Iv (σ.1 661 a0) 0 80 := o_fb (j := 661) hw ha0 rfl
  refine o_ci hw (oRunV cx hA hw q_X11_sum k_m_X11_185 rfl ha0 (by decide) (As := [.int a1]) (IH3 _ a0 ha0 a1 (iv_w ia1 (by decide)) b0 (hF0) hb0 (kn_iv (rfl) (iv_w hf660 (by decide))) (by have := (ia1).1; have := (ia1).2; have := (hf660).1; have := (hf660).2; have := (i1).1; have := (i1).2; have := (i2).1; have := (i2).2; have := (i3).1; have := (i3).2; omega)) (by constructor <;> (dsimp only; omega)) rfl hl.1 rfl (Nat.le_of_ble_eq_true rfl) dX11_held_2 ⟨Nat.le_refl 0, Nat.le_refl 0⟩) (fun v5 σ4 H locs hp hw => ?_)
  obtain ⟨p5_0, p5_1, p5_2⟩ := hp
  have fr := oFr_tr fr p5_0 (by decide)
  have i6 : Iv (σ4.1 662 a0) 0 200 := o_fb (j := 662) hw ha0 rfl
  have i7 : Iv (σ4.1 663 a0) (-1) 200 := o_fb (j := 663) hw ha0 rfl
  refine lv_istore_n (lv' := [(2, .int v5), (0, .ref a0), (1, .int a1)]) hx hb dX11_held_5 rfl hl (by decide) rfl (fun ls hl => ?_)
  refine lv_aload_n hx hb dX11_held_6 rfl (lv_at hl 1 rfl) ?_
  refine lv_bipush (v := 60) hx hb dX11_held_7 (by decide) ?_
  have z8 : (σ4.1 660 a0).toInt = ((σ.1 660 a0) : Int32).toInt := congrArg Int32.toInt (show σ4.1 660 a0 = (σ.1 660 a0) from ((kp_c p5_0 (by decide)).trans rfl))
  have z9 : (σ4.1 661 a0).toInt = ((σ.1 661 a0) : Int32).toInt := congrArg Int32.toInt (show σ4.1 661 a0 = (σ.1 661 a0) from ((kp_c p5_0 (by decide)).trans rfl))
  refine o_ci hw (oRunV cx hA hw q_X11_passes k_m_X11_134 rfl ha0 (by decide) (As := [.int 60]) (c_X11_passesR a0 ha0 60 (iv_w (⟨by decide, by decide⟩ : Iv 60 60 60) (by decide)) b0 (((kr_c p5_0 (by decide)).trans hF0)) hb0 (kn_iv (((kp_c p5_0 (by decide)).trans rfl)) (iv_w hf660 (by decide)))) (by constructor <;> (dsimp only; omega)) rfl hl.1 rfl (Nat.le_of_ble_eq_true rfl) dX11_held_9 ⟨Nat.le_refl 0, Nat.le_refl 0⟩) (fun v11 σ10 H locs hp hw => ?_)
  obtain ⟨p11_0, p11_1, p11_2, p11_3, p11_4, p11_5⟩ := hp
  rw [p11_0] at hw
  refine lv_if_eq (tgt := 30) hx hb dX11_held_12 (by decide) (fun c12 => ?_) (fun c12 => ?_)
  · --
    refine lv_aload_n hx hb dX11_held_30 rfl (lv_at hl 1 rfl) ?_
    refine lv_bipush (v := 62) hx hb dX11_held_31 (by decide) ?_
    have z13 : (σ4.1 660 a0).toInt = ((σ.1 660 a0) : Int32).toInt := congrArg Int32.toInt (show σ4.1 660 a0 = (σ.1 660 a0) from ((kp_c p5_0 (by decide)).trans rfl))
    have z14 : (σ4.1 661 a0).toInt = ((σ.1 661 a0) : Int32).toInt := congrArg Int32.toInt (show σ4.1 661 a0 = (σ.1 661 a0) from ((kp_c p5_0 (by decide)).trans rfl))
    refine o_ci hw (oRunV cx hA hw q_X11_passes k_m_X11_134 rfl ha0 (by decide) (As := [.int 62]) (c_X11_passesR a0 ha0 62 (iv_w (⟨by decide, by decide⟩ : Iv 62 62 62) (by decide)) b0 (((kr_c p5_0 (by decide)).trans hF0)) hb0 (kn_iv (((kp_c p5_0 (by decide)).trans rfl)) (iv_w hf660 (by decide)))) (by constructor <;> (dsimp only; omega)) rfl hl.1 rfl (Nat.le_of_ble_eq_true rfl) dX11_held_33 ⟨Nat.le_refl 0, Nat.le_refl 0⟩) (fun v16 σ15 H locs hp hw => ?_)
    obtain ⟨p16_0, p16_1, p16_2, p16_3, p16_4, p16_5⟩ := hp
    rw [p16_0] at hw
    refine lv_if_eq (tgt := 54) hx hb dX11_held_36 (by decide) (fun c17 => ?_) (fun c17 => ?_)
    · --
      refine lv_aload_n hx hb dX11_held_54 rfl (lv_at hl 1 rfl) ?_
      refine lv_bipush (v := 61) hx hb dX11_held_55 (by decide) ?_
      have z18 : (σ4.1 660 a0).toInt = ((σ.1 660 a0) : Int32).toInt := congrArg Int32.toInt (show σ4.1 660 a0 = (σ.1 660 a0) from ((kp_c p5_0 (by decide)).trans rfl))
      have z19 : (σ4.1 661 a0).toInt = ((σ.1 661 a0) : Int32).toInt := congrArg Int32.toInt (show σ4.1 661 a0 = (σ.1 661 a0) from ((kp_c p5_0 (by decide)).trans rfl))
      refine o_ci hw (oRunV cx hA hw q_X11_passes k_m_X11_134 rfl ha0 (by decide) (As := [.int 61]) (c_X11_passesR a0 ha0 61 (iv_w (⟨by decide, by decide⟩ : Iv 61 61 61) (by decide)) b0 (((kr_c p5_0 (by decide)).trans hF0)) hb0 (kn_iv (((kp_c p5_0 (by decide)).trans rfl)) (iv_w hf660 (by decide)))) (by constructor <;> (dsimp only; omega)) rfl hl.1 rfl (Nat.le_of_ble_eq_true rfl) dX11_held_57 ⟨Nat.le_refl 0, Nat.le_refl 0⟩) (fun v21 σ20 H locs hp hw => ?_)
      obtain ⟨p21_0, p21_1, p21_2, p21_3, p21_4, p21_5⟩ := hp
      rw [p21_0] at hw
      refine lv_if_eq (tgt := 78) hx hb dX11_held_60 (by decide) (fun c22 => ?_) (fun c22 => ?_)
      · --
        refine lv_iload_n hx hb dX11_held_78 rfl (lv_at hl 0 rfl) ?_
        rw [← hQ]
        exact o_ri cx rx hw dX11_held_79 ⟨fr, (by exact (by have := (ia1).1; have := (ia1).2; have := (hf660).1; have := (hf660).2; have := (i3).1; have := (i3).2; have := (i6).1; have := (i6).2; have := (i7).1; have := (i7).2; have := (i1).1; have := (i1).2; have := (i2).1; have := (i2).2; have := (p11_1).1; have := (p11_1).2; have := (p16_1).1; have := (p16_1).2; have := (p21_1).1; have := (p21_1).2; have : (σ4.1 660 a0).toInt = ((σ.1 660 a0) : Int32).toInt := congrArg Int32.toInt (show σ4.1 660 a0 = (σ.1 660 a0) from ((kp_c p5_0 (by decide)).trans rfl)); have : (σ4.1 661 a0).toInt = ((σ.1 661 a0) : Int32).toInt := congrArg Int32.toInt (show σ4.1 661 a0 = (σ.1 661 a0) from ((kp_c p5_0 (by decide)).trans rfl)); have : (v11 : Int32).toInt = (0 : Int32).toInt := congrArg Int32.toInt c12; have : (v16 : Int32).toInt = (0 : Int32).toInt := congrArg Int32.toInt c17; have : (v21 : Int32).toInt = (0 : Int32).toInt := congrArg Int32.toInt c22; have : (0 : Int32).toInt = 0 := (by decide); have : (60 : Int32).toInt = 60 := (by decide); have : (61 : Int32).toInt = 61 := (by decide); have : (62 : Int32).toInt = 62 := (by decide); omega)), (by exact (by have := (ia1).1; have := (ia1).2; have := (hf660).1; have := (hf660).2; have := (i3).1; have := (i3).2; have := (i6).1; have := (i6).2; have := (i7).1; have := (i7).2; have := (i1).1; have := (i1).2; have := (i2).1; have := (i2).2; have := (p11_1).1; have := (p11_1).2; have := (p16_1).1; have := (p16_1).2; have := (p21_1).1; have := (p21_1).2; have : (σ4.1 660 a0).toInt = ((σ.1 660 a0) : Int32).toInt := congrArg Int32.toInt (show σ4.1 660 a0 = (σ.1 660 a0) from ((kp_c p5_0 (by decide)).trans rfl)); have : (σ4.1 661 a0).toInt = ((σ.1 661 a0) : Int32).toInt := congrArg Int32.toInt (show σ4.1 661 a0 = (σ.1 661 a0) from ((kp_c p5_0 (by decide)).trans rfl)); have : (v11 : Int32).toInt = (0 : Int32).toInt := congrArg Int32.toInt c12; have : (v16 : Int32).toInt = (0 : Int32).toInt := congrArg Int32.toInt c17; have : (v21 : Int32).toInt = (0 : Int32).toInt := congrArg Int32.toInt c22; have : (0 : Int32).toInt = 0 := (by decide); have : (60 : Int32).toInt = 60 := (by decide); have : (61 : Int32).toInt = 61 := (by decide); have : (62 : Int32).toInt = 62 := (by decide); omega))⟩
      · --
        exact iv_no (iv_ne1 c22 p21_1 (⟨by decide, by decide⟩ : Iv 0 0 0) (by decide)) (by decide)
    · --
      exact iv_no (iv_ne1 c17 p16_1 (⟨by decide, by decide⟩ : Iv 0 0 0) (by decide)) (by decide)
  · --
    exact iv_no (iv_ne1 c12 p11_1 (⟨by decide, by decide⟩ : Iv 0 0 0) (by decide)) (by decide)
theorem rec_R : ∀ n : Nat, P_X11_thingR l A L τ cy D K n ∧ P_X11_heldR l A L τ cy D K n := by
  intro n
  induction n with
  | zero => exact ⟨fun _ _ _ _ _ _ _ _ _ hm => absurd hm (Nat.not_lt_zero _), fun _ _ _ _ _ _ _ _ _ hm => absurd hm (Nat.not_lt_zero _)⟩
  | succ n ih =>
    have h1 := c_X11_thingR n ih.1 ih.2
    exact ⟨h1, c_X11_heldR (n + 1) (c_X11_sumR (n + 1) (c_X11_productR (n + 1) h1))⟩
theorem c_X11_heldRz (a0 : Nat) (ha0 : oA L τ a0 10) (a1 : Int32) (ia1 : Iv a1 0 4) (b0 : Nat) (hF0 : σ.2.2.2.2 659 a0 = some b0) (hb0 : oA L τ b0 54) (hf660 : Iv (σ.1 660 a0) 0 0) (hf662 : Iv (σ.1 662 a0) 0 200) : oMet l A L τ cy D K yX11_held cX11_held 3 (some .int) 337 8472 [.ref a0, .int a1] σ (va_Qi (fun r σ1 => oFr τ fs_X11_heldR ts_X11_heldR σ σ1 ∧ ((σ.1 662 a0).toInt ≤ (σ1.1 662 a0).toInt) ∧ ((σ.1 662 a0).toInt ≤ (σ.1 661 a0).toInt → (σ1.1 662 a0).toInt ≤ (σ.1 661 a0).toInt)) (oPo A L τ cy D) A) := (rec_R 81).2 σ a0 ha0 a1 ia1 b0 hF0 hb0 hf660 (by have := hf660.2; have := hf662.1; omega)
end OM
