/-! ===== what holds at the law's entry ===== -/
theorem s_arr {a : Array Value} {s : State} {ty : FieldType} (h : (Cond.arrayClass ty).before a s = true) : ∃ cA : ClassId, ArrOfT s cA ty ∧ s.vm.findClass ("[" ++ ty.toString) = some cA := by
  obtain ⟨c, k, comp, h1, h2, h3⟩ := Cond.arrayClass_spec h
  exact ⟨c, fun n z => ⟨fun k h => (by cases h), k, h2, comp, h3⟩, h1⟩
theorem s_arro {a : Array Value} {s : State} {n : String} (h : (Cond.arrayOver (.object n)).before a s = true) : ∃ cA : ClassId, ArrOfT s cA (.object n) ∧ va_RA s cA (.object n) := by
  obtain ⟨comp, c, k, h1, h2, h3, h4, h5⟩ := Cond.arrayOver_spec h
  exact ⟨c, fun n z => ⟨fun k h => (by cases h), k, h3, comp, h4⟩, k, comp, h3, h4, h1, h5⟩
/-- the texts' terms -/
def sTm (i : Nat) : Term := if i = 0 then .string RX10 83 else if i = 1 then .string RX5 92 else if i = 2 then .string RX2 29 else if i = 3 then .string RX10 329 else if i = 4 then .string RX10 140 else if i = 5 then .string RX10 181 else .string RX10 470
def sLen : List Nat := [13, 9, 11, 6, 35, 35, 25]
def sByt : List (List Int32) := [[103, 42, 50, 43, 115, 42, 53, 45, 116, 42, 51, 45, 114], [103, 115, 116, 114, 109, 111, 101, 105, 107], [48, 49, 50, 51, 52, 53, 54, 55, 56, 57, 35], [104, 115, 116, 111, 99, 100], [110, 111, 32, 115, 117, 99, 104, 32, 99, 101, 108, 108, 44, 32, 111, 114, 32, 110, 111, 116, 104, 105, 110, 103, 32, 115, 117, 99, 104, 32, 111, 102, 32, 105, 116], [110, 111, 32, 115, 117, 99, 104, 32, 104, 101, 114, 100, 44, 32, 111, 114, 32, 110, 111, 116, 104, 105, 110, 103, 32, 115, 117, 99, 104, 32, 111, 102, 32, 105, 116], [110, 111, 32, 115, 117, 99, 104, 32, 110, 117, 109, 98, 101, 114, 32, 105, 110, 32, 116, 104, 101, 32, 82, 79, 87]]
def sG : List Cond := flatC (Jvm.Cond.and given_1 narrow_1)
theorem s_l31 : ∀ i ∈ List.range 7, sLen.getD i 0 < 2 ^ 31 := by decide
theorem s_e1 : ∀ i ∈ List.range 4, sLen.getD i 0 = oLen.getD i 0 := by decide
theorem s_e2 : ∀ i ∈ List.range 4, sByt.getD i [] = oByt.getD i [] := by decide
theorem s_ex : ∀ i ∈ List.range 7, Cond.exactly (sTm i) "java/lang/String" ∈ sG := by decide +kernel
theorem s_co : ∀ i ∈ List.range 7, Cond.eq (.field (sTm i) "java/lang/String" "coder" "B") (.int 0) ∈ sG := by decide +kernel
theorem s_ar : ∀ i ∈ List.range 7, Cond.arrayOf (.field (sTm i) "java/lang/String" "value" "[B") .byte ∈ sG := by decide +kernel
theorem s_le : ∀ i ∈ List.range 7, Cond.eq (.length (.field (sTm i) "java/lang/String" "value" "[B")) (.int (Int32.ofNat (sLen.getD i 0))) ∈ sG := by decide +kernel
theorem s_el : ∀ i ∈ List.range 7, ∀ j ∈ List.range (sLen.getD i 0), Cond.eq (.elem (.field (sTm i) "java/lang/String" "value" "[B") (.int (Int32.ofNat j))) (.int ((sByt.getD i []).getD j 0)) ∈ sG := by decide +kernel
theorem s_ne : ∀ i ∈ List.range 7, ∀ j ∈ List.range 7, i ≠ j → Cond.not (Cond.eq (sTm i) (sTm j)) ∈ sG ∨ Cond.not (Cond.eq (sTm j) (sTm i)) ∈ sG := by decide +kernel
theorem s_cs : Cond.eq (.static "java/lang/String" "COMPACT_STRINGS" "Z") (.int 1) ∈ sG := by decide +kernel
theorem s_sf : Cond.isRef (.static "jdk/internal/util/Preconditions" "SIOOBE_FORMATTER" "Ljava/util/function/BiFunction;") ∈ sG := by decide +kernel
theorem s_us : Cond.isRef (.static Bundle.tN "UNASSIGNED_STACK" Bundle.steD) ∈ sG := by decide +kernel
theorem s_ss : Cond.isRef (.static Bundle.tN "SUPPRESSED_SENTINEL" Bundle.listD) ∈ sG := by decide +kernel
theorem law_setup {p : Program} {s : State} {m : MethodId} {meth : Method} {c : Code} {b L : Nat} {xs : Nat → Int32} (C0 : lw_At p s m meth c b L xs) : ∃ (cy : Nat → ClassId) (D : va_G) (K : (Nat → Nat) × (Nat → Nat)), oCx p s m #[Value.ref b] c code 8 RL cy D (fun q => s.heap.size ≤ q) K := by
  obtain ⟨hx, hb, hr, hml, hown, hts, hX, hbl, hlocks, hgv⟩ := C0
  have hto : ∀ w ∈ oTT, w.before #[Value.ref b] s = true := fun w h => hts w (List.mem_filter.mp h).1
  have hA : ∀ a : Nat, a < s.heap.size → ¬ (fun q : Nat => s.heap.size ≤ q) a := fun a h h2 => absurd h (Nat.not_lt.mpr h2)
  have hg : ∀ w ∈ sG, w.before #[Value.ref b] s = true := flat_of_before _ hgv
  obtain ⟨c1, i1, h1⟩ := u_known (C := RX1) (T := TX1) (N := 8) hto fiX1 (hto _ k_n_X1)
  obtain ⟨c2, i2, h2⟩ := u_known (C := RX2) (T := TX2) (N := 7) hto fiX2 (hto _ k_n_X2)
  obtain ⟨c3, i3, h3⟩ := u_known (C := RX3) (T := TX3) (N := 3) hto fiX3 (hto _ k_n_X3)
  obtain ⟨c4, i4, h4⟩ := u_known (C := RX4) (T := TX4) (N := 2) hto fiX4 (hto _ k_n_X4)
  obtain ⟨c5, i5, h5⟩ := u_known (C := RX5) (T := TX5) (N := 10) hto fiX5 (hto _ k_n_X5)
  obtain ⟨c6, i6, h6⟩ := u_known (C := RX6) (T := TX6) (N := 12) hto fiX6 (hto _ k_n_X6)
  obtain ⟨c7, i7, h7⟩ := u_known (C := RX7) (T := TX7) (N := 4) hto fiX7 (hto _ k_n_X7)
  obtain ⟨c8, i8, h8⟩ := u_known (C := RX8) (T := TX8) (N := 3) hto fiX8 (hto _ k_n_X8)
  obtain ⟨c9, i9, h9⟩ := u_known (C := RX9) (T := TX9) (N := 6) hto fiX9 (hto _ k_n_X9)
  obtain ⟨c10, i10, h10⟩ := u_known (C := RX10) (T := TX10) (N := 14) hto fiX10 (hto _ k_n_X10)
  obtain ⟨c11, i11, h11⟩ := u_known (C := RX11) (T := TX11) (N := 45) hto fiX11 (hto _ k_n_X11)
  obtain ⟨y0, u0, v0⟩ := s_arr (hto _ k_a_byte)
  obtain ⟨y1, u1, v1⟩ := s_arr (hto _ k_a_char)
  obtain ⟨y2, u2, v2⟩ := s_arr (hto _ k_a_int)
  obtain ⟨y3, u3, v3⟩ := s_arr (hto _ k_a_long)
  obtain ⟨y4, u4, v4⟩ := s_arr (hto _ k_a_boolean)
  obtain ⟨y5, u5, v5⟩ := s_arro (hts _ n_ao)
  obtain ⟨adK, adV, hS, hE⟩ := vk_Sof (args := #[Value.ref b]) (s := s) (N := 7) (tm := sTm) (len := sLen) (byt := sByt) (A := fun q : Nat => s.heap.size ≤ q) (fun i hi => s_l31 i (List.mem_range.mpr hi)) (fun i hi => hg _ (s_ex i (List.mem_range.mpr hi))) (fun i hi => hg _ (s_co i (List.mem_range.mpr hi))) (fun i hi => hg _ (s_ar i (List.mem_range.mpr hi))) (fun i hi => hg _ (s_le i (List.mem_range.mpr hi))) (fun i hi j hj => hg _ (s_el i (List.mem_range.mpr hi) j (List.mem_range.mpr hj))) (fun i j hi hj hij => (s_ne i (List.mem_range.mpr hi) j (List.mem_range.mpr hj) hij).elim (fun h => .inl (hg _ h)) (fun h => .inr (hg _ h))) hA
  refine ⟨fun k => [y0, y1, y2, y3, y4, y5].getD k y0, (fun k => [c1, c2, c3, c4, c5, c6, c7, c8, c9, c10, c11].getD k c1, fun k => [i1, i2, i3, i4, i5, i6, i7, i8, i9, i10, i11].getD k i1), (adK, adV), ⟨hx, hb, hml, hown, hto⟩, ⟨?_, ?_⟩, ?_⟩
  · intro k q hq
    match k, hq with
    | 0, hq => cases hq; exact h1
    | 1, hq => cases hq; exact h2
    | 2, hq => cases hq; exact h3
    | 3, hq => cases hq; exact h4
    | 4, hq => cases hq; exact h5
    | 5, hq => cases hq; exact h6
    | 6, hq => cases hq; exact h7
    | 7, hq => cases hq; exact h8
    | 8, hq => cases hq; exact h9
    | 9, hq => cases hq; exact h10
    | 10, hq => cases hq; exact h11
    | k + 11, hq => simp [vwCl] at hq
  · intro k q hq
    match k, hq with
    | 0, hq => cases hq; exact ⟨u0, v0⟩
    | 1, hq => cases hq; exact ⟨u1, v1⟩
    | 2, hq => cases hq; exact ⟨u2, v2⟩
    | 3, hq => cases hq; exact ⟨u3, v3⟩
    | 4, hq => cases hq; exact ⟨u4, v4⟩
    | 5, hq => cases hq; exact ⟨u5, v5⟩
    | k + 6, hq => simp [oTy] at hq
  · have R : ∀ (own tx : String) (k i : Nat), i < 7 → sTm i = .string own k → (Cond.stringRef own k tx).before #[Value.ref b] s = true → vk_R own k tx (adK i) s := fun own tx k i hi e h => vk_R.of h (by rw [← e]; exact hE i hi)
    refine ⟨⟨fun i hi => ?_, fun i j hi hj => hS.2 i j (by omega) (by omega)⟩, ⟨R _ _ _ 0 (by decide) rfl (hts _ n_t_X10_83), R _ _ _ 1 (by decide) rfl (hts _ n_t_X5_92), R _ _ _ 2 (by decide) rfl (hts _ n_t_X2_29), R _ _ _ 3 (by decide) rfl (hts _ n_t_X10_329), R _ _ _ 4 (by decide) rfl (hts _ n_t_X10_140), R _ _ _ 5 (by decide) rfl (hts _ n_t_X10_181), R _ _ _ 6 (by decide) rfl (hts _ n_t_X10_470)⟩, va_Zof (hts _ n_l_COMPACT_STRINGS) (hto _ k_i_J0) (va_eqt (hg _ s_cs)) hA, va_Zqof (hts _ n_l_SIOOBE_FORMATTER) (hto _ k_i_J3) (hg _ s_sf) hA, vx_Zqof (hts _ n_l_UNASSIGNED_STACK) (hto _ k_i_java_lang_Throwable) (hg _ s_us) hA, vx_Zqof (hts _ n_l_SUPPRESSED_SENTINEL) (hto _ k_i_java_lang_Throwable) (hg _ s_ss) hA, va_AO.of (hts _ n_ao), va_Nw.of rfl (hts _ n_n_X10_9), va_Nw.of rfl (hts _ n_n_X10_18), va_Nw.of rfl (hts _ n_n_X10_25), va_Nw.of rfl (hts _ n_n_X10_32), va_Nw.of rfl (hts _ n_n_X10_67), va_Nw.of rfl (hts _ n_d_RuntimeException), va_Nw.of rfl (hts _ n_d_Exception), va_Nw.of rfl (hts _ n_d_Throwable), va_Nw.of rfl (hts _ n_c_NSE)⟩
    have h7 := hS.1 i (by omega)
    have e1 : sLen.getD i 0 = oLen.getD i 0 := s_e1 i (List.mem_range.mpr hi)
    have e2 : sByt.getD i [] = oByt.getD i [] := s_e2 i (List.mem_range.mpr hi)
    rw [e1, e2] at h7
    exact h7
