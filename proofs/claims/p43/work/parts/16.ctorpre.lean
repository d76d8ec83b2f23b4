/-! what each class needs -/
theorem dfX1 : ∀ j, j < 8 → defaultValue (tyX1 j) = vp_V ((oFty 0).map oDf) j := fun j hj => match j, hj with
  | 0, _ => rfl
  | 1, _ => rfl
  | 2, _ => rfl
  | 3, _ => rfl
  | 4, _ => rfl
  | 5, _ => rfl
  | 6, _ => rfl
  | 7, _ => rfl
  | k + 8, h => absurd h (by omega)
theorem mb_0 {f : Nat → Int32}  : ∀ j, 0 = j / 64 → oMb j (f j) := by
  intro j hj
  unfold oMb
  split <;> first | trivial | assumption | (exfalso; omega)
theorem tg_0 {P : Nat → Nat → Prop} (h0 : P 0 5) (h1 : P 1 1) (h2 : P 2 8) (h3 : P 3 5) (h4 : P 4 32) (h5 : P 5 39) : ∀ j t2, oTg 0 j = some t2 → P j t2 := by
  intro j t2 h
  unfold oTg at h
  split at h <;> first | (exfalso; omega) | (split at h <;> first | (injection h with h; subst h; assumption) | (cases h)) | (cases h)
theorem dfX2 : ∀ j, j < 7 → defaultValue (tyX2 j) = vp_V ((oFty 1).map oDf) j := fun j hj => match j, hj with
  | 0, _ => rfl
  | 1, _ => rfl
  | 2, _ => rfl
  | 3, _ => rfl
  | 4, _ => rfl
  | 5, _ => rfl
  | 6, _ => rfl
  | k + 7, h => absurd h (by omega)
theorem mb_1 {f : Nat → Int32} (h64 : Iv (f 64) (0) 8) (h65 : Iv (f 65) (0) 8) (h66 : Iv (f 66) (0) 6) : ∀ j, 1 = j / 64 → oMb j (f j) := by
  intro j hj
  unfold oMb
  split <;> first | trivial | assumption | (exfalso; omega)
theorem tg_1 {P : Nat → Nat → Prop} (h67 : P 67 34) : ∀ j t2, oTg 1 j = some t2 → P j t2 := by
  intro j t2 h
  unfold oTg at h
  split at h <;> first | (exfalso; omega) | (split at h <;> first | (injection h with h; subst h; assumption) | (cases h)) | (cases h)
theorem dfX3 : ∀ j, j < 3 → defaultValue (tyX3 j) = vp_V ((oFty 2).map oDf) j := fun j hj => match j, hj with
  | 0, _ => rfl
  | 1, _ => rfl
  | 2, _ => rfl
  | k + 3, h => absurd h (by omega)
theorem mb_2 {f : Nat → Int32} (h129 : Iv (f 129) (0) 9) (h130 : Iv (f 130) (0) 10) : ∀ j, 2 = j / 64 → oMb j (f j) := by
  intro j hj
  unfold oMb
  split <;> first | trivial | assumption | (exfalso; omega)
theorem tg_2 {P : Nat → Nat → Prop} (h128 : P 128 40) : ∀ j t2, oTg 2 j = some t2 → P j t2 := by
  intro j t2 h
  unfold oTg at h
  split at h <;> first | (exfalso; omega) | (split at h <;> first | (injection h with h; subst h; assumption) | (cases h)) | (cases h)
theorem dfX4 : ∀ j, j < 2 → defaultValue (tyX4 j) = vp_V ((oFty 3).map oDf) j := fun j hj => match j, hj with
  | 0, _ => rfl
  | 1, _ => rfl
  | k + 2, h => absurd h (by omega)
theorem mb_3 {f : Nat → Int32} (h193 : Iv (f 193) (0) 14) : ∀ j, 3 = j / 64 → oMb j (f j) := by
  intro j hj
  unfold oMb
  split <;> first | trivial | assumption | (exfalso; omega)
theorem tg_3 {P : Nat → Nat → Prop} (h192 : P 192 36) : ∀ j t2, oTg 3 j = some t2 → P j t2 := by
  intro j t2 h
  unfold oTg at h
  split at h <;> first | (exfalso; omega) | (split at h <;> first | (injection h with h; subst h; assumption) | (cases h)) | (cases h)
theorem dfX5 : ∀ j, j < 10 → defaultValue (tyX5 j) = vp_V ((oFty 4).map oDf) j := fun j hj => match j, hj with
  | 0, _ => rfl
  | 1, _ => rfl
  | 2, _ => rfl
  | 3, _ => rfl
  | 4, _ => rfl
  | 5, _ => rfl
  | 6, _ => rfl
  | 7, _ => rfl
  | 8, _ => rfl
  | 9, _ => rfl
  | k + 10, h => absurd h (by omega)
theorem mb_4 {f : Nat → Int32} (h257 : Iv (f 257) (0) 40) (h259 : Iv (f 259) (0) 40) (h261 : Iv (f 261) (0) 40) : ∀ j, 4 = j / 64 → oMb j (f j) := by
  intro j hj
  unfold oMb
  split <;> first | trivial | assumption | (exfalso; omega)
theorem tg_4 {P : Nat → Nat → Prop} (h256 : P 256 37) (h258 : P 258 37) (h260 : P 260 37) (h262 : P 262 37) : ∀ j t2, oTg 4 j = some t2 → P j t2 := by
  intro j t2 h
  unfold oTg at h
  split at h <;> first | (exfalso; omega) | (split at h <;> first | (injection h with h; subst h; assumption) | (cases h)) | (cases h)
theorem dfX6 : ∀ j, j < 12 → defaultValue (tyX6 j) = vp_V ((oFty 5).map oDf) j := fun j hj => match j, hj with
  | 0, _ => rfl
  | 1, _ => rfl
  | 2, _ => rfl
  | 3, _ => rfl
  | 4, _ => rfl
  | 5, _ => rfl
  | 6, _ => rfl
  | 7, _ => rfl
  | 8, _ => rfl
  | 9, _ => rfl
  | 10, _ => rfl
  | 11, _ => rfl
  | k + 12, h => absurd h (by omega)
theorem mb_5 {f : Nat → Int32} (h327 : Iv (f 327) (0) 6) : ∀ j, 5 = j / 64 → oMb j (f j) := by
  intro j hj
  unfold oMb
  split <;> first | trivial | assumption | (exfalso; omega)
theorem tg_5 {P : Nat → Nat → Prop} (h320 : P 320 32) (h321 : P 321 32) (h322 : P 322 32) (h323 : P 323 32) (h324 : P 324 32) (h325 : P 325 33) (h326 : P 326 34) : ∀ j t2, oTg 5 j = some t2 → P j t2 := by
  intro j t2 h
  unfold oTg at h
  split at h <;> first | (exfalso; omega) | (split at h <;> first | (injection h with h; subst h; assumption) | (cases h)) | (cases h)
theorem dfX7 : ∀ j, j < 4 → defaultValue (tyX7 j) = vp_V ((oFty 6).map oDf) j := fun j hj => match j, hj with
  | 0, _ => rfl
  | 1, _ => rfl
  | 2, _ => rfl
  | 3, _ => rfl
  | k + 4, h => absurd h (by omega)
theorem mb_6 {f : Nat → Int32} (h385 : Iv (f 385) (0) 80) : ∀ j, 6 = j / 64 → oMb j (f j) := by
  intro j hj
  unfold oMb
  split <;> first | trivial | assumption | (exfalso; omega)
theorem tg_6 {P : Nat → Nat → Prop} (h384 : P 384 35) : ∀ j t2, oTg 6 j = some t2 → P j t2 := by
  intro j t2 h
  unfold oTg at h
  split at h <;> first | (exfalso; omega) | (split at h <;> first | (injection h with h; subst h; assumption) | (cases h)) | (cases h)
theorem dfX8 : ∀ j, j < 3 → defaultValue (tyX8 j) = vp_V ((oFty 7).map oDf) j := fun j hj => match j, hj with
  | 0, _ => rfl
  | 1, _ => rfl
  | 2, _ => rfl
  | k + 3, h => absurd h (by omega)
theorem mb_7 {f : Nat → Int32}  : ∀ j, 7 = j / 64 → oMb j (f j) := by
  intro j hj
  unfold oMb
  split <;> first | trivial | assumption | (exfalso; omega)
theorem tg_7 {P : Nat → Nat → Prop} (h448 : P 448 32) (h449 : P 449 39) (h450 : P 450 39) : ∀ j t2, oTg 7 j = some t2 → P j t2 := by
  intro j t2 h
  unfold oTg at h
  split at h <;> first | (exfalso; omega) | (split at h <;> first | (injection h with h; subst h; assumption) | (cases h)) | (cases h)
theorem dfX9 : ∀ j, j < 6 → defaultValue (tyX9 j) = vp_V ((oFty 8).map oDf) j := fun j hj => match j, hj with
  | 0, _ => rfl
  | 1, _ => rfl
  | 2, _ => rfl
  | 3, _ => rfl
  | 4, _ => rfl
  | 5, _ => rfl
  | k + 6, h => absurd h (by omega)
theorem mb_8 {f : Nat → Int32}  : ∀ j, 8 = j / 64 → oMb j (f j) := by
  intro j hj
  unfold oMb
  split <;> first | trivial | assumption | (exfalso; omega)
theorem tg_8 {P : Nat → Nat → Prop} (h512 : P 512 1) (h513 : P 513 4) (h516 : P 516 38) : ∀ j t2, oTg 8 j = some t2 → P j t2 := by
  intro j t2 h
  unfold oTg at h
  split at h <;> first | (exfalso; omega) | (split at h <;> first | (injection h with h; subst h; assumption) | (cases h)) | (cases h)
theorem dfX10 : ∀ j, j < 14 → defaultValue (tyX10 j) = vp_V ((oFty 9).map oDf) j := fun j hj => match j, hj with
  | 0, _ => rfl
  | 1, _ => rfl
  | 2, _ => rfl
  | 3, _ => rfl
  | 4, _ => rfl
  | 5, _ => rfl
  | 6, _ => rfl
  | 7, _ => rfl
  | 8, _ => rfl
  | 9, _ => rfl
  | 10, _ => rfl
  | 11, _ => rfl
  | 12, _ => rfl
  | 13, _ => rfl
  | k + 14, h => absurd h (by omega)
theorem mb_9 {f : Nat → Int32}  : ∀ j, 9 = j / 64 → oMb j (f j) := by
  intro j hj
  unfold oMb
  split <;> first | trivial | assumption | (exfalso; omega)
theorem tg_9 {P : Nat → Nat → Prop} (h576 : P 576 6) (h577 : P 577 3) (h578 : P 578 1) (h579 : P 579 4) (h580 : P 580 8) (h581 : P 581 5) (h582 : P 582 5) (h583 : P 583 0) (h584 : P 584 7) (h585 : P 585 2) (h586 : P 586 41) : ∀ j t2, oTg 9 j = some t2 → P j t2 := by
  intro j t2 h
  unfold oTg at h
  split at h <;> first | (exfalso; omega) | (split at h <;> first | (injection h with h; subst h; assumption) | (cases h)) | (cases h)
theorem dfX11 : ∀ j, j < 45 → defaultValue (tyX11 j) = vp_V ((oFty 10).map oDf) j := fun j hj => match j, hj with
  | 0, _ => rfl
  | 1, _ => rfl
  | 2, _ => rfl
  | 3, _ => rfl
  | 4, _ => rfl
  | 5, _ => rfl
  | 6, _ => rfl
  | 7, _ => rfl
  | 8, _ => rfl
  | 9, _ => rfl
  | 10, _ => rfl
  | 11, _ => rfl
  | 12, _ => rfl
  | 13, _ => rfl
  | 14, _ => rfl
  | 15, _ => rfl
  | 16, _ => rfl
  | 17, _ => rfl
  | 18, _ => rfl
  | 19, _ => rfl
  | 20, _ => rfl
  | 21, _ => rfl
  | 22, _ => rfl
  | 23, _ => rfl
  | 24, _ => rfl
  | 25, _ => rfl
  | 26, _ => rfl
  | 27, _ => rfl
  | 28, _ => rfl
  | 29, _ => rfl
  | 30, _ => rfl
  | 31, _ => rfl
  | 32, _ => rfl
  | 33, _ => rfl
  | 34, _ => rfl
  | 35, _ => rfl
  | 36, _ => rfl
  | 37, _ => rfl
  | 38, _ => rfl
  | 39, _ => rfl
  | 40, _ => rfl
  | 41, _ => rfl
  | 42, _ => rfl
  | 43, _ => rfl
  | 44, _ => rfl
  | k + 45, h => absurd h (by omega)
theorem mb_10 {f : Nat → Int32} (h641 : Iv (f 641) (0) 8) (h642 : Iv (f 642) (0) 8) (h645 : Iv (f 645) (0) 6) (h647 : Iv (f 647) (0) 6) (h651 : Iv (f 651) (1) 99) (h655 : Iv (f 655) (0) 80) (h657 : Iv (f 657) (0) 20) (h660 : Iv (f 660) (0) 80) (h661 : Iv (f 661) (0) 80) (h662 : Iv (f 662) (0) 200) (h663 : Iv (f 663) (-1) 200) (h668 : Iv (f 668) (0) 40) (h672 : Iv (f 672) (0) 10) : ∀ j, 10 = j / 64 → oMb j (f j) := by
  intro j hj
  unfold oMb
  split <;> first | trivial | assumption | (exfalso; omega)
theorem tg_10 {P : Nat → Nat → Prop} (h640 : P 640 48) (h643 : P 643 49) (h644 : P 644 63) (h646 : P 646 50) (h648 : P 648 69) (h654 : P 654 51) (h656 : P 656 52) (h664 : P 664 64) (h665 : P 665 65) (h666 : P 666 53) (h667 : P 667 54) (h670 : P 670 55) (h671 : P 671 56) (h673 : P 673 48) (h674 : P 674 57) (h676 : P 676 66) (h677 : P 677 48) (h678 : P 678 67) (h679 : P 679 68) (h680 : P 680 58) (h682 : P 682 59) (h683 : P 683 60) (h684 : P 684 61) : ∀ j t2, oTg 10 j = some t2 → P j t2 := by
  intro j t2 h
  unfold oTg at h
  split at h <;> first | (exfalso; omega) | (split at h <;> first | (injection h with h; subst h; assumption) | (cases h)) | (cases h)
theorem q_X10_init : oMi yX10_init cX10_init 2 0 := ⟨k_code_X10_init, k_i_X10, k_o_X10_init, rfl, by decide, by decide, by decide⟩
theorem q_X7_init : oMi yX7_init cX7_init 1 0 := ⟨k_code_X7_init, k_i_X7, k_o_X7_init, rfl, by decide, by decide, by decide⟩
theorem q_X4_init : oMi yX4_init cX4_init 1 0 := ⟨k_code_X4_init, k_i_X4, k_o_X4_init, rfl, by decide, by decide, by decide⟩
theorem q_X2_init : oMi yX2_init cX2_init 1 0 := ⟨k_code_X2_init, k_i_X2, k_o_X2_init, rfl, by decide, by decide, by decide⟩
theorem q_X5_init : oMi yX5_init cX5_init 1 0 := ⟨k_code_X5_init, k_i_X5, k_o_X5_init, rfl, by decide, by decide, by decide⟩
theorem q_X9_init : oMi yX9_init cX9_init 3 2 := ⟨k_code_X9_init, k_i_X9, k_o_X9_init, rfl, by decide, by decide, by decide⟩
theorem q_X6_init : oMi yX6_init cX6_init 1 0 := ⟨k_code_X6_init, k_i_X6, k_o_X6_init, rfl, by decide, by decide, by decide⟩
theorem q_X1_init : oMi yX1_init cX1_init 4 3 := ⟨k_code_X1_init, k_i_X1, k_o_X1_init, rfl, by decide, by decide, by decide⟩
theorem q_X8_init : oMi yX8_init cX8_init 1 0 := ⟨k_code_X8_init, k_i_X8, k_o_X8_init, rfl, by decide, by decide, by decide⟩
theorem q_X3_init : oMi yX3_init cX3_init 2 0 := ⟨k_code_X3_init, k_i_X3, k_o_X3_init, rfl, by decide, by decide, by decide⟩
theorem q_X11_init : oMi yX11_init cX11_init 1 0 := ⟨k_code_X11_init, k_i_X11, k_o_X11_init, rfl, by decide, by decide, by decide⟩
