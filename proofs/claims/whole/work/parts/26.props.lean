/-! PROPERTIES, what a sign could be, times that balance, another time -/
def spq (A : Nat → Nat) (i w : Nat) : Int32 :=
  if w = 0 then nI (A (8 + 4 * i)) else if w = 1 then nI (A (9 + 4 * i)) else if w = 2 then nI (A (10 + 4 * i)) else if w = 3 then nI (A (11 + 4 * i)) else if w = 4 then nI (wkq A i) else if w = 5 then nI (lfq A (wkq A i)) else if w = 6 then nI (sn A i) else if w = 7 then rI (rdq A i) else if w = 8 then (if rdq A i = A (8 + 4 * i) ∧ tbq (sn A i) 7 = A (9 + 4 * i) then nI 1 else nI 0) else nI (mn2 A i)
theorem freadRight {A : Nat → Nat} {mm : gM} (h : CS 0 A mm) (w : WF A) {i : Nat} (hi : i < 6) (hc : CKq 0 A i mm) : fX5_readRight (nI i) mm = some (if rdq A i = A (8 + 4 * i) ∧ tbq (sn A i) 7 = A (9 + 4 * i) then nI 1 else nI 0) := by
  have h1 := w.sign hi
  have h2 := w.dot hi
  have h3 := rd_le A i
  have h4 := sn_lt A i
  have h5 := dm_lt w
  have h6 := tb_lt (sn A i) 7
  unfold fX5_readRight jX5_readRight_51
  simp (disch := omega) only [z_nn2, z0, z1, z2, z3, z4, z5, z6, z7, z8, z9, z10, z11, z12, z13, z14, z15, z16, z17, z18, z19, z20, z23, z24, z28, z31, z32, z33, z45, z46, z47, z48, z52, z57, z60, z63, z65, z70, z80, z95, z100, z126, z127, z128, z200, z240, z255, z400, z480, z500, z840, z1023, z2000, z99999, z1073741824, z_nn, z_add, z_sub, z_mul, z_div, z_rem, z_cl, z_in, z_chk, z_chkp, z_bnd, z_bn2, z_wth, z_bxr, z_bxl, z_bx2r, z_bx2l, z_bz0, z_bz1, z_mx, z_mn, z_tb1, z_tb0, z_eq, z_le, z_lt, z_nn_lt, z_nn_le, z_nn_ge, z_nn_gt, z_nn_eq, z_nn_eq2, z_bit, z_wow, z_wo, z_or, z_shl, z_if, z_ifn, fbit, if_true, if_false, Nat.zero_add, Nat.add_zero, not_false_iff, not_true, fread h w hi hc, fseen h w hi hc, h.sign, h.dots, rI_eq, dm_tb w hi]
  by_cases c1 : rdq A i = A (8 + 4 * i)
  · by_cases c2 : tbq (sn A i) 7 = A (9 + 4 * i)
    · rw [if_pos c1, if_pos c2, if_pos ⟨c1, c2⟩]
    · rw [if_pos c1, if_neg c2, if_neg (fun z => c2 z.2)]
  · rw [if_neg c1, if_neg (fun z => c1 z.1)]
theorem fslotProp_j {A : Nat → Nat} {mm : gM} (h : CS 0 A mm) (w : WF A) {i v : Nat} (hi : i < 6) (hv : v < 10) (hc : 6 ≤ v → CKq 0 A i mm) : jX5_slotProperty_14 (nI i) (nI v) mm = some (spq A i v, mm) := by
  have h5 := dm_lt w
  have h1 := wk_lt w hi
  unfold jX5_slotProperty_14 spq
  rcases (show v = 0 ∨ v = 1 ∨ v = 2 ∨ v = 3 ∨ v = 4 ∨ v = 5 ∨ v = 6 ∨ v = 7 ∨ v = 8 ∨ v = 9 by omega) with rfl | rfl | rfl | rfl | rfl | rfl | rfl | rfl | rfl | rfl
  · simp (disch := omega) only [z_nn2, z0, z1, z2, z3, z4, z5, z6, z7, z8, z9, z10, z11, z12, z13, z14, z15, z16, z17, z18, z19, z20, z23, z24, z28, z31, z32, z33, z45, z46, z47, z48, z52, z57, z60, z63, z65, z70, z80, z95, z100, z126, z127, z128, z200, z240, z255, z400, z480, z500, z840, z1023, z2000, z99999, z1073741824, z_nn, z_add, z_sub, z_mul, z_div, z_rem, z_cl, z_in, z_chk, z_chkp, z_bnd, z_bn2, z_wth, z_bxr, z_bxl, z_bx2r, z_bx2l, z_bz0, z_bz1, z_mx, z_mn, z_tb1, z_tb0, z_eq, z_le, z_lt, z_nn_lt, z_nn_le, z_nn_ge, z_nn_gt, z_nn_eq, z_nn_eq2, z_bit, z_wow, z_wo, z_or, z_shl, z_if, z_ifn, fbit, if_true, if_false, Nat.zero_add, Nat.add_zero, not_false_iff, not_true, h.sign]
  · simp (disch := omega) only [z_nn2, z0, z1, z2, z3, z4, z5, z6, z7, z8, z9, z10, z11, z12, z13, z14, z15, z16, z17, z18, z19, z20, z23, z24, z28, z31, z32, z33, z45, z46, z47, z48, z52, z57, z60, z63, z65, z70, z80, z95, z100, z126, z127, z128, z200, z240, z255, z400, z480, z500, z840, z1023, z2000, z99999, z1073741824, z_nn, z_add, z_sub, z_mul, z_div, z_rem, z_cl, z_in, z_chk, z_chkp, z_bnd, z_bn2, z_wth, z_bxr, z_bxl, z_bx2r, z_bx2l, z_bz0, z_bz1, z_mx, z_mn, z_tb1, z_tb0, z_eq, z_le, z_lt, z_nn_lt, z_nn_le, z_nn_ge, z_nn_gt, z_nn_eq, z_nn_eq2, z_bit, z_wow, z_wo, z_or, z_shl, z_if, z_ifn, fbit, if_true, if_false, Nat.zero_add, Nat.add_zero, not_false_iff, not_true, h.dots, dm_tb w hi]
  · simp (disch := omega) only [z_nn2, z0, z1, z2, z3, z4, z5, z6, z7, z8, z9, z10, z11, z12, z13, z14, z15, z16, z17, z18, z19, z20, z23, z24, z28, z31, z32, z33, z45, z46, z47, z48, z52, z57, z60, z63, z65, z70, z80, z95, z100, z126, z127, z128, z200, z240, z255, z400, z480, z500, z840, z1023, z2000, z99999, z1073741824, z_nn, z_add, z_sub, z_mul, z_div, z_rem, z_cl, z_in, z_chk, z_chkp, z_bnd, z_bn2, z_wth, z_bxr, z_bxl, z_bx2r, z_bx2l, z_bz0, z_bz1, z_mx, z_mn, z_tb1, z_tb0, z_eq, z_le, z_lt, z_nn_lt, z_nn_le, z_nn_ge, z_nn_gt, z_nn_eq, z_nn_eq2, z_bit, z_wow, z_wo, z_or, z_shl, z_if, z_ifn, fbit, if_true, if_false, Nat.zero_add, Nat.add_zero, not_false_iff, not_true, h.time]
  · simp (disch := omega) only [z_nn2, z0, z1, z2, z3, z4, z5, z6, z7, z8, z9, z10, z11, z12, z13, z14, z15, z16, z17, z18, z19, z20, z23, z24, z28, z31, z32, z33, z45, z46, z47, z48, z52, z57, z60, z63, z65, z70, z80, z95, z100, z126, z127, z128, z200, z240, z255, z400, z480, z500, z840, z1023, z2000, z99999, z1073741824, z_nn, z_add, z_sub, z_mul, z_div, z_rem, z_cl, z_in, z_chk, z_chkp, z_bnd, z_bn2, z_wth, z_bxr, z_bxl, z_bx2r, z_bx2l, z_bz0, z_bz1, z_mx, z_mn, z_tb1, z_tb0, z_eq, z_le, z_lt, z_nn_lt, z_nn_le, z_nn_ge, z_nn_gt, z_nn_eq, z_nn_eq2, z_bit, z_wow, z_wo, z_or, z_shl, z_if, z_ifn, fbit, if_true, if_false, Nat.zero_add, Nat.add_zero, not_false_iff, not_true, h.burnt]
  · simp (disch := omega) only [z_nn2, z0, z1, z2, z3, z4, z5, z6, z7, z8, z9, z10, z11, z12, z13, z14, z15, z16, z17, z18, z19, z20, z23, z24, z28, z31, z32, z33, z45, z46, z47, z48, z52, z57, z60, z63, z65, z70, z80, z95, z100, z126, z127, z128, z200, z240, z255, z400, z480, z500, z840, z1023, z2000, z99999, z1073741824, z_nn, z_add, z_sub, z_mul, z_div, z_rem, z_cl, z_in, z_chk, z_chkp, z_bnd, z_bn2, z_wth, z_bxr, z_bxl, z_bx2r, z_bx2l, z_bz0, z_bz1, z_mx, z_mn, z_tb1, z_tb0, z_eq, z_le, z_lt, z_nn_lt, z_nn_le, z_nn_ge, z_nn_gt, z_nn_eq, z_nn_eq2, z_bit, z_wow, z_wo, z_or, z_shl, z_if, z_ifn, fbit, if_true, if_false, Nat.zero_add, Nat.add_zero, not_false_iff, not_true, fworks h w]
  · simp (disch := omega) only [z_nn2, z0, z1, z2, z3, z4, z5, z6, z7, z8, z9, z10, z11, z12, z13, z14, z15, z16, z17, z18, z19, z20, z23, z24, z28, z31, z32, z33, z45, z46, z47, z48, z52, z57, z60, z63, z65, z70, z80, z95, z100, z126, z127, z128, z200, z240, z255, z400, z480, z500, z840, z1023, z2000, z99999, z1073741824, z_nn, z_add, z_sub, z_mul, z_div, z_rem, z_cl, z_in, z_chk, z_chkp, z_bnd, z_bn2, z_wth, z_bxr, z_bxl, z_bx2r, z_bx2l, z_bz0, z_bz1, z_mx, z_mn, z_tb1, z_tb0, z_eq, z_le, z_lt, z_nn_lt, z_nn_le, z_nn_ge, z_nn_gt, z_nn_eq, z_nn_eq2, z_bit, z_wow, z_wo, z_or, z_shl, z_if, z_ifn, fbit, if_true, if_false, Nat.zero_add, Nat.add_zero, not_false_iff, not_true, fworks h w, flight h w]
  · simp (disch := omega) only [z_nn2, z0, z1, z2, z3, z4, z5, z6, z7, z8, z9, z10, z11, z12, z13, z14, z15, z16, z17, z18, z19, z20, z23, z24, z28, z31, z32, z33, z45, z46, z47, z48, z52, z57, z60, z63, z65, z70, z80, z95, z100, z126, z127, z128, z200, z240, z255, z400, z480, z500, z840, z1023, z2000, z99999, z1073741824, z_nn, z_add, z_sub, z_mul, z_div, z_rem, z_cl, z_in, z_chk, z_chkp, z_bnd, z_bn2, z_wth, z_bxr, z_bxl, z_bx2r, z_bx2l, z_bz0, z_bz1, z_mx, z_mn, z_tb1, z_tb0, z_eq, z_le, z_lt, z_nn_lt, z_nn_le, z_nn_ge, z_nn_gt, z_nn_eq, z_nn_eq2, z_bit, z_wow, z_wo, z_or, z_shl, z_if, z_ifn, fbit, if_true, if_false, Nat.zero_add, Nat.add_zero, not_false_iff, not_true, fseen h w hi (hc (by decide))]
  · simp (disch := omega) only [z_nn2, z0, z1, z2, z3, z4, z5, z6, z7, z8, z9, z10, z11, z12, z13, z14, z15, z16, z17, z18, z19, z20, z23, z24, z28, z31, z32, z33, z45, z46, z47, z48, z52, z57, z60, z63, z65, z70, z80, z95, z100, z126, z127, z128, z200, z240, z255, z400, z480, z500, z840, z1023, z2000, z99999, z1073741824, z_nn, z_add, z_sub, z_mul, z_div, z_rem, z_cl, z_in, z_chk, z_chkp, z_bnd, z_bn2, z_wth, z_bxr, z_bxl, z_bx2r, z_bx2l, z_bz0, z_bz1, z_mx, z_mn, z_tb1, z_tb0, z_eq, z_le, z_lt, z_nn_lt, z_nn_le, z_nn_ge, z_nn_gt, z_nn_eq, z_nn_eq2, z_bit, z_wow, z_wo, z_or, z_shl, z_if, z_ifn, fbit, if_true, if_false, Nat.zero_add, Nat.add_zero, not_false_iff, not_true, fread h w hi (hc (by decide))]
  · simp (disch := omega) only [z_nn2, z0, z1, z2, z3, z4, z5, z6, z7, z8, z9, z10, z11, z12, z13, z14, z15, z16, z17, z18, z19, z20, z23, z24, z28, z31, z32, z33, z45, z46, z47, z48, z52, z57, z60, z63, z65, z70, z80, z95, z100, z126, z127, z128, z200, z240, z255, z400, z480, z500, z840, z1023, z2000, z99999, z1073741824, z_nn, z_add, z_sub, z_mul, z_div, z_rem, z_cl, z_in, z_chk, z_chkp, z_bnd, z_bn2, z_wth, z_bxr, z_bxl, z_bx2r, z_bx2l, z_bz0, z_bz1, z_mx, z_mn, z_tb1, z_tb0, z_eq, z_le, z_lt, z_nn_lt, z_nn_le, z_nn_ge, z_nn_gt, z_nn_eq, z_nn_eq2, z_bit, z_wow, z_wo, z_or, z_shl, z_if, z_ifn, fbit, if_true, if_false, Nat.zero_add, Nat.add_zero, not_false_iff, not_true, freadRight h w hi (hc (by decide))]
    split
    · simp (disch := omega) only [z_nn2, z0, z1, z2, z3, z4, z5, z6, z7, z8, z9, z10, z11, z12, z13, z14, z15, z16, z17, z18, z19, z20, z23, z24, z28, z31, z32, z33, z45, z46, z47, z48, z52, z57, z60, z63, z65, z70, z80, z95, z100, z126, z127, z128, z200, z240, z255, z400, z480, z500, z840, z1023, z2000, z99999, z1073741824, z_nn, z_add, z_sub, z_mul, z_div, z_rem, z_cl, z_in, z_chk, z_chkp, z_bnd, z_bn2, z_wth, z_bxr, z_bxl, z_bx2r, z_bx2l, z_bz0, z_bz1, z_mx, z_mn, z_tb1, z_tb0, z_eq, z_le, z_lt, z_nn_lt, z_nn_le, z_nn_ge, z_nn_gt, z_nn_eq, z_nn_eq2, z_bit, z_wow, z_wo, z_or, z_shl, z_if, z_ifn, fbit, if_true, if_false, Nat.zero_add, Nat.add_zero, not_false_iff, not_true]
    · simp (disch := omega) only [z_nn2, z0, z1, z2, z3, z4, z5, z6, z7, z8, z9, z10, z11, z12, z13, z14, z15, z16, z17, z18, z19, z20, z23, z24, z28, z31, z32, z33, z45, z46, z47, z48, z52, z57, z60, z63, z65, z70, z80, z95, z100, z126, z127, z128, z200, z240, z255, z400, z480, z500, z840, z1023, z2000, z99999, z1073741824, z_nn, z_add, z_sub, z_mul, z_div, z_rem, z_cl, z_in, z_chk, z_chkp, z_bnd, z_bn2, z_wth, z_bxr, z_bxl, z_bx2r, z_bx2l, z_bz0, z_bz1, z_mx, z_mn, z_tb1, z_tb0, z_eq, z_le, z_lt, z_nn_lt, z_nn_le, z_nn_ge, z_nn_gt, z_nn_eq, z_nn_eq2, z_bit, z_wow, z_wo, z_or, z_shl, z_if, z_ifn, fbit, if_true, if_false, Nat.zero_add, Nat.add_zero, not_false_iff, not_true]
  · simp (disch := omega) only [z_nn2, z0, z1, z2, z3, z4, z5, z6, z7, z8, z9, z10, z11, z12, z13, z14, z15, z16, z17, z18, z19, z20, z23, z24, z28, z31, z32, z33, z45, z46, z47, z48, z52, z57, z60, z63, z65, z70, z80, z95, z100, z126, z127, z128, z200, z240, z255, z400, z480, z500, z840, z1023, z2000, z99999, z1073741824, z_nn, z_add, z_sub, z_mul, z_div, z_rem, z_cl, z_in, z_chk, z_chkp, z_bnd, z_bn2, z_wth, z_bxr, z_bxl, z_bx2r, z_bx2l, z_bz0, z_bz1, z_mx, z_mn, z_tb1, z_tb0, z_eq, z_le, z_lt, z_nn_lt, z_nn_le, z_nn_ge, z_nn_gt, z_nn_eq, z_nn_eq2, z_bit, z_wow, z_wo, z_or, z_shl, z_if, z_ifn, fbit, if_true, if_false, Nat.zero_add, Nat.add_zero, not_false_iff, not_true, fmean h w hi (hc (by decide))]
theorem fslotProp {A : Nat → Nat} {mm : gM} (h : CS 0 A mm) (w : WF A) (he : ECq 0 A mm) {i v : Nat} (hi : i < 6) (hv : v < 10) : LK A mm (fX5_slotProperty (nI i) (nI v) mm) (spq A i v) := by
  unfold fX5_slotProperty
  by_cases c : v < 6
  · simp (disch := omega) only [z_nn2, z0, z1, z2, z3, z4, z5, z6, z7, z8, z9, z10, z11, z12, z13, z14, z15, z16, z17, z18, z19, z20, z23, z24, z28, z31, z32, z33, z45, z46, z47, z48, z52, z57, z60, z63, z65, z70, z80, z95, z100, z126, z127, z128, z200, z240, z255, z400, z480, z500, z840, z1023, z2000, z99999, z1073741824, z_nn, z_add, z_sub, z_mul, z_div, z_rem, z_cl, z_in, z_chk, z_chkp, z_bnd, z_bn2, z_wth, z_bxr, z_bxl, z_bx2r, z_bx2l, z_bz0, z_bz1, z_mx, z_mn, z_tb1, z_tb0, z_eq, z_le, z_lt, z_nn_lt, z_nn_le, z_nn_ge, z_nn_gt, z_nn_eq, z_nn_eq2, z_bit, z_wow, z_wo, z_or, z_shl, z_if, z_ifn, fbit, if_true, if_false, Nat.zero_add, Nat.add_zero, not_false_iff, not_true]
    exact ⟨mm, fslotProp_j h w hi hv (fun z => by omega), Frq.rf, he⟩
  · obtain ⟨m2, b1, b2, b3, b4⟩ := flook h w he hi
    have hc2 : CS 0 A m2 := h.fr b2 (fun c hc => PE_cs c 0 hc)
    simp (disch := omega) only [z_nn2, z0, z1, z2, z3, z4, z5, z6, z7, z8, z9, z10, z11, z12, z13, z14, z15, z16, z17, z18, z19, z20, z23, z24, z28, z31, z32, z33, z45, z46, z47, z48, z52, z57, z60, z63, z65, z70, z80, z95, z100, z126, z127, z128, z200, z240, z255, z400, z480, z500, z840, z1023, z2000, z99999, z1073741824, z_nn, z_add, z_sub, z_mul, z_div, z_rem, z_cl, z_in, z_chk, z_chkp, z_bnd, z_bn2, z_wth, z_bxr, z_bxl, z_bx2r, z_bx2l, z_bz0, z_bz1, z_mx, z_mn, z_tb1, z_tb0, z_eq, z_le, z_lt, z_nn_lt, z_nn_le, z_nn_ge, z_nn_gt, z_nn_eq, z_nn_eq2, z_bit, z_wow, z_wo, z_or, z_shl, z_if, z_ifn, fbit, if_true, if_false, Nat.zero_add, Nat.add_zero, not_false_iff, not_true, b1]
    exact ⟨m2, fslotProp_j hc2 w hi hv (fun _ => b4), b2, b3⟩
theorem tb7 {s : Nat} (h : s < 256) : tbq s 7 = if s ≤ 127 then 0 else 1 := by
  unfold tbq
  rw [show (2 : Nat) ^ 7 = 128 from rfl]
  split <;> omega
theorem freadWell1 {A : Nat → Nat} {mm : gM} (h : RMq A mm) (w : WF A) (hv : VCq A mm) {i : Nat} (hi : i < 6) : fX6_isReadWell (nI i) mm = some (if rdq A i = A (8 + 4 * i) ∧ tbq (sn A i) 7 = A (9 + 4 * i) then nI 1 else nI 0) := by
  have h1 := w.sign hi
  have h2 := w.dot hi
  have h3 := rd_le A i
  have h4 := sn_lt A i
  rw [tb7 h4]
  unfold fX6_isReadWell jX6_isReadWell_15 jX6_isReadWell_46 jX6_isReadWell_53
  simp (disch := omega) only [z_nn2, z0, z1, z2, z3, z4, z5, z6, z7, z8, z9, z10, z11, z12, z13, z14, z15, z16, z17, z18, z19, z20, z23, z24, z28, z31, z32, z33, z45, z46, z47, z48, z52, z57, z60, z63, z65, z70, z80, z95, z100, z126, z127, z128, z200, z240, z255, z400, z480, z500, z840, z1023, z2000, z99999, z1073741824, z_nn, z_add, z_sub, z_mul, z_div, z_rem, z_cl, z_in, z_chk, z_chkp, z_bnd, z_bn2, z_wth, z_bxr, z_bxl, z_bx2r, z_bx2l, z_bz0, z_bz1, z_mx, z_mn, z_tb1, z_tb0, z_eq, z_le, z_lt, z_nn_lt, z_nn_le, z_nn_ge, z_nn_gt, z_nn_eq, z_nn_eq2, z_bit, z_wow, z_wo, z_or, z_shl, z_if, z_ifn, fbit, if_true, if_false, Nat.zero_add, Nat.add_zero, not_false_iff, not_true, fseen6 h w hv, fread6 h w hv, fof h, rI_eq, show 8 + 4 * i + 1 = 9 + 4 * i by omega]
  by_cases c0 : sn A i ≤ 127
  · simp only [if_pos c0]
    by_cases c1 : rdq A i = A (8 + 4 * i)
    · by_cases c2 : A (9 + 4 * i) = 1
      · rw [if_pos c1, if_pos c2, if_neg (fun z => by omega)]
      · rw [if_pos c1, if_neg c2, if_pos ⟨c1, by omega⟩]
    · rw [if_neg c1, if_neg (fun z => c1 z.1)]
  · simp only [if_neg c0]
    by_cases c1 : rdq A i = A (8 + 4 * i)
    · by_cases c2 : A (9 + 4 * i) = 1
      · rw [if_pos c1, if_pos c2, if_pos ⟨c1, by omega⟩]
      · rw [if_pos c1, if_neg c2, if_neg (fun z => by omega)]
    · rw [if_neg c1, if_neg (fun z => c1 z.1)]
theorem ftells {A : Nat → Nat} {mm : gM} (h : RMq A mm) (w : WF A) (hvc : VCq A mm) {i v : Nat} (hi : i < 6) (hv : v < 10) : fX6_tellsSlot (nI i) (nI v) mm = some (spq A i v) := by
  have h1 := wk_lt w hi
  unfold fX6_tellsSlot spq
  rcases (show v = 0 ∨ v = 1 ∨ v = 2 ∨ v = 3 ∨ v = 4 ∨ v = 5 ∨ v = 6 ∨ v = 7 ∨ v = 8 ∨ v = 9 by omega) with rfl | rfl | rfl | rfl | rfl | rfl | rfl | rfl | rfl | rfl
  · simp (disch := omega) only [z_nn2, z0, z1, z2, z3, z4, z5, z6, z7, z8, z9, z10, z11, z12, z13, z14, z15, z16, z17, z18, z19, z20, z23, z24, z28, z31, z32, z33, z45, z46, z47, z48, z52, z57, z60, z63, z65, z70, z80, z95, z100, z126, z127, z128, z200, z240, z255, z400, z480, z500, z840, z1023, z2000, z99999, z1073741824, z_nn, z_add, z_sub, z_mul, z_div, z_rem, z_cl, z_in, z_chk, z_chkp, z_bnd, z_bn2, z_wth, z_bxr, z_bxl, z_bx2r, z_bx2l, z_bz0, z_bz1, z_mx, z_mn, z_tb1, z_tb0, z_eq, z_le, z_lt, z_nn_lt, z_nn_le, z_nn_ge, z_nn_gt, z_nn_eq, z_nn_eq2, z_bit, z_wow, z_wo, z_or, z_shl, z_if, z_ifn, fbit, if_true, if_false, Nat.zero_add, Nat.add_zero, not_false_iff, not_true, fof h]
  · simp (disch := omega) only [z_nn2, z0, z1, z2, z3, z4, z5, z6, z7, z8, z9, z10, z11, z12, z13, z14, z15, z16, z17, z18, z19, z20, z23, z24, z28, z31, z32, z33, z45, z46, z47, z48, z52, z57, z60, z63, z65, z70, z80, z95, z100, z126, z127, z128, z200, z240, z255, z400, z480, z500, z840, z1023, z2000, z99999, z1073741824, z_nn, z_add, z_sub, z_mul, z_div, z_rem, z_cl, z_in, z_chk, z_chkp, z_bnd, z_bn2, z_wth, z_bxr, z_bxl, z_bx2r, z_bx2l, z_bz0, z_bz1, z_mx, z_mn, z_tb1, z_tb0, z_eq, z_le, z_lt, z_nn_lt, z_nn_le, z_nn_ge, z_nn_gt, z_nn_eq, z_nn_eq2, z_bit, z_wow, z_wo, z_or, z_shl, z_if, z_ifn, fbit, if_true, if_false, Nat.zero_add, Nat.add_zero, not_false_iff, not_true, fof h, show 8 + 4 * i + 1 = 9 + 4 * i by omega]
  · simp (disch := omega) only [z_nn2, z0, z1, z2, z3, z4, z5, z6, z7, z8, z9, z10, z11, z12, z13, z14, z15, z16, z17, z18, z19, z20, z23, z24, z28, z31, z32, z33, z45, z46, z47, z48, z52, z57, z60, z63, z65, z70, z80, z95, z100, z126, z127, z128, z200, z240, z255, z400, z480, z500, z840, z1023, z2000, z99999, z1073741824, z_nn, z_add, z_sub, z_mul, z_div, z_rem, z_cl, z_in, z_chk, z_chkp, z_bnd, z_bn2, z_wth, z_bxr, z_bxl, z_bx2r, z_bx2l, z_bz0, z_bz1, z_mx, z_mn, z_tb1, z_tb0, z_eq, z_le, z_lt, z_nn_lt, z_nn_le, z_nn_ge, z_nn_gt, z_nn_eq, z_nn_eq2, z_bit, z_wow, z_wo, z_or, z_shl, z_if, z_ifn, fbit, if_true, if_false, Nat.zero_add, Nat.add_zero, not_false_iff, not_true, fof h, show 8 + 4 * i + 2 = 10 + 4 * i by omega]
  · simp (disch := omega) only [z_nn2, z0, z1, z2, z3, z4, z5, z6, z7, z8, z9, z10, z11, z12, z13, z14, z15, z16, z17, z18, z19, z20, z23, z24, z28, z31, z32, z33, z45, z46, z47, z48, z52, z57, z60, z63, z65, z70, z80, z95, z100, z126, z127, z128, z200, z240, z255, z400, z480, z500, z840, z1023, z2000, z99999, z1073741824, z_nn, z_add, z_sub, z_mul, z_div, z_rem, z_cl, z_in, z_chk, z_chkp, z_bnd, z_bn2, z_wth, z_bxr, z_bxl, z_bx2r, z_bx2l, z_bz0, z_bz1, z_mx, z_mn, z_tb1, z_tb0, z_eq, z_le, z_lt, z_nn_lt, z_nn_le, z_nn_ge, z_nn_gt, z_nn_eq, z_nn_eq2, z_bit, z_wow, z_wo, z_or, z_shl, z_if, z_ifn, fbit, if_true, if_false, Nat.zero_add, Nat.add_zero, not_false_iff, not_true, fof h, show 8 + 4 * i + 3 = 11 + 4 * i by omega]
  · simp (disch := omega) only [z_nn2, z0, z1, z2, z3, z4, z5, z6, z7, z8, z9, z10, z11, z12, z13, z14, z15, z16, z17, z18, z19, z20, z23, z24, z28, z31, z32, z33, z45, z46, z47, z48, z52, z57, z60, z63, z65, z70, z80, z95, z100, z126, z127, z128, z200, z240, z255, z400, z480, z500, z840, z1023, z2000, z99999, z1073741824, z_nn, z_add, z_sub, z_mul, z_div, z_rem, z_cl, z_in, z_chk, z_chkp, z_bnd, z_bn2, z_wth, z_bxr, z_bxl, z_bx2r, z_bx2l, z_bz0, z_bz1, z_mx, z_mn, z_tb1, z_tb0, z_eq, z_le, z_lt, z_nn_lt, z_nn_le, z_nn_ge, z_nn_gt, z_nn_eq, z_nn_eq2, z_bit, z_wow, z_wo, z_or, z_shl, z_if, z_ifn, fbit, if_true, if_false, Nat.zero_add, Nat.add_zero, not_false_iff, not_true, fworks6 h w]
  · simp (disch := omega) only [z_nn2, z0, z1, z2, z3, z4, z5, z6, z7, z8, z9, z10, z11, z12, z13, z14, z15, z16, z17, z18, z19, z20, z23, z24, z28, z31, z32, z33, z45, z46, z47, z48, z52, z57, z60, z63, z65, z70, z80, z95, z100, z126, z127, z128, z200, z240, z255, z400, z480, z500, z840, z1023, z2000, z99999, z1073741824, z_nn, z_add, z_sub, z_mul, z_div, z_rem, z_cl, z_in, z_chk, z_chkp, z_bnd, z_bn2, z_wth, z_bxr, z_bxl, z_bx2r, z_bx2l, z_bz0, z_bz1, z_mx, z_mn, z_tb1, z_tb0, z_eq, z_le, z_lt, z_nn_lt, z_nn_le, z_nn_ge, z_nn_gt, z_nn_eq, z_nn_eq2, z_bit, z_wow, z_wo, z_or, z_shl, z_if, z_ifn, fbit, if_true, if_false, Nat.zero_add, Nat.add_zero, not_false_iff, not_true, flight6 h w]
  · simp (disch := omega) only [z_nn2, z0, z1, z2, z3, z4, z5, z6, z7, z8, z9, z10, z11, z12, z13, z14, z15, z16, z17, z18, z19, z20, z23, z24, z28, z31, z32, z33, z45, z46, z47, z48, z52, z57, z60, z63, z65, z70, z80, z95, z100, z126, z127, z128, z200, z240, z255, z400, z480, z500, z840, z1023, z2000, z99999, z1073741824, z_nn, z_add, z_sub, z_mul, z_div, z_rem, z_cl, z_in, z_chk, z_chkp, z_bnd, z_bn2, z_wth, z_bxr, z_bxl, z_bx2r, z_bx2l, z_bz0, z_bz1, z_mx, z_mn, z_tb1, z_tb0, z_eq, z_le, z_lt, z_nn_lt, z_nn_le, z_nn_ge, z_nn_gt, z_nn_eq, z_nn_eq2, z_bit, z_wow, z_wo, z_or, z_shl, z_if, z_ifn, fbit, if_true, if_false, Nat.zero_add, Nat.add_zero, not_false_iff, not_true, fseen6 h w hvc]
  · simp (disch := omega) only [z_nn2, z0, z1, z2, z3, z4, z5, z6, z7, z8, z9, z10, z11, z12, z13, z14, z15, z16, z17, z18, z19, z20, z23, z24, z28, z31, z32, z33, z45, z46, z47, z48, z52, z57, z60, z63, z65, z70, z80, z95, z100, z126, z127, z128, z200, z240, z255, z400, z480, z500, z840, z1023, z2000, z99999, z1073741824, z_nn, z_add, z_sub, z_mul, z_div, z_rem, z_cl, z_in, z_chk, z_chkp, z_bnd, z_bn2, z_wth, z_bxr, z_bxl, z_bx2r, z_bx2l, z_bz0, z_bz1, z_mx, z_mn, z_tb1, z_tb0, z_eq, z_le, z_lt, z_nn_lt, z_nn_le, z_nn_ge, z_nn_gt, z_nn_eq, z_nn_eq2, z_bit, z_wow, z_wo, z_or, z_shl, z_if, z_ifn, fbit, if_true, if_false, Nat.zero_add, Nat.add_zero, not_false_iff, not_true, fread6 h w hvc]
  · simp (disch := omega) only [z_nn2, z0, z1, z2, z3, z4, z5, z6, z7, z8, z9, z10, z11, z12, z13, z14, z15, z16, z17, z18, z19, z20, z23, z24, z28, z31, z32, z33, z45, z46, z47, z48, z52, z57, z60, z63, z65, z70, z80, z95, z100, z126, z127, z128, z200, z240, z255, z400, z480, z500, z840, z1023, z2000, z99999, z1073741824, z_nn, z_add, z_sub, z_mul, z_div, z_rem, z_cl, z_in, z_chk, z_chkp, z_bnd, z_bn2, z_wth, z_bxr, z_bxl, z_bx2r, z_bx2l, z_bz0, z_bz1, z_mx, z_mn, z_tb1, z_tb0, z_eq, z_le, z_lt, z_nn_lt, z_nn_le, z_nn_ge, z_nn_gt, z_nn_eq, z_nn_eq2, z_bit, z_wow, z_wo, z_or, z_shl, z_if, z_ifn, fbit, if_true, if_false, Nat.zero_add, Nat.add_zero, not_false_iff, not_true, freadWell1 h w hvc]
    split
    · simp (disch := omega) only [z_nn2, z0, z1, z2, z3, z4, z5, z6, z7, z8, z9, z10, z11, z12, z13, z14, z15, z16, z17, z18, z19, z20, z23, z24, z28, z31, z32, z33, z45, z46, z47, z48, z52, z57, z60, z63, z65, z70, z80, z95, z100, z126, z127, z128, z200, z240, z255, z400, z480, z500, z840, z1023, z2000, z99999, z1073741824, z_nn, z_add, z_sub, z_mul, z_div, z_rem, z_cl, z_in, z_chk, z_chkp, z_bnd, z_bn2, z_wth, z_bxr, z_bxl, z_bx2r, z_bx2l, z_bz0, z_bz1, z_mx, z_mn, z_tb1, z_tb0, z_eq, z_le, z_lt, z_nn_lt, z_nn_le, z_nn_ge, z_nn_gt, z_nn_eq, z_nn_eq2, z_bit, z_wow, z_wo, z_or, z_shl, z_if, z_ifn, fbit, if_true, if_false, Nat.zero_add, Nat.add_zero, not_false_iff, not_true]
    · simp (disch := omega) only [z_nn2, z0, z1, z2, z3, z4, z5, z6, z7, z8, z9, z10, z11, z12, z13, z14, z15, z16, z17, z18, z19, z20, z23, z24, z28, z31, z32, z33, z45, z46, z47, z48, z52, z57, z60, z63, z65, z70, z80, z95, z100, z126, z127, z128, z200, z240, z255, z400, z480, z500, z840, z1023, z2000, z99999, z1073741824, z_nn, z_add, z_sub, z_mul, z_div, z_rem, z_cl, z_in, z_chk, z_chkp, z_bnd, z_bn2, z_wth, z_bxr, z_bxl, z_bx2r, z_bx2l, z_bz0, z_bz1, z_mx, z_mn, z_tb1, z_tb0, z_eq, z_le, z_lt, z_nn_lt, z_nn_le, z_nn_ge, z_nn_gt, z_nn_eq, z_nn_eq2, z_bit, z_wow, z_wo, z_or, z_shl, z_if, z_ifn, fbit, if_true, if_false, Nat.zero_add, Nat.add_zero, not_false_iff, not_true]
  · simp (disch := omega) only [z_nn2, z0, z1, z2, z3, z4, z5, z6, z7, z8, z9, z10, z11, z12, z13, z14, z15, z16, z17, z18, z19, z20, z23, z24, z28, z31, z32, z33, z45, z46, z47, z48, z52, z57, z60, z63, z65, z70, z80, z95, z100, z126, z127, z128, z200, z240, z255, z400, z480, z500, z840, z1023, z2000, z99999, z1073741824, z_nn, z_add, z_sub, z_mul, z_div, z_rem, z_cl, z_in, z_chk, z_chkp, z_bnd, z_bn2, z_wth, z_bxr, z_bxl, z_bx2r, z_bx2l, z_bz0, z_bz1, z_mx, z_mn, z_tb1, z_tb0, z_eq, z_le, z_lt, z_nn_lt, z_nn_le, z_nn_ge, z_nn_gt, z_nn_eq, z_nn_eq2, z_bit, z_wow, z_wo, z_or, z_shl, z_if, z_ifn, fbit, if_true, if_false, Nat.zero_add, Nat.add_zero, not_false_iff, not_true, fmean6 h w hvc]
def sgp (A : Nat → Nat) (i k w : Nat) : Int32 := if w = 0 then nI (A (32 + (8 * i + k))) else if w = 1 then nI (br A i k) else if w = 2 then nI (mq A i k) else nI (lq A i k)
theorem fsegProp {A : Nat → Nat} {mm : gM} (h : CS 0 A mm) (w : WF A) (he : ECq 0 A mm) {i k v : Nat} (hi : i < 6) (hk : k < 8) (hv : v < 4) : LK A mm (fX5_segmentProperty (nI i) (nI k) (nI v) mm) (sgp A i k v) := by
  unfold fX5_segmentProperty sgp
  by_cases c : v = 0
  · subst c
    simp (disch := omega) only [z_nn2, z0, z1, z2, z3, z4, z5, z6, z7, z8, z9, z10, z11, z12, z13, z14, z15, z16, z17, z18, z19, z20, z23, z24, z28, z31, z32, z33, z45, z46, z47, z48, z52, z57, z60, z63, z65, z70, z80, z95, z100, z126, z127, z128, z200, z240, z255, z400, z480, z500, z840, z1023, z2000, z99999, z1073741824, z_nn, z_add, z_sub, z_mul, z_div, z_rem, z_cl, z_in, z_chk, z_chkp, z_bnd, z_bn2, z_wth, z_bxr, z_bxl, z_bx2r, z_bx2l, z_bz0, z_bz1, z_mx, z_mn, z_tb1, z_tb0, z_eq, z_le, z_lt, z_nn_lt, z_nn_le, z_nn_ge, z_nn_gt, z_nn_eq, z_nn_eq2, z_bit, z_wow, z_wo, z_or, z_shl, z_if, z_ifn, fbit, if_true, if_false, Nat.zero_add, Nat.add_zero, not_false_iff, not_true, h.glow, show i * 8 + k = 8 * i + k by omega]
    exact ⟨mm, rfl, Frq.rf, he⟩
  · obtain ⟨m2, b1, b2, b3, b4⟩ := flook h w he hi
    obtain ⟨d1, d2, d3⟩ := b4 k hk
    rcases (show v = 1 ∨ v = 2 ∨ v = 3 by omega) with rfl | rfl | rfl
    · simp (disch := omega) only [z_nn2, z0, z1, z2, z3, z4, z5, z6, z7, z8, z9, z10, z11, z12, z13, z14, z15, z16, z17, z18, z19, z20, z23, z24, z28, z31, z32, z33, z45, z46, z47, z48, z52, z57, z60, z63, z65, z70, z80, z95, z100, z126, z127, z128, z200, z240, z255, z400, z480, z500, z840, z1023, z2000, z99999, z1073741824, z_nn, z_add, z_sub, z_mul, z_div, z_rem, z_cl, z_in, z_chk, z_chkp, z_bnd, z_bn2, z_wth, z_bxr, z_bxl, z_bx2r, z_bx2l, z_bz0, z_bz1, z_mx, z_mn, z_tb1, z_tb0, z_eq, z_le, z_lt, z_nn_lt, z_nn_le, z_nn_ge, z_nn_gt, z_nn_eq, z_nn_eq2, z_bit, z_wow, z_wo, z_or, z_shl, z_if, z_ifn, fbit, if_true, if_false, Nat.zero_add, Nat.add_zero, not_false_iff, not_true, b1, d1]
      exact ⟨m2, rfl, b2, b3⟩
    · simp (disch := omega) only [z_nn2, z0, z1, z2, z3, z4, z5, z6, z7, z8, z9, z10, z11, z12, z13, z14, z15, z16, z17, z18, z19, z20, z23, z24, z28, z31, z32, z33, z45, z46, z47, z48, z52, z57, z60, z63, z65, z70, z80, z95, z100, z126, z127, z128, z200, z240, z255, z400, z480, z500, z840, z1023, z2000, z99999, z1073741824, z_nn, z_add, z_sub, z_mul, z_div, z_rem, z_cl, z_in, z_chk, z_chkp, z_bnd, z_bn2, z_wth, z_bxr, z_bxl, z_bx2r, z_bx2l, z_bz0, z_bz1, z_mx, z_mn, z_tb1, z_tb0, z_eq, z_le, z_lt, z_nn_lt, z_nn_le, z_nn_ge, z_nn_gt, z_nn_eq, z_nn_eq2, z_bit, z_wow, z_wo, z_or, z_shl, z_if, z_ifn, fbit, if_true, if_false, Nat.zero_add, Nat.add_zero, not_false_iff, not_true, b1, d2]
      exact ⟨m2, rfl, b2, b3⟩
    · simp (disch := omega) only [z_nn2, z0, z1, z2, z3, z4, z5, z6, z7, z8, z9, z10, z11, z12, z13, z14, z15, z16, z17, z18, z19, z20, z23, z24, z28, z31, z32, z33, z45, z46, z47, z48, z52, z57, z60, z63, z65, z70, z80, z95, z100, z126, z127, z128, z200, z240, z255, z400, z480, z500, z840, z1023, z2000, z99999, z1073741824, z_nn, z_add, z_sub, z_mul, z_div, z_rem, z_cl, z_in, z_chk, z_chkp, z_bnd, z_bn2, z_wth, z_bxr, z_bxl, z_bx2r, z_bx2l, z_bz0, z_bz1, z_mx, z_mn, z_tb1, z_tb0, z_eq, z_le, z_lt, z_nn_lt, z_nn_le, z_nn_ge, z_nn_gt, z_nn_eq, z_nn_eq2, z_bit, z_wow, z_wo, z_or, z_shl, z_if, z_ifn, fbit, if_true, if_false, Nat.zero_add, Nat.add_zero, not_false_iff, not_true, b1, d3]
      exact ⟨m2, rfl, b2, b3⟩
theorem ftellsSeg {A : Nat → Nat} {mm : gM} (h : RMq A mm) (w : WF A) (hvc : VCq A mm) {i k v : Nat} (hi : i < 6) (hk : k < 8) (hv : v < 4) : fX6_tellsSegment (nI i) (nI k) (nI v) mm = some (sgp A i k v) := by
  obtain ⟨d1, d2, d3⟩ := hvc i k hi hk
  unfold fX6_tellsSegment sgp
  rcases (show v = 0 ∨ v = 1 ∨ v = 2 ∨ v = 3 by omega) with rfl | rfl | rfl | rfl
  · simp (disch := omega) only [z_nn2, z0, z1, z2, z3, z4, z5, z6, z7, z8, z9, z10, z11, z12, z13, z14, z15, z16, z17, z18, z19, z20, z23, z24, z28, z31, z32, z33, z45, z46, z47, z48, z52, z57, z60, z63, z65, z70, z80, z95, z100, z126, z127, z128, z200, z240, z255, z400, z480, z500, z840, z1023, z2000, z99999, z1073741824, z_nn, z_add, z_sub, z_mul, z_div, z_rem, z_cl, z_in, z_chk, z_chkp, z_bnd, z_bn2, z_wth, z_bxr, z_bxl, z_bx2r, z_bx2l, z_bz0, z_bz1, z_mx, z_mn, z_tb1, z_tb0, z_eq, z_le, z_lt, z_nn_lt, z_nn_le, z_nn_ge, z_nn_gt, z_nn_eq, z_nn_eq2, z_bit, z_wow, z_wo, z_or, z_shl, z_if, z_ifn, fbit, if_true, if_false, Nat.zero_add, Nat.add_zero, not_false_iff, not_true, h _]
  · simp (disch := omega) only [z_nn2, z0, z1, z2, z3, z4, z5, z6, z7, z8, z9, z10, z11, z12, z13, z14, z15, z16, z17, z18, z19, z20, z23, z24, z28, z31, z32, z33, z45, z46, z47, z48, z52, z57, z60, z63, z65, z70, z80, z95, z100, z126, z127, z128, z200, z240, z255, z400, z480, z500, z840, z1023, z2000, z99999, z1073741824, z_nn, z_add, z_sub, z_mul, z_div, z_rem, z_cl, z_in, z_chk, z_chkp, z_bnd, z_bn2, z_wth, z_bxr, z_bxl, z_bx2r, z_bx2l, z_bz0, z_bz1, z_mx, z_mn, z_tb1, z_tb0, z_eq, z_le, z_lt, z_nn_lt, z_nn_le, z_nn_ge, z_nn_gt, z_nn_eq, z_nn_eq2, z_bit, z_wow, z_wo, z_or, z_shl, z_if, z_ifn, fbit, if_true, if_false, Nat.zero_add, Nat.add_zero, not_false_iff, not_true, fbr6 h w hvc]
  · simp (disch := omega) only [z_nn2, z0, z1, z2, z3, z4, z5, z6, z7, z8, z9, z10, z11, z12, z13, z14, z15, z16, z17, z18, z19, z20, z23, z24, z28, z31, z32, z33, z45, z46, z47, z48, z52, z57, z60, z63, z65, z70, z80, z95, z100, z126, z127, z128, z200, z240, z255, z400, z480, z500, z840, z1023, z2000, z99999, z1073741824, z_nn, z_add, z_sub, z_mul, z_div, z_rem, z_cl, z_in, z_chk, z_chkp, z_bnd, z_bn2, z_wth, z_bxr, z_bxl, z_bx2r, z_bx2l, z_bz0, z_bz1, z_mx, z_mn, z_tb1, z_tb0, z_eq, z_le, z_lt, z_nn_lt, z_nn_le, z_nn_ge, z_nn_gt, z_nn_eq, z_nn_eq2, z_bit, z_wow, z_wo, z_or, z_shl, z_if, z_ifn, fbit, if_true, if_false, Nat.zero_add, Nat.add_zero, not_false_iff, not_true, d2]
  · simp (disch := omega) only [z_nn2, z0, z1, z2, z3, z4, z5, z6, z7, z8, z9, z10, z11, z12, z13, z14, z15, z16, z17, z18, z19, z20, z23, z24, z28, z31, z32, z33, z45, z46, z47, z48, z52, z57, z60, z63, z65, z70, z80, z95, z100, z126, z127, z128, z200, z240, z255, z400, z480, z500, z840, z1023, z2000, z99999, z1073741824, z_nn, z_add, z_sub, z_mul, z_div, z_rem, z_cl, z_in, z_chk, z_chkp, z_bnd, z_bn2, z_wth, z_bxr, z_bxl, z_bx2r, z_bx2l, z_bz0, z_bz1, z_mx, z_mn, z_tb1, z_tb0, z_eq, z_le, z_lt, z_nn_lt, z_nn_le, z_nn_ge, z_nn_gt, z_nn_eq, z_nn_eq2, z_bit, z_wow, z_wo, z_or, z_shl, z_if, z_ifn, fbit, if_true, if_false, Nat.zero_add, Nat.add_zero, not_false_iff, not_true, d3]
def np (A : Nat → Nat) (sv : Nat) (x3 : Int32) (w : Nat) : Int32 :=
  if w = 0 then nI (A 5) else if w = 1 then nI (rt A) else if w = 2 then nI (A 6) else if w = 3 then x3 else if w = 4 then nI (A 7) else if w = 5 then nI (lbs A 6) else if w = 6 then nI (lbs A 6) else if w = 7 then nI (A 4) else if w = 8 then nI (wsl A 6) else if w = 9 then nI (rws A 6) else if w = 10 then nI (hiM A 6 - loM A 6) else if w = 11 then nI (fkr A 48) else nI sv
theorem LK.same {A : Nat → Nat} {mm : gM} {o : Option Int32} {v : Int32} (he : ECq 0 A mm) (h : o = some v) : LK A mm (bnd o (fun r => some (r, mm))) v := by
  rw [h]
  exact ⟨mm, rfl, Frq.rf, he⟩
theorem LK.pass {A : Nat → Nat} {mm : gM} {o : Option (Int32 × gM)} {v : Int32} (h : LK A mm o v) : LK A mm (bn2 o (fun r m => some (r, m))) v := by
  obtain ⟨m1, e, h2⟩ := h
  rw [e]
  exact ⟨m1, rfl, h2⟩
theorem fnumber {A : Nat → Nat} {mm : gM} {sv : Nat} {x3 : Int32} (h : CS 0 A mm) (w : WF A) (he : ECq 0 A mm) (hx : ∀ m, CS 0 A m → fX2_litIn 0 (nI (A 6)) m = some x3) (hsv : gi mm 12 0 9 = nI sv) {v : Nat} (hv : v < 13) : LK A mm (fX5_number (nI v) mm) (np A sv x3 v) := by
  unfold fX5_number np
  rcases (show v = 0 ∨ v = 1 ∨ v = 2 ∨ v = 3 ∨ v = 4 ∨ v = 5 ∨ v = 6 ∨ v = 7 ∨ v = 8 ∨ v = 9 ∨ v = 10 ∨ v = 11 ∨ v = 12 by omega) with rfl | rfl | rfl | rfl | rfl | rfl | rfl | rfl | rfl | rfl | rfl | rfl | rfl
  · simp (disch := omega) only [z_nn2, z0, z1, z2, z3, z4, z5, z6, z7, z8, z9, z10, z11, z12, z13, z14, z15, z16, z17, z18, z19, z20, z23, z24, z28, z31, z32, z33, z45, z46, z47, z48, z52, z57, z60, z63, z65, z70, z80, z95, z100, z126, z127, z128, z200, z240, z255, z400, z480, z500, z840, z1023, z2000, z99999, z1073741824, z_nn, z_add, z_sub, z_mul, z_div, z_rem, z_cl, z_in, z_chk, z_chkp, z_bnd, z_bn2, z_wth, z_bxr, z_bxl, z_bx2r, z_bx2l, z_bz0, z_bz1, z_mx, z_mn, z_tb1, z_tb0, z_eq, z_le, z_lt, z_nn_lt, z_nn_le, z_nn_ge, z_nn_gt, z_nn_eq, z_nn_eq2, z_bit, z_wow, z_wo, z_or, z_shl, z_if, z_ifn, fbit, if_true, if_false, Nat.zero_add, Nat.add_zero, not_false_iff, not_true, h.ticks]
    exact ⟨mm, rfl, Frq.rf, he⟩
  · simp (disch := omega) only [z_nn2, z0, z1, z2, z3, z4, z5, z6, z7, z8, z9, z10, z11, z12, z13, z14, z15, z16, z17, z18, z19, z20, z23, z24, z28, z31, z32, z33, z45, z46, z47, z48, z52, z57, z60, z63, z65, z70, z80, z95, z100, z126, z127, z128, z200, z240, z255, z400, z480, z500, z840, z1023, z2000, z99999, z1073741824, z_nn, z_add, z_sub, z_mul, z_div, z_rem, z_cl, z_in, z_chk, z_chkp, z_bnd, z_bn2, z_wth, z_bxr, z_bxl, z_bx2r, z_bx2l, z_bz0, z_bz1, z_mx, z_mn, z_tb1, z_tb0, z_eq, z_le, z_lt, z_nn_lt, z_nn_le, z_nn_ge, z_nn_gt, z_nn_eq, z_nn_eq2, z_bit, z_wow, z_wo, z_or, z_shl, z_if, z_ifn, fbit, if_true, if_false, Nat.zero_add, Nat.add_zero, not_false_iff, not_true, frt h w]
    exact ⟨mm, rfl, Frq.rf, he⟩
  · simp (disch := omega) only [z_nn2, z0, z1, z2, z3, z4, z5, z6, z7, z8, z9, z10, z11, z12, z13, z14, z15, z16, z17, z18, z19, z20, z23, z24, z28, z31, z32, z33, z45, z46, z47, z48, z52, z57, z60, z63, z65, z70, z80, z95, z100, z126, z127, z128, z200, z240, z255, z400, z480, z500, z840, z1023, z2000, z99999, z1073741824, z_nn, z_add, z_sub, z_mul, z_div, z_rem, z_cl, z_in, z_chk, z_chkp, z_bnd, z_bn2, z_wth, z_bxr, z_bxl, z_bx2r, z_bx2l, z_bz0, z_bz1, z_mx, z_mn, z_tb1, z_tb0, z_eq, z_le, z_lt, z_nn_lt, z_nn_le, z_nn_ge, z_nn_gt, z_nn_eq, z_nn_eq2, z_bit, z_wow, z_wo, z_or, z_shl, z_if, z_ifn, fbit, if_true, if_false, Nat.zero_add, Nat.add_zero, not_false_iff, not_true, h.pos]
    exact ⟨mm, rfl, Frq.rf, he⟩
  · simp (disch := omega) only [z_nn2, z0, z1, z2, z3, z4, z5, z6, z7, z8, z9, z10, z11, z12, z13, z14, z15, z16, z17, z18, z19, z20, z23, z24, z28, z31, z32, z33, z45, z46, z47, z48, z52, z57, z60, z63, z65, z70, z80, z95, z100, z126, z127, z128, z200, z240, z255, z400, z480, z500, z840, z1023, z2000, z99999, z1073741824, z_nn, z_add, z_sub, z_mul, z_div, z_rem, z_cl, z_in, z_chk, z_chkp, z_bnd, z_bn2, z_wth, z_bxr, z_bxl, z_bx2r, z_bx2l, z_bz0, z_bz1, z_mx, z_mn, z_tb1, z_tb0, z_eq, z_le, z_lt, z_nn_lt, z_nn_le, z_nn_ge, z_nn_gt, z_nn_eq, z_nn_eq2, z_bit, z_wow, z_wo, z_or, z_shl, z_if, z_ifn, fbit, if_true, if_false, Nat.zero_add, Nat.add_zero, not_false_iff, not_true, h.pos, hx mm h]
    exact ⟨mm, rfl, Frq.rf, he⟩
  · simp (disch := omega) only [z_nn2, z0, z1, z2, z3, z4, z5, z6, z7, z8, z9, z10, z11, z12, z13, z14, z15, z16, z17, z18, z19, z20, z23, z24, z28, z31, z32, z33, z45, z46, z47, z48, z52, z57, z60, z63, z65, z70, z80, z95, z100, z126, z127, z128, z200, z240, z255, z400, z480, z500, z840, z1023, z2000, z99999, z1073741824, z_nn, z_add, z_sub, z_mul, z_div, z_rem, z_cl, z_in, z_chk, z_chkp, z_bnd, z_bn2, z_wth, z_bxr, z_bxl, z_bx2r, z_bx2l, z_bz0, z_bz1, z_mx, z_mn, z_tb1, z_tb0, z_eq, z_le, z_lt, z_nn_lt, z_nn_le, z_nn_ge, z_nn_gt, z_nn_eq, z_nn_eq2, z_bit, z_wow, z_wo, z_or, z_shl, z_if, z_ifn, fbit, if_true, if_false, Nat.zero_add, Nat.add_zero, not_false_iff, not_true, h.rounds]
    exact ⟨mm, rfl, Frq.rf, he⟩
  · simp (disch := omega) only [z_nn2, z0, z1, z2, z3, z4, z5, z6, z7, z8, z9, z10, z11, z12, z13, z14, z15, z16, z17, z18, z19, z20, z23, z24, z28, z31, z32, z33, z45, z46, z47, z48, z52, z57, z60, z63, z65, z70, z80, z95, z100, z126, z127, z128, z200, z240, z255, z400, z480, z500, z840, z1023, z2000, z99999, z1073741824, z_nn, z_add, z_sub, z_mul, z_div, z_rem, z_cl, z_in, z_chk, z_chkp, z_bnd, z_bn2, z_wth, z_bxr, z_bxl, z_bx2r, z_bx2l, z_bz0, z_bz1, z_mx, z_mn, z_tb1, z_tb0, z_eq, z_le, z_lt, z_nn_lt, z_nn_le, z_nn_ge, z_nn_gt, z_nn_eq, z_nn_eq2, z_bit, z_wow, z_wo, z_or, z_shl, z_if, z_ifn, fbit, if_true, if_false, Nat.zero_add, Nat.add_zero, not_false_iff, not_true, flightByTicks h w]
    exact ⟨mm, rfl, Frq.rf, he⟩
  · simp (disch := omega) only [z_nn2, z0, z1, z2, z3, z4, z5, z6, z7, z8, z9, z10, z11, z12, z13, z14, z15, z16, z17, z18, z19, z20, z23, z24, z28, z31, z32, z33, z45, z46, z47, z48, z52, z57, z60, z63, z65, z70, z80, z95, z100, z126, z127, z128, z200, z240, z255, z400, z480, z500, z840, z1023, z2000, z99999, z1073741824, z_nn, z_add, z_sub, z_mul, z_div, z_rem, z_cl, z_in, z_chk, z_chkp, z_bnd, z_bn2, z_wth, z_bxr, z_bxl, z_bx2r, z_bx2l, z_bz0, z_bz1, z_mx, z_mn, z_tb1, z_tb0, z_eq, z_le, z_lt, z_nn_lt, z_nn_le, z_nn_ge, z_nn_gt, z_nn_eq, z_nn_eq2, z_bit, z_wow, z_wo, z_or, z_shl, z_if, z_ifn, fbit, if_true, if_false, Nat.zero_add, Nat.add_zero, not_false_iff, not_true, flightBySlots h w]
    exact ⟨mm, rfl, Frq.rf, he⟩
  · simp (disch := omega) only [z_nn2, z0, z1, z2, z3, z4, z5, z6, z7, z8, z9, z10, z11, z12, z13, z14, z15, z16, z17, z18, z19, z20, z23, z24, z28, z31, z32, z33, z45, z46, z47, z48, z52, z57, z60, z63, z65, z70, z80, z95, z100, z126, z127, z128, z200, z240, z255, z400, z480, z500, z840, z1023, z2000, z99999, z1073741824, z_nn, z_add, z_sub, z_mul, z_div, z_rem, z_cl, z_in, z_chk, z_chkp, z_bnd, z_bn2, z_wth, z_bxr, z_bxl, z_bx2r, z_bx2l, z_bz0, z_bz1, z_mx, z_mn, z_tb1, z_tb0, z_eq, z_le, z_lt, z_nn_lt, z_nn_le, z_nn_ge, z_nn_gt, z_nn_eq, z_nn_eq2, z_bit, z_wow, z_wo, z_or, z_shl, z_if, z_ifn, fbit, if_true, if_false, Nat.zero_add, Nat.add_zero, not_false_iff, not_true, h.cut]
    exact ⟨mm, rfl, Frq.rf, he⟩
  · simp (disch := omega) only [z_nn2, z0, z1, z2, z3, z4, z5, z6, z7, z8, z9, z10, z11, z12, z13, z14, z15, z16, z17, z18, z19, z20, z23, z24, z28, z31, z32, z33, z45, z46, z47, z48, z52, z57, z60, z63, z65, z70, z80, z95, z100, z126, z127, z128, z200, z240, z255, z400, z480, z500, z840, z1023, z2000, z99999, z1073741824, z_nn, z_add, z_sub, z_mul, z_div, z_rem, z_cl, z_in, z_chk, z_chkp, z_bnd, z_bn2, z_wth, z_bxr, z_bxl, z_bx2r, z_bx2l, z_bz0, z_bz1, z_mx, z_mn, z_tb1, z_tb0, z_eq, z_le, z_lt, z_nn_lt, z_nn_le, z_nn_ge, z_nn_gt, z_nn_eq, z_nn_eq2, z_bit, z_wow, z_wo, z_or, z_shl, z_if, z_ifn, fbit, if_true, if_false, Nat.zero_add, Nat.add_zero, not_false_iff, not_true, fworkingSlots h w]
    exact ⟨mm, rfl, Frq.rf, he⟩
  · simp (disch := omega) only [z_nn2, z0, z1, z2, z3, z4, z5, z6, z7, z8, z9, z10, z11, z12, z13, z14, z15, z16, z17, z18, z19, z20, z23, z24, z28, z31, z32, z33, z45, z46, z47, z48, z52, z57, z60, z63, z65, z70, z80, z95, z100, z126, z127, z128, z200, z240, z255, z400, z480, z500, z840, z1023, z2000, z99999, z1073741824, z_nn, z_add, z_sub, z_mul, z_div, z_rem, z_cl, z_in, z_chk, z_chkp, z_bnd, z_bn2, z_wth, z_bxr, z_bxl, z_bx2r, z_bx2l, z_bz0, z_bz1, z_mx, z_mn, z_tb1, z_tb0, z_eq, z_le, z_lt, z_nn_lt, z_nn_le, z_nn_ge, z_nn_gt, z_nn_eq, z_nn_eq2, z_bit, z_wow, z_wo, z_or, z_shl, z_if, z_ifn, fbit, if_true, if_false, Nat.zero_add, Nat.add_zero, not_false_iff, not_true]
    exact (freadWell h w he).pass
  · simp (disch := omega) only [z_nn2, z0, z1, z2, z3, z4, z5, z6, z7, z8, z9, z10, z11, z12, z13, z14, z15, z16, z17, z18, z19, z20, z23, z24, z28, z31, z32, z33, z45, z46, z47, z48, z52, z57, z60, z63, z65, z70, z80, z95, z100, z126, z127, z128, z200, z240, z255, z400, z480, z500, z840, z1023, z2000, z99999, z1073741824, z_nn, z_add, z_sub, z_mul, z_div, z_rem, z_cl, z_in, z_chk, z_chkp, z_bnd, z_bn2, z_wth, z_bxr, z_bxl, z_bx2r, z_bx2l, z_bz0, z_bz1, z_mx, z_mn, z_tb1, z_tb0, z_eq, z_le, z_lt, z_nn_lt, z_nn_le, z_nn_ge, z_nn_gt, z_nn_eq, z_nn_eq2, z_bit, z_wow, z_wo, z_or, z_shl, z_if, z_ifn, fbit, if_true, if_false, Nat.zero_add, Nat.add_zero, not_false_iff, not_true]
    exact (funeven h w he).pass
  · simp (disch := omega) only [z_nn2, z0, z1, z2, z3, z4, z5, z6, z7, z8, z9, z10, z11, z12, z13, z14, z15, z16, z17, z18, z19, z20, z23, z24, z28, z31, z32, z33, z45, z46, z47, z48, z52, z57, z60, z63, z65, z70, z80, z95, z100, z126, z127, z128, z200, z240, z255, z400, z480, z500, z840, z1023, z2000, z99999, z1073741824, z_nn, z_add, z_sub, z_mul, z_div, z_rem, z_cl, z_in, z_chk, z_chkp, z_bnd, z_bn2, z_wth, z_bxr, z_bxl, z_bx2r, z_bx2l, z_bz0, z_bz1, z_mx, z_mn, z_tb1, z_tb0, z_eq, z_le, z_lt, z_nn_lt, z_nn_le, z_nn_ge, z_nn_gt, z_nn_eq, z_nn_eq2, z_bit, z_wow, z_wo, z_or, z_shl, z_if, z_ifn, fbit, if_true, if_false, Nat.zero_add, Nat.add_zero, not_false_iff, not_true]
    exact (fflicker h w he).pass
  · simp (disch := omega) only [z_nn2, z0, z1, z2, z3, z4, z5, z6, z7, z8, z9, z10, z11, z12, z13, z14, z15, z16, z17, z18, z19, z20, z23, z24, z28, z31, z32, z33, z45, z46, z47, z48, z52, z57, z60, z63, z65, z70, z80, z95, z100, z126, z127, z128, z200, z240, z255, z400, z480, z500, z840, z1023, z2000, z99999, z1073741824, z_nn, z_add, z_sub, z_mul, z_div, z_rem, z_cl, z_in, z_chk, z_chkp, z_bnd, z_bn2, z_wth, z_bxr, z_bxl, z_bx2r, z_bx2l, z_bz0, z_bz1, z_mx, z_mn, z_tb1, z_tb0, z_eq, z_le, z_lt, z_nn_lt, z_nn_le, z_nn_ge, z_nn_gt, z_nn_eq, z_nn_eq2, z_bit, z_wow, z_wo, z_or, z_shl, z_if, z_ifn, fbit, if_true, if_false, Nat.zero_add, Nat.add_zero, not_false_iff, not_true, hsv]
    exact ⟨mm, rfl, Frq.rf, he⟩
theorem fnumber6 {A : Nat → Nat} {mm : gM} {sv : Nat} {x3 : Int32} (h : RMq A mm) (w : WF A) (hvc : VCq A mm) (hx : ∀ m, RMq A m → fX6_nextLit m = some x3) (hsv : gi mm 21 0 3 = nI sv) {v : Nat} (hv : v < 13) : fX6_tellsCount (nI v) mm = some (np A sv x3 v) := by
  unfold fX6_tellsCount np
  rcases (show v = 0 ∨ v = 1 ∨ v = 2 ∨ v = 3 ∨ v = 4 ∨ v = 5 ∨ v = 6 ∨ v = 7 ∨ v = 8 ∨ v = 9 ∨ v = 10 ∨ v = 11 ∨ v = 12 by omega) with rfl | rfl | rfl | rfl | rfl | rfl | rfl | rfl | rfl | rfl | rfl | rfl | rfl
  · simp (disch := omega) only [z_nn2, z0, z1, z2, z3, z4, z5, z6, z7, z8, z9, z10, z11, z12, z13, z14, z15, z16, z17, z18, z19, z20, z23, z24, z28, z31, z32, z33, z45, z46, z47, z48, z52, z57, z60, z63, z65, z70, z80, z95, z100, z126, z127, z128, z200, z240, z255, z400, z480, z500, z840, z1023, z2000, z99999, z1073741824, z_nn, z_add, z_sub, z_mul, z_div, z_rem, z_cl, z_in, z_chk, z_chkp, z_bnd, z_bn2, z_wth, z_bxr, z_bxl, z_bx2r, z_bx2l, z_bz0, z_bz1, z_mx, z_mn, z_tb1, z_tb0, z_eq, z_le, z_lt, z_nn_lt, z_nn_le, z_nn_ge, z_nn_gt, z_nn_eq, z_nn_eq2, z_bit, z_wow, z_wo, z_or, z_shl, z_if, z_ifn, fbit, if_true, if_false, Nat.zero_add, Nat.add_zero, not_false_iff, not_true, h 5]
  · simp (disch := omega) only [z_nn2, z0, z1, z2, z3, z4, z5, z6, z7, z8, z9, z10, z11, z12, z13, z14, z15, z16, z17, z18, z19, z20, z23, z24, z28, z31, z32, z33, z45, z46, z47, z48, z52, z57, z60, z63, z65, z70, z80, z95, z100, z126, z127, z128, z200, z240, z255, z400, z480, z500, z840, z1023, z2000, z99999, z1073741824, z_nn, z_add, z_sub, z_mul, z_div, z_rem, z_cl, z_in, z_chk, z_chkp, z_bnd, z_bn2, z_wth, z_bxr, z_bxl, z_bx2r, z_bx2l, z_bz0, z_bz1, z_mx, z_mn, z_tb1, z_tb0, z_eq, z_le, z_lt, z_nn_lt, z_nn_le, z_nn_ge, z_nn_gt, z_nn_eq, z_nn_eq2, z_bit, z_wow, z_wo, z_or, z_shl, z_if, z_ifn, fbit, if_true, if_false, Nat.zero_add, Nat.add_zero, not_false_iff, not_true, frt6 h w]
  · simp (disch := omega) only [z_nn2, z0, z1, z2, z3, z4, z5, z6, z7, z8, z9, z10, z11, z12, z13, z14, z15, z16, z17, z18, z19, z20, z23, z24, z28, z31, z32, z33, z45, z46, z47, z48, z52, z57, z60, z63, z65, z70, z80, z95, z100, z126, z127, z128, z200, z240, z255, z400, z480, z500, z840, z1023, z2000, z99999, z1073741824, z_nn, z_add, z_sub, z_mul, z_div, z_rem, z_cl, z_in, z_chk, z_chkp, z_bnd, z_bn2, z_wth, z_bxr, z_bxl, z_bx2r, z_bx2l, z_bz0, z_bz1, z_mx, z_mn, z_tb1, z_tb0, z_eq, z_le, z_lt, z_nn_lt, z_nn_le, z_nn_ge, z_nn_gt, z_nn_eq, z_nn_eq2, z_bit, z_wow, z_wo, z_or, z_shl, z_if, z_ifn, fbit, if_true, if_false, Nat.zero_add, Nat.add_zero, not_false_iff, not_true, h 6]
  · simp (disch := omega) only [z_nn2, z0, z1, z2, z3, z4, z5, z6, z7, z8, z9, z10, z11, z12, z13, z14, z15, z16, z17, z18, z19, z20, z23, z24, z28, z31, z32, z33, z45, z46, z47, z48, z52, z57, z60, z63, z65, z70, z80, z95, z100, z126, z127, z128, z200, z240, z255, z400, z480, z500, z840, z1023, z2000, z99999, z1073741824, z_nn, z_add, z_sub, z_mul, z_div, z_rem, z_cl, z_in, z_chk, z_chkp, z_bnd, z_bn2, z_wth, z_bxr, z_bxl, z_bx2r, z_bx2l, z_bz0, z_bz1, z_mx, z_mn, z_tb1, z_tb0, z_eq, z_le, z_lt, z_nn_lt, z_nn_le, z_nn_ge, z_nn_gt, z_nn_eq, z_nn_eq2, z_bit, z_wow, z_wo, z_or, z_shl, z_if, z_ifn, fbit, if_true, if_false, Nat.zero_add, Nat.add_zero, not_false_iff, not_true, hx mm h]
  · simp (disch := omega) only [z_nn2, z0, z1, z2, z3, z4, z5, z6, z7, z8, z9, z10, z11, z12, z13, z14, z15, z16, z17, z18, z19, z20, z23, z24, z28, z31, z32, z33, z45, z46, z47, z48, z52, z57, z60, z63, z65, z70, z80, z95, z100, z126, z127, z128, z200, z240, z255, z400, z480, z500, z840, z1023, z2000, z99999, z1073741824, z_nn, z_add, z_sub, z_mul, z_div, z_rem, z_cl, z_in, z_chk, z_chkp, z_bnd, z_bn2, z_wth, z_bxr, z_bxl, z_bx2r, z_bx2l, z_bz0, z_bz1, z_mx, z_mn, z_tb1, z_tb0, z_eq, z_le, z_lt, z_nn_lt, z_nn_le, z_nn_ge, z_nn_gt, z_nn_eq, z_nn_eq2, z_bit, z_wow, z_wo, z_or, z_shl, z_if, z_ifn, fbit, if_true, if_false, Nat.zero_add, Nat.add_zero, not_false_iff, not_true, h 7]
  · simp (disch := omega) only [z_nn2, z0, z1, z2, z3, z4, z5, z6, z7, z8, z9, z10, z11, z12, z13, z14, z15, z16, z17, z18, z19, z20, z23, z24, z28, z31, z32, z33, z45, z46, z47, z48, z52, z57, z60, z63, z65, z70, z80, z95, z100, z126, z127, z128, z200, z240, z255, z400, z480, z500, z840, z1023, z2000, z99999, z1073741824, z_nn, z_add, z_sub, z_mul, z_div, z_rem, z_cl, z_in, z_chk, z_chkp, z_bnd, z_bn2, z_wth, z_bxr, z_bxl, z_bx2r, z_bx2l, z_bz0, z_bz1, z_mx, z_mn, z_tb1, z_tb0, z_eq, z_le, z_lt, z_nn_lt, z_nn_le, z_nn_ge, z_nn_gt, z_nn_eq, z_nn_eq2, z_bit, z_wow, z_wo, z_or, z_shl, z_if, z_ifn, fbit, if_true, if_false, Nat.zero_add, Nat.add_zero, not_false_iff, not_true, fallLight h w]
  · simp (disch := omega) only [z_nn2, z0, z1, z2, z3, z4, z5, z6, z7, z8, z9, z10, z11, z12, z13, z14, z15, z16, z17, z18, z19, z20, z23, z24, z28, z31, z32, z33, z45, z46, z47, z48, z52, z57, z60, z63, z65, z70, z80, z95, z100, z126, z127, z128, z200, z240, z255, z400, z480, z500, z840, z1023, z2000, z99999, z1073741824, z_nn, z_add, z_sub, z_mul, z_div, z_rem, z_cl, z_in, z_chk, z_chkp, z_bnd, z_bn2, z_wth, z_bxr, z_bxl, z_bx2r, z_bx2l, z_bz0, z_bz1, z_mx, z_mn, z_tb1, z_tb0, z_eq, z_le, z_lt, z_nn_lt, z_nn_le, z_nn_ge, z_nn_gt, z_nn_eq, z_nn_eq2, z_bit, z_wow, z_wo, z_or, z_shl, z_if, z_ifn, fbit, if_true, if_false, Nat.zero_add, Nat.add_zero, not_false_iff, not_true, fallLight h w]
  · simp (disch := omega) only [z_nn2, z0, z1, z2, z3, z4, z5, z6, z7, z8, z9, z10, z11, z12, z13, z14, z15, z16, z17, z18, z19, z20, z23, z24, z28, z31, z32, z33, z45, z46, z47, z48, z52, z57, z60, z63, z65, z70, z80, z95, z100, z126, z127, z128, z200, z240, z255, z400, z480, z500, z840, z1023, z2000, z99999, z1073741824, z_nn, z_add, z_sub, z_mul, z_div, z_rem, z_cl, z_in, z_chk, z_chkp, z_bnd, z_bn2, z_wth, z_bxr, z_bxl, z_bx2r, z_bx2l, z_bz0, z_bz1, z_mx, z_mn, z_tb1, z_tb0, z_eq, z_le, z_lt, z_nn_lt, z_nn_le, z_nn_ge, z_nn_gt, z_nn_eq, z_nn_eq2, z_bit, z_wow, z_wo, z_or, z_shl, z_if, z_ifn, fbit, if_true, if_false, Nat.zero_add, Nat.add_zero, not_false_iff, not_true, h 4]
  · simp (disch := omega) only [z_nn2, z0, z1, z2, z3, z4, z5, z6, z7, z8, z9, z10, z11, z12, z13, z14, z15, z16, z17, z18, z19, z20, z23, z24, z28, z31, z32, z33, z45, z46, z47, z48, z52, z57, z60, z63, z65, z70, z80, z95, z100, z126, z127, z128, z200, z240, z255, z400, z480, z500, z840, z1023, z2000, z99999, z1073741824, z_nn, z_add, z_sub, z_mul, z_div, z_rem, z_cl, z_in, z_chk, z_chkp, z_bnd, z_bn2, z_wth, z_bxr, z_bxl, z_bx2r, z_bx2l, z_bz0, z_bz1, z_mx, z_mn, z_tb1, z_tb0, z_eq, z_le, z_lt, z_nn_lt, z_nn_le, z_nn_ge, z_nn_gt, z_nn_eq, z_nn_eq2, z_bit, z_wow, z_wo, z_or, z_shl, z_if, z_ifn, fbit, if_true, if_false, Nat.zero_add, Nat.add_zero, not_false_iff, not_true, fworkingSlots6 h w]
  · simp (disch := omega) only [z_nn2, z0, z1, z2, z3, z4, z5, z6, z7, z8, z9, z10, z11, z12, z13, z14, z15, z16, z17, z18, z19, z20, z23, z24, z28, z31, z32, z33, z45, z46, z47, z48, z52, z57, z60, z63, z65, z70, z80, z95, z100, z126, z127, z128, z200, z240, z255, z400, z480, z500, z840, z1023, z2000, z99999, z1073741824, z_nn, z_add, z_sub, z_mul, z_div, z_rem, z_cl, z_in, z_chk, z_chkp, z_bnd, z_bn2, z_wth, z_bxr, z_bxl, z_bx2r, z_bx2l, z_bz0, z_bz1, z_mx, z_mn, z_tb1, z_tb0, z_eq, z_le, z_lt, z_nn_lt, z_nn_le, z_nn_ge, z_nn_gt, z_nn_eq, z_nn_eq2, z_bit, z_wow, z_wo, z_or, z_shl, z_if, z_ifn, fbit, if_true, if_false, Nat.zero_add, Nat.add_zero, not_false_iff, not_true, freadWell6 h w hvc]
  · simp (disch := omega) only [z_nn2, z0, z1, z2, z3, z4, z5, z6, z7, z8, z9, z10, z11, z12, z13, z14, z15, z16, z17, z18, z19, z20, z23, z24, z28, z31, z32, z33, z45, z46, z47, z48, z52, z57, z60, z63, z65, z70, z80, z95, z100, z126, z127, z128, z200, z240, z255, z400, z480, z500, z840, z1023, z2000, z99999, z1073741824, z_nn, z_add, z_sub, z_mul, z_div, z_rem, z_cl, z_in, z_chk, z_chkp, z_bnd, z_bn2, z_wth, z_bxr, z_bxl, z_bx2r, z_bx2l, z_bz0, z_bz1, z_mx, z_mn, z_tb1, z_tb0, z_eq, z_le, z_lt, z_nn_lt, z_nn_le, z_nn_ge, z_nn_gt, z_nn_eq, z_nn_eq2, z_bit, z_wow, z_wo, z_or, z_shl, z_if, z_ifn, fbit, if_true, if_false, Nat.zero_add, Nat.add_zero, not_false_iff, not_true, fapart h w hvc]
  · simp (disch := omega) only [z_nn2, z0, z1, z2, z3, z4, z5, z6, z7, z8, z9, z10, z11, z12, z13, z14, z15, z16, z17, z18, z19, z20, z23, z24, z28, z31, z32, z33, z45, z46, z47, z48, z52, z57, z60, z63, z65, z70, z80, z95, z100, z126, z127, z128, z200, z240, z255, z400, z480, z500, z840, z1023, z2000, z99999, z1073741824, z_nn, z_add, z_sub, z_mul, z_div, z_rem, z_cl, z_in, z_chk, z_chkp, z_bnd, z_bn2, z_wth, z_bxr, z_bxl, z_bx2r, z_bx2l, z_bz0, z_bz1, z_mx, z_mn, z_tb1, z_tb0, z_eq, z_le, z_lt, z_nn_lt, z_nn_le, z_nn_ge, z_nn_gt, z_nn_eq, z_nn_eq2, z_bit, z_wow, z_wo, z_or, z_shl, z_if, z_ifn, fbit, if_true, if_false, Nat.zero_add, Nat.add_zero, not_false_iff, not_true, fflicker6 h w hvc]
  · simp (disch := omega) only [z_nn2, z0, z1, z2, z3, z4, z5, z6, z7, z8, z9, z10, z11, z12, z13, z14, z15, z16, z17, z18, z19, z20, z23, z24, z28, z31, z32, z33, z45, z46, z47, z48, z52, z57, z60, z63, z65, z70, z80, z95, z100, z126, z127, z128, z200, z240, z255, z400, z480, z500, z840, z1023, z2000, z99999, z1073741824, z_nn, z_add, z_sub, z_mul, z_div, z_rem, z_cl, z_in, z_chk, z_chkp, z_bnd, z_bn2, z_wth, z_bxr, z_bxl, z_bx2r, z_bx2l, z_bz0, z_bz1, z_mx, z_mn, z_tb1, z_tb0, z_eq, z_le, z_lt, z_nn_lt, z_nn_le, z_nn_ge, z_nn_gt, z_nn_eq, z_nn_eq2, z_bit, z_wow, z_wo, z_or, z_shl, z_if, z_ifn, fbit, if_true, if_false, Nat.zero_add, Nat.add_zero, not_false_iff, not_true, hsv]
/-! what a sign could be -/
def alq (A : Nat → Nat) (i s : Nat) : Bool := decide (wo (sg s) (flq A i) = wo (sg (A (8 + 4 * i))) (flq A i))
def alc (A : Nat → Nat) (i : Nat) : Nat → Nat
  | 0 => 0
  | s + 1 => alc A i s + (if alq A i s = true then 1 else 0)
def ald (A : Nat → Nat) (i : Nat) : Nat → Nat
  | 0 => 0
  | q + 1 => ald A i q + (if alq A i (17 - q) = true then 1 else 0)
theorem ald_alc (A : Nat → Nat) (i : Nat) : ∀ q, q ≤ 18 → ald A i q + alc A i (18 - q) = alc A i 18
  | 0, _ => Nat.zero_add _
  | q + 1, h => by
    have ih := ald_alc A i q (by omega)
    rw [show 18 - q = (17 - q) + 1 by omega] at ih
    have e : alc A i (17 - q + 1) = alc A i (17 - q) + (if alq A i (17 - q) = true then 1 else 0) := rfl
    rw [e] at ih
    rw [show 18 - (q + 1) = 17 - q by omega]
    show ald A i q + _ + _ = _
    omega
theorem wo_lt8 {A : Nat → Nat} {i s : Nat} (hs : s < 18) : wo (sg s) (flq A i) < 256 := wo_lt (Nat.lt_trans (sg_lt hs) (by decide))
theorem falike {A : Nat → Nat} {mm : gM} (h : CS 0 A mm) (w : WF A) {i : Nat} (hi : i < 6) : fX5_alikeSigns (nI i) mm = some (nI (alc A i 18)) := by
  have h1 := w.sign hi
  have h2 := sg_lt h1
  have h3 := wo_lt8 (A := A) (i := i) h1
  unfold fX5_alikeSigns
  simp (disch := omega) only [z_nn2, z0, z1, z2, z3, z4, z5, z6, z7, z8, z9, z10, z11, z12, z13, z14, z15, z16, z17, z18, z19, z20, z23, z24, z28, z31, z32, z33, z45, z46, z47, z48, z52, z57, z60, z63, z65, z70, z80, z95, z100, z126, z127, z128, z200, z240, z255, z400, z480, z500, z840, z1023, z2000, z99999, z1073741824, z_nn, z_add, z_sub, z_mul, z_div, z_rem, z_cl, z_in, z_chk, z_chkp, z_bnd, z_bn2, z_wth, z_bxr, z_bxl, z_bx2r, z_bx2l, z_bz0, z_bz1, z_mx, z_mn, z_tb1, z_tb0, z_eq, z_le, z_lt, z_nn_lt, z_nn_le, z_nn_ge, z_nn_gt, z_nn_eq, z_nn_eq2, z_bit, z_wow, z_wo, z_or, z_shl, z_if, z_ifn, fbit, if_true, if_false, Nat.zero_add, Nat.add_zero, not_false_iff, not_true, ffail h, h.sign, fmask]
  refine loop_up (fun n s => lX5_alikeSigns_32 mm n (nI (flq A i) ^^^ nn) (nI (wo (sg (A (8 + 4 * i))) (flq A i))) (nI (alc A i s)) (nI s)) _ 18 (fun n s hs => ?_) (fun n => ?_) FU 0 (by decide) (by decide)
  · have h4 := sg_lt hs
    have h5 := wo_lt8 (A := A) (i := i) hs
    rw [lX5_alikeSigns_32_s]
    simp (disch := omega) only [z_nn2, z0, z1, z2, z3, z4, z5, z6, z7, z8, z9, z10, z11, z12, z13, z14, z15, z16, z17, z18, z19, z20, z23, z24, z28, z31, z32, z33, z45, z46, z47, z48, z52, z57, z60, z63, z65, z70, z80, z95, z100, z126, z127, z128, z200, z240, z255, z400, z480, z500, z840, z1023, z2000, z99999, z1073741824, z_nn, z_add, z_sub, z_mul, z_div, z_rem, z_cl, z_in, z_chk, z_chkp, z_bnd, z_bn2, z_wth, z_bxr, z_bxl, z_bx2r, z_bx2l, z_bz0, z_bz1, z_mx, z_mn, z_tb1, z_tb0, z_eq, z_le, z_lt, z_nn_lt, z_nn_le, z_nn_ge, z_nn_gt, z_nn_eq, z_nn_eq2, z_bit, z_wow, z_wo, z_or, z_shl, z_if, z_ifn, fbit, if_true, if_false, Nat.zero_add, Nat.add_zero, not_false_iff, not_true, fmask, jX5_alikeSigns_53]
    show _ = lX5_alikeSigns_32 mm n (nI (flq A i) ^^^ nn) (nI (wo (sg (A (8 + 4 * i))) (flq A i))) (nI (alc A i s + (if decide (wo (sg s) (flq A i) = wo (sg (A (8 + 4 * i))) (flq A i)) = true then 1 else 0))) (nI (s + 1))
    simp only [decide_eq_true_eq]
    split <;> rfl
  · rw [lX5_alikeSigns_32_s]
    simp (disch := omega) only [z_nn2, z0, z1, z2, z3, z4, z5, z6, z7, z8, z9, z10, z11, z12, z13, z14, z15, z16, z17, z18, z19, z20, z23, z24, z28, z31, z32, z33, z45, z46, z47, z48, z52, z57, z60, z63, z65, z70, z80, z95, z100, z126, z127, z128, z200, z240, z255, z400, z480, z500, z840, z1023, z2000, z99999, z1073741824, z_nn, z_add, z_sub, z_mul, z_div, z_rem, z_cl, z_in, z_chk, z_chkp, z_bnd, z_bn2, z_wth, z_bxr, z_bxl, z_bx2r, z_bx2l, z_bz0, z_bz1, z_mx, z_mn, z_tb1, z_tb0, z_eq, z_le, z_lt, z_nn_lt, z_nn_le, z_nn_ge, z_nn_gt, z_nn_eq, z_nn_eq2, z_bit, z_wow, z_wo, z_or, z_shl, z_if, z_ifn, fbit, if_true, if_false, Nat.zero_add, Nat.add_zero, not_false_iff, not_true]
theorem fst1_hit {p : Nat → Bool} {s0 : Nat} (hp : p s0 = true) : ∀ n s, s ≤ s0 → s0 < s + n → fst1 p n s ≤ s0
  | 0, s, h1, h2 => by omega
  | n + 1, s, h1, h2 => by
    unfold fst1
    split
    · exact h1
    · rename_i c
      have : s ≠ s0 := fun z => c (z ▸ hp)
      exact fst1_hit hp n (s + 1) (by omega) (by omega)
theorem al_self (A : Nat → Nat) (i : Nat) : alq A i (A (8 + 4 * i)) = true := by
  unfold alq
  exact decide_eq_true rfl
theorem flowest_lt {A : Nat → Nat} (w : WF A) {i : Nat} (hi : i < 6) : fst1 (alq A i) 18 0 < 18 := Nat.lt_of_le_of_lt (fst1_hit (al_self A i) 18 0 (Nat.zero_le _) (by have := w.sign hi; omega)) (w.sign hi)
theorem flowest {A : Nat → Nat} {mm : gM} (h : CS 0 A mm) (w : WF A) {i : Nat} (hi : i < 6) : fX5_lowestAlike (nI i) mm = some (nI (fst1 (alq A i) 18 0)) := by
  have h1 := w.sign hi
  have h2 := sg_lt h1
  have h3 := wo_lt8 (A := A) (i := i) h1
  have key : ∀ q s n, s + q = 18 → q < n → fst1 (alq A i) q s < 18 → lX5_lowestAlike_29 mm n (nI i) (nI (flq A i) ^^^ nn) (nI (wo (sg (A (8 + 4 * i))) (flq A i))) (nI s) = some (nI (fst1 (alq A i) q s)) := by
    intro q
    induction q with
    | zero =>
      intro s n hs hn hl
      exact absurd hl (by unfold fst1; omega)
    | succ q ih =>
      intro s n hs hn hl
      obtain ⟨m, rfl⟩ : ∃ m, n = m + 1 := ⟨n - 1, by omega⟩
      have h4 := sg_lt (s := s) (by omega)
      have h5 := wo_lt8 (A := A) (i := i) (s := s) (by omega)
      unfold fst1 at hl ⊢
      rw [lX5_lowestAlike_29_s]
      simp (disch := omega) only [z_nn2, z0, z1, z2, z3, z4, z5, z6, z7, z8, z9, z10, z11, z12, z13, z14, z15, z16, z17, z18, z19, z20, z23, z24, z28, z31, z32, z33, z45, z46, z47, z48, z52, z57, z60, z63, z65, z70, z80, z95, z100, z126, z127, z128, z200, z240, z255, z400, z480, z500, z840, z1023, z2000, z99999, z1073741824, z_nn, z_add, z_sub, z_mul, z_div, z_rem, z_cl, z_in, z_chk, z_chkp, z_bnd, z_bn2, z_wth, z_bxr, z_bxl, z_bx2r, z_bx2l, z_bz0, z_bz1, z_mx, z_mn, z_tb1, z_tb0, z_eq, z_le, z_lt, z_nn_lt, z_nn_le, z_nn_ge, z_nn_gt, z_nn_eq, z_nn_eq2, z_bit, z_wow, z_wo, z_or, z_shl, z_if, z_ifn, fbit, if_true, if_false, Nat.zero_add, Nat.add_zero, not_false_iff, not_true, fmask]
      by_cases c : wo (sg s) (flq A i) = wo (sg (A (8 + 4 * i))) (flq A i)
      · rw [if_pos c, if_pos (show alq A i s = true from decide_eq_true c)]
      · have c2 : ¬ alq A i s = true := fun z => c (of_decide_eq_true z)
        rw [if_neg c2] at hl ⊢
        rw [if_neg c]
        exact ih (s + 1) m (by omega) (by omega) hl
  unfold fX5_lowestAlike
  simp (disch := omega) only [z_nn2, z0, z1, z2, z3, z4, z5, z6, z7, z8, z9, z10, z11, z12, z13, z14, z15, z16, z17, z18, z19, z20, z23, z24, z28, z31, z32, z33, z45, z46, z47, z48, z52, z57, z60, z63, z65, z70, z80, z95, z100, z126, z127, z128, z200, z240, z255, z400, z480, z500, z840, z1023, z2000, z99999, z1073741824, z_nn, z_add, z_sub, z_mul, z_div, z_rem, z_cl, z_in, z_chk, z_chkp, z_bnd, z_bn2, z_wth, z_bxr, z_bxl, z_bx2r, z_bx2l, z_bz0, z_bz1, z_mx, z_mn, z_tb1, z_tb0, z_eq, z_le, z_lt, z_nn_lt, z_nn_le, z_nn_ge, z_nn_gt, z_nn_eq, z_nn_eq2, z_bit, z_wow, z_wo, z_or, z_shl, z_if, z_ifn, fbit, if_true, if_false, Nat.zero_add, Nat.add_zero, not_false_iff, not_true, ffail h, h.sign, fmask]
  exact key 18 0 FU rfl (by decide) (flowest_lt w hi)
theorem fcould {A : Nat → Nat} {mm : gM} (h : RMq A mm) (w : WF A) {i v : Nat} (hi : i < 6) (hv : v < 2) : fX6_could (nI i) (nI v) mm = some (nI (if v = 0 then alc A i 18 else fst1 (alq A i) 18 0)) := by
  have h1 := w.sign hi
  have h2 := sg_lt h1
  have h3 := wo_lt8 (A := A) (i := i) h1
  have key : ∀ q n, q ≤ 18 → 18 < n + q → lX6_could_25 mm n (nI i) (nI v) (nI (wo (sg (A (8 + 4 * i))) (flq A i))) (nI (ald A i q)) (rI (fst1 (alq A i) q (18 - q))) (if q = 18 then nn else nI (17 - q)) = some (if v = 0 then nI (ald A i 18) else rI (fst1 (alq A i) 18 0)) := by
    intro q n
    induction n generalizing q with
    | zero => intro a b; omega
    | succ n ih =>
      intro a b
      rw [lX6_could_25_s]
      by_cases c : q = 18
      · subst c
        simp (disch := omega) only [z_nn2, z0, z1, z2, z3, z4, z5, z6, z7, z8, z9, z10, z11, z12, z13, z14, z15, z16, z17, z18, z19, z20, z23, z24, z28, z31, z32, z33, z45, z46, z47, z48, z52, z57, z60, z63, z65, z70, z80, z95, z100, z126, z127, z128, z200, z240, z255, z400, z480, z500, z840, z1023, z2000, z99999, z1073741824, z_nn, z_add, z_sub, z_mul, z_div, z_rem, z_cl, z_in, z_chk, z_chkp, z_bnd, z_bn2, z_wth, z_bxr, z_bxl, z_bx2r, z_bx2l, z_bz0, z_bz1, z_mx, z_mn, z_tb1, z_tb0, z_eq, z_le, z_lt, z_nn_lt, z_nn_le, z_nn_ge, z_nn_gt, z_nn_eq, z_nn_eq2, z_bit, z_wow, z_wo, z_or, z_shl, z_if, z_ifn, fbit, if_true, if_false, Nat.zero_add, Nat.add_zero, not_false_iff, not_true, jX6_could_86]
        by_cases c8 : v = 0
        · rw [if_pos c8, if_pos c8]
        · rw [if_neg c8, if_neg c8]
      · rw [if_neg c]
        have h4 := sg_lt (s := 17 - q) (by omega)
        have h5 := wo_lt8 (A := A) (i := i) (s := 17 - q) (by omega)
        have h7 : nI (17 - q) + nn = if q + 1 = 18 then nn else nI (17 - (q + 1)) := by
          by_cases c8 : q + 1 = 18
          · rw [if_pos c8, show 17 - q = 0 by omega]; decide
          · rw [if_neg c8]
            obtain ⟨j, hj⟩ : ∃ j, 17 - q = j + 1 := ⟨17 - q - 1, by omega⟩
            rw [hj, show 17 - (q + 1) = j by omega]
            exact pk_m1 j
        have h6 := ih (q + 1) (by omega) (by omega)
        rw [← h7] at h6
        simp (disch := omega) only [z_nn2, z0, z1, z2, z3, z4, z5, z6, z7, z8, z9, z10, z11, z12, z13, z14, z15, z16, z17, z18, z19, z20, z23, z24, z28, z31, z32, z33, z45, z46, z47, z48, z52, z57, z60, z63, z65, z70, z80, z95, z100, z126, z127, z128, z200, z240, z255, z400, z480, z500, z840, z1023, z2000, z99999, z1073741824, z_nn, z_add, z_sub, z_mul, z_div, z_rem, z_cl, z_in, z_chk, z_chkp, z_bnd, z_bn2, z_wth, z_bxr, z_bxl, z_bx2r, z_bx2l, z_bz0, z_bz1, z_mx, z_mn, z_tb1, z_tb0, z_eq, z_le, z_lt, z_nn_lt, z_nn_le, z_nn_ge, z_nn_gt, z_nn_eq, z_nn_eq2, z_bit, z_wow, z_wo, z_or, z_shl, z_if, z_ifn, fbit, if_true, if_false, Nat.zero_add, Nat.add_zero, not_false_iff, not_true, fsegs, fworking h, jX6_could_49, jX6_could_63, jX6_could_78]
        have e1 : ald A i (q + 1) = ald A i q + (if alq A i (17 - q) = true then 1 else 0) := rfl
        have e2 : fst1 (alq A i) (q + 1) (18 - (q + 1)) = if alq A i (17 - q) = true then 17 - q else fst1 (alq A i) q (18 - q) := by
          rw [show 18 - (q + 1) = 17 - q by omega, show 18 - q = (17 - q) + 1 by omega]
          rfl
        rw [e1, e2] at h6
        by_cases c9 : wo (sg (17 - q)) (flq A i) = wo (sg (A (8 + 4 * i))) (flq A i)
        · have c2 : alq A i (17 - q) = true := decide_eq_true c9
          rw [if_pos c2, if_pos c2] at h6
          rw [if_pos c9]
          have e3 : rI (17 - q) = nI (17 - q) := if_neg (by omega)
          rw [e3] at h6
          exact h6
        · have c2 : ¬ alq A i (17 - q) = true := fun z => c9 (of_decide_eq_true z)
          rw [if_neg c2, if_neg c2, Nat.add_zero] at h6
          rw [if_neg c9]
          exact h6
  have e0 := key 0 FU (by decide) (by decide)
  have e4 := ald_alc A i 18 (Nat.le_refl _)
  have e5 : ald A i 18 = alc A i 18 := e4
  have e6 : rI (fst1 (alq A i) 18 0) = nI (fst1 (alq A i) 18 0) := if_neg (by have := flowest_lt w hi; omega)
  rw [e5, e6] at e0
  unfold fX6_could
  simp (disch := omega) only [z_nn2, z0, z1, z2, z3, z4, z5, z6, z7, z8, z9, z10, z11, z12, z13, z14, z15, z16, z17, z18, z19, z20, z23, z24, z28, z31, z32, z33, z45, z46, z47, z48, z52, z57, z60, z63, z65, z70, z80, z95, z100, z126, z127, z128, z200, z240, z255, z400, z480, z500, z840, z1023, z2000, z99999, z1073741824, z_nn, z_add, z_sub, z_mul, z_div, z_rem, z_cl, z_in, z_chk, z_chkp, z_bnd, z_bn2, z_wth, z_bxr, z_bxl, z_bx2r, z_bx2l, z_bz0, z_bz1, z_mx, z_mn, z_tb1, z_tb0, z_eq, z_le, z_lt, z_nn_lt, z_nn_le, z_nn_ge, z_nn_gt, z_nn_eq, z_nn_eq2, z_bit, z_wow, z_wo, z_or, z_shl, z_if, z_ifn, fbit, if_true, if_false, Nat.zero_add, Nat.add_zero, not_false_iff, not_true, fof h, fsegs, fworking h]
  refine Eq.trans e0 ?_
  split <;> rfl
/-! the sign that is hurt the least -/
def sfs (f : Nat) : Nat → Nat × Nat
  | 0 => (17, 0)
  | s + 1 => if pc (sg s &&& f) ≤ 1 ∧ (sfs f s).2 ≤ pc (wo (sg s) f) then (s, pc (wo (sg s) f) + 1) else sfs f s
theorem sfs_s (f s : Nat) : sfs f (s + 1) = if pc (sg s &&& f) ≤ 1 ∧ (sfs f s).2 ≤ pc (wo (sg s) f) then (s, pc (wo (sg s) f) + 1) else sfs f s := rfl
def gv (g : Nat) : Int32 := if g = 0 then nn else nI (g - 1)
theorem sfs_le (f : Nat) : ∀ s, (sfs f s).2 ≤ 9
  | 0 => by show 0 ≤ 9; omega
  | s + 1 => by
    rw [sfs_s]
    have := pc_le (wo (sg s) f)
    split
    · show _ + 1 ≤ 9
      omega
    · exact sfs_le f s
theorem gv_le {x g : Nat} (hx : x ≤ 8) (hg : g ≤ 9) : (nI x ≤ gv g) = ¬ g ≤ x := by
  unfold gv
  by_cases c : g = 0
  · rw [if_pos c, z_nn_le (by omega)]
    exact propext ⟨fun h => h.elim, fun h => by omega⟩
  · rw [if_neg c, z_le (by omega) (by omega)]
    exact propext ⟨fun h => by omega, fun h => by omega⟩
theorem sfs_18 (f : Nat) : (sfs f 18).2 ≠ 0 := by
  rw [sfs_s]
  by_cases c : pc (sg 17 &&& f) ≤ 1 ∧ (sfs f 17).2 ≤ pc (wo (sg 17) f)
  · rw [if_pos c]
    show _ + 1 ≠ 0
    omega
  · rw [if_neg c]
    intro z
    apply c
    rw [z]
    refine ⟨?_, Nat.zero_le _⟩
    have := pc_split (x := sg 17) (by decide) f
    have e : pc (sg 17) = 0 := by decide
    omega
theorem fleast {A : Nat → Nat} {mm : gM} (h : CS 0 A mm) (w : WF A) {i : Nat} (hi : i < 6) : fX5_leastHurt (nI i) mm = some (nI (sfs (flq A i) 18).1) := by
  unfold fX5_leastHurt
  simp (disch := omega) only [z_nn2, z0, z1, z2, z3, z4, z5, z6, z7, z8, z9, z10, z11, z12, z13, z14, z15, z16, z17, z18, z19, z20, z23, z24, z28, z31, z32, z33, z45, z46, z47, z48, z52, z57, z60, z63, z65, z70, z80, z95, z100, z126, z127, z128, z200, z240, z255, z400, z480, z500, z840, z1023, z2000, z99999, z1073741824, z_nn, z_add, z_sub, z_mul, z_div, z_rem, z_cl, z_in, z_chk, z_chkp, z_bnd, z_bn2, z_wth, z_bxr, z_bxl, z_bx2r, z_bx2l, z_bz0, z_bz1, z_mx, z_mn, z_tb1, z_tb0, z_eq, z_le, z_lt, z_nn_lt, z_nn_le, z_nn_ge, z_nn_gt, z_nn_eq, z_nn_eq2, z_bit, z_wow, z_wo, z_or, z_shl, z_if, z_ifn, fbit, if_true, if_false, Nat.zero_add, Nat.add_zero, not_false_iff, not_true, ffail h]
  refine loop_up (fun n s => lX5_leastHurt_18 mm n (nI (flq A i)) (nI (sfs (flq A i) s).1) (gv (sfs (flq A i) s).2) (nI s)) _ 18 (fun n s hs => ?_) (fun n => ?_) FU 0 (by decide) (by decide)
  · have h4 := sg_lt hs
    have h5 := wo_lt8 (A := A) (i := i) hs
    have h6 : sg s &&& flq A i < 256 := Nat.lt_of_le_of_lt Nat.and_le_left (by omega)
    have h7 := pc_le (wo (sg s) (flq A i))
    have h8 := pc_le (sg s &&& flq A i)
    have h9 := sfs_le (flq A i) s
    rw [lX5_leastHurt_18_s, sfs_s]
    simp (disch := omega) only [z_nn2, z0, z1, z2, z3, z4, z5, z6, z7, z8, z9, z10, z11, z12, z13, z14, z15, z16, z17, z18, z19, z20, z23, z24, z28, z31, z32, z33, z45, z46, z47, z48, z52, z57, z60, z63, z65, z70, z80, z95, z100, z126, z127, z128, z200, z240, z255, z400, z480, z500, z840, z1023, z2000, z99999, z1073741824, z_nn, z_add, z_sub, z_mul, z_div, z_rem, z_cl, z_in, z_chk, z_chkp, z_bnd, z_bn2, z_wth, z_bxr, z_bxl, z_bx2r, z_bx2l, z_bz0, z_bz1, z_mx, z_mn, z_tb1, z_tb0, z_eq, z_le, z_lt, z_nn_lt, z_nn_le, z_nn_ge, z_nn_gt, z_nn_eq, z_nn_eq2, z_bit, z_wow, z_wo, z_or, z_shl, z_if, z_ifn, fbit, if_true, if_false, Nat.zero_add, Nat.add_zero, not_false_iff, not_true, z_and, fmask, fpop, jX5_leastHurt_67, gv_le]
    by_cases c1 : 1 < pc (sg s &&& flq A i)
    · rw [if_pos c1, if_neg (fun z => by omega)]
    · rw [if_neg c1]
      by_cases c2 : (sfs (flq A i) s).2 ≤ pc (wo (sg s) (flq A i))
      · rw [if_neg (fun z => z c2), if_pos ⟨by omega, c2⟩]
        congr 1
      · rw [if_pos c2, if_neg (fun z => c2 z.2)]
  · rw [lX5_leastHurt_18_s]
    simp (disch := omega) only [z_nn2, z0, z1, z2, z3, z4, z5, z6, z7, z8, z9, z10, z11, z12, z13, z14, z15, z16, z17, z18, z19, z20, z23, z24, z28, z31, z32, z33, z45, z46, z47, z48, z52, z57, z60, z63, z65, z70, z80, z95, z100, z126, z127, z128, z200, z240, z255, z400, z480, z500, z840, z1023, z2000, z99999, z1073741824, z_nn, z_add, z_sub, z_mul, z_div, z_rem, z_cl, z_in, z_chk, z_chkp, z_bnd, z_bn2, z_wth, z_bxr, z_bxl, z_bx2r, z_bx2l, z_bz0, z_bz1, z_mx, z_mn, z_tb1, z_tb0, z_eq, z_le, z_lt, z_nn_lt, z_nn_le, z_nn_ge, z_nn_gt, z_nn_eq, z_nn_eq2, z_bit, z_wow, z_wo, z_or, z_shl, z_if, z_ifn, fbit, if_true, if_false, Nat.zero_add, Nat.add_zero, not_false_iff, not_true]
theorem fsafest6 {A : Nat → Nat} {mm : gM} (h : RMq A mm) (w : WF A) {i : Nat} (hi : i < 6) : fX6_safestSign (nI i) mm = some (nI (sfs (flq A i) 18).1) := by
  unfold fX6_safestSign
  refine loop_up (fun n s => lX6_safestSign_7 mm n (nI i) (if (sfs (flq A i) s).2 = 0 then nn else nI (sfs (flq A i) s).1) (gv (sfs (flq A i) s).2) (nI s)) _ 18 (fun n s hs => ?_) (fun n => ?_) FU 0 (by decide) (by decide)
  · have h4 := sg_lt hs
    have h5 := wo_lt8 (A := A) (i := i) hs
    have h7 := pc_le (wo (sg s) (flq A i))
    have h8 := pc_split (x := sg s) (by omega) (flq A i)
    have h8b := pc_le (sg s)
    have h9 := sfs_le (flq A i) s
    have g1 : ∀ x, gv (x + 1) = nI x := fun x => by unfold gv; rw [if_neg (Nat.succ_ne_zero _)]; rfl
    by_cases cc : pc (sg s &&& flq A i) ≤ 1 ∧ (sfs (flq A i) s).2 ≤ pc (wo (sg s) (flq A i))
    · have e : sfs (flq A i) (s + 1) = (s, pc (wo (sg s) (flq A i)) + 1) := by rw [sfs_s, if_pos cc]
      rw [lX6_safestSign_7_s, e]
      simp (disch := omega) only [z_nn2, z0, z1, z2, z3, z4, z5, z6, z7, z8, z9, z10, z11, z12, z13, z14, z15, z16, z17, z18, z19, z20, z23, z24, z28, z31, z32, z33, z45, z46, z47, z48, z52, z57, z60, z63, z65, z70, z80, z95, z100, z126, z127, z128, z200, z240, z255, z400, z480, z500, z840, z1023, z2000, z99999, z1073741824, z_nn, z_add, z_sub, z_mul, z_div, z_rem, z_cl, z_in, z_chk, z_chkp, z_bnd, z_bn2, z_wth, z_bxr, z_bxl, z_bx2r, z_bx2l, z_bz0, z_bz1, z_mx, z_mn, z_tb1, z_tb0, z_eq, z_le, z_lt, z_nn_lt, z_nn_le, z_nn_ge, z_nn_gt, z_nn_eq, z_nn_eq2, z_bit, z_wow, z_wo, z_or, z_shl, z_if, z_ifn, fbit, if_true, if_false, Nat.zero_add, Nat.add_zero, not_false_iff, not_true, fsegs, fones, fworking h, jX6_safestSign_84, jX6_safestSign_72, jX6_safestSign_59, jX6_safestSign_58, gv_le, g1]
    · have e : sfs (flq A i) (s + 1) = sfs (flq A i) s := by rw [sfs_s, if_neg cc]
      rw [lX6_safestSign_7_s, e]
      simp (disch := omega) only [z_nn2, z0, z1, z2, z3, z4, z5, z6, z7, z8, z9, z10, z11, z12, z13, z14, z15, z16, z17, z18, z19, z20, z23, z24, z28, z31, z32, z33, z45, z46, z47, z48, z52, z57, z60, z63, z65, z70, z80, z95, z100, z126, z127, z128, z200, z240, z255, z400, z480, z500, z840, z1023, z2000, z99999, z1073741824, z_nn, z_add, z_sub, z_mul, z_div, z_rem, z_cl, z_in, z_chk, z_chkp, z_bnd, z_bn2, z_wth, z_bxr, z_bxl, z_bx2r, z_bx2l, z_bz0, z_bz1, z_mx, z_mn, z_tb1, z_tb0, z_eq, z_le, z_lt, z_nn_lt, z_nn_le, z_nn_ge, z_nn_gt, z_nn_eq, z_nn_eq2, z_bit, z_wow, z_wo, z_or, z_shl, z_if, z_ifn, fbit, if_true, if_false, Nat.zero_add, Nat.add_zero, not_false_iff, not_true, fsegs, fones, fworking h, jX6_safestSign_84, jX6_safestSign_72, jX6_safestSign_59, jX6_safestSign_58, gv_le, g1]
      by_cases c1 : 1 < pc (sg s) - pc (wo (sg s) (flq A i))
      · rw [if_pos c1]
      · have c2 : ¬ (sfs (flq A i) s).2 ≤ pc (wo (sg s) (flq A i)) := fun z => cc ⟨by omega, z⟩
        rw [if_neg c1, if_neg (show ¬ (sfs (flq A i) s).2 = 0 by omega)]
  · rw [lX6_safestSign_7_s]
    simp (disch := omega) only [z_nn2, z0, z1, z2, z3, z4, z5, z6, z7, z8, z9, z10, z11, z12, z13, z14, z15, z16, z17, z18, z19, z20, z23, z24, z28, z31, z32, z33, z45, z46, z47, z48, z52, z57, z60, z63, z65, z70, z80, z95, z100, z126, z127, z128, z200, z240, z255, z400, z480, z500, z840, z1023, z2000, z99999, z1073741824, z_nn, z_add, z_sub, z_mul, z_div, z_rem, z_cl, z_in, z_chk, z_chkp, z_bnd, z_bn2, z_wth, z_bxr, z_bxl, z_bx2r, z_bx2l, z_bz0, z_bz1, z_mx, z_mn, z_tb1, z_tb0, z_eq, z_le, z_lt, z_nn_lt, z_nn_le, z_nn_ge, z_nn_gt, z_nn_eq, z_nn_eq2, z_bit, z_wow, z_wo, z_or, z_shl, z_if, z_ifn, fbit, if_true, if_false, Nat.zero_add, Nat.add_zero, not_false_iff, not_true]
    rw [if_neg (sfs_18 _)]
