/-! SHARES and means -/
theorem lit_en {A : Nat → Nat} : ∀ i, litq A i ≤ en A i ∧ (litq A i = 0 → en A i = 0)
  | 0 => ⟨Nat.le_refl _, fun _ => rfl⟩
  | i + 1 => by
    obtain ⟨h1, h2⟩ := lit_en (A := A) i
    have h3 := en_ge_tk A i
    show litq A i + A (10 + 4 * i) ≤ en A i + tk A i ∧ (litq A i + A (10 + 4 * i) = 0 → en A i + tk A i = 0)
    refine ⟨by omega, fun z => ?_⟩
    have h4 := h2 (by omega)
    have h5 : tk A i = 0 := by
      unfold tk
      rw [if_pos (by omega)]
    omega
def shr (A : Nat → Nat) : UInt64 := if litq A 6 = 0 then FP.dconst0 else FP.ddiv (FP.i2d (nI (litq A 6))) (FP.i2d (nI (rt A)))
theorem shr_n {A : Nat → Nat} (w : WF A) (h : litq A 6 ≠ 0) : ∃ e t, 1 ≤ e ∧ e ≤ 2046 ∧ t < 4503599627370496 ∧ FP.ddiv (FP.i2d (nI (litq A 6))) (FP.i2d (nI (rt A))) = bD e t := by
  have h1 := lit_le w 6 (Nat.le_refl _)
  have h2 := rt_le w
  have h3 := (lit_en (A := A) 6).1
  have h4 : rt A = en A 6 := rfl
  exact sh_ex (by omega) (by omega) (by omega) (by omega)
theorem fshare {A : Nat → Nat} {m : gM} (h : CS 0 A m) (w : WF A) : fX5_litShare m = some (shr A) := by
  have h1 := lit_le w 6 (Nat.le_refl _)
  have h2 := rt_le w
  have h3 := lit_en (A := A) 6
  have h4 : rt A = en A 6 := rfl
  unfold fX5_litShare jX5_litShare_27 shr
  simp (disch := omega) only [z_nn2, z0, z1, z2, z3, z4, z5, z6, z7, z8, z9, z10, z11, z12, z13, z14, z15, z16, z17, z18, z19, z20, z23, z24, z28, z31, z32, z33, z45, z46, z47, z48, z52, z57, z60, z63, z65, z70, z80, z95, z100, z126, z127, z128, z200, z240, z255, z400, z480, z500, z840, z1023, z2000, z99999, z1073741824, z_nn, z_add, z_sub, z_mul, z_div, z_rem, z_cl, z_in, z_chk, z_chkp, z_bnd, z_bn2, z_wth, z_bxr, z_bxl, z_bx2r, z_bx2l, z_bz0, z_bz1, z_mx, z_mn, z_tb1, z_tb0, z_eq, z_le, z_lt, z_nn_lt, z_nn_le, z_nn_ge, z_nn_gt, z_nn_eq, z_nn_eq2, z_bit, z_wow, z_wo, z_or, z_shl, z_if, z_ifn, fbit, if_true, if_false, Nat.zero_add, Nat.add_zero, not_false_iff, not_true, frt h w, flit h w]
  by_cases c : litq A 6 = 0
  · rw [if_pos (show rt A ≤ 0 by have := h3.2 c; omega), if_pos c]
  · obtain ⟨e, t, e1, e2, e3, e4⟩ := shr_n w c
    rw [if_neg (show ¬ rt A ≤ 0 by omega), if_neg c, e4, chk_t (vf_n e2 e3)]
theorem fshare6 {A : Nat → Nat} {m : gM} (h : RMq A m) (w : WF A) : fX6_lit m = some (shr A) := by
  have h1 := lit_le w 6 (Nat.le_refl _)
  refine loop_up (fun n i => lX6_lit_4 m n (nI (litq A i)) (nI i)) _ 6 (fun n i hi => ?_) (fun n => ?_) FU 0 (by decide) (by decide)
  · rw [lX6_lit_4_s]
    simp (disch := omega) only [z_nn2, z0, z1, z2, z3, z4, z5, z6, z7, z8, z9, z10, z11, z12, z13, z14, z15, z16, z17, z18, z19, z20, z23, z24, z28, z31, z32, z33, z45, z46, z47, z48, z52, z57, z60, z63, z65, z70, z80, z95, z100, z126, z127, z128, z200, z240, z255, z400, z480, z500, z840, z1023, z2000, z99999, z1073741824, z_nn, z_add, z_sub, z_mul, z_div, z_rem, z_cl, z_in, z_chk, z_chkp, z_bnd, z_bn2, z_wth, z_bxr, z_bxl, z_bx2r, z_bx2l, z_bz0, z_bz1, z_mx, z_mn, z_tb1, z_tb0, z_eq, z_le, z_lt, z_nn_lt, z_nn_le, z_nn_ge, z_nn_gt, z_nn_eq, z_nn_eq2, z_bit, z_wow, z_wo, z_or, z_shl, z_if, z_ifn, fbit, if_true, if_false, Nat.zero_add, Nat.add_zero, not_false_iff, not_true, fof h, show 8 + 4 * i + 2 = 10 + 4 * i by omega]
    rfl
  · rw [lX6_lit_4_s]
    unfold jX6_lit_25 jX6_lit_41 shr
    simp (disch := omega) only [z_nn2, z0, z1, z2, z3, z4, z5, z6, z7, z8, z9, z10, z11, z12, z13, z14, z15, z16, z17, z18, z19, z20, z23, z24, z28, z31, z32, z33, z45, z46, z47, z48, z52, z57, z60, z63, z65, z70, z80, z95, z100, z126, z127, z128, z200, z240, z255, z400, z480, z500, z840, z1023, z2000, z99999, z1073741824, z_nn, z_add, z_sub, z_mul, z_div, z_rem, z_cl, z_in, z_chk, z_chkp, z_bnd, z_bn2, z_wth, z_bxr, z_bxl, z_bx2r, z_bx2l, z_bz0, z_bz1, z_mx, z_mn, z_tb1, z_tb0, z_eq, z_le, z_lt, z_nn_lt, z_nn_le, z_nn_ge, z_nn_gt, z_nn_eq, z_nn_eq2, z_bit, z_wow, z_wo, z_or, z_shl, z_if, z_ifn, fbit, if_true, if_false, Nat.zero_add, Nat.add_zero, not_false_iff, not_true, frt6 h w]
    by_cases c : litq A 6 = 0
    · rw [if_pos c, if_pos c]
    · obtain ⟨e, t, e1, e2, e3, e4⟩ := shr_n w c
      rw [if_neg c, if_neg c, e4, chk_t (vf_n e2 e3)]
theorem share_bits {A : Nat → Nat} (w : WF A) : ∃ r, fX5_bitsOf (shr A) 1023 52 = some r ∧ fJxe99ae_doubleToLongBits_ccdee (shr A) = some r := by
  unfold shr
  by_cases c : litq A 6 = 0
  · rw [if_pos c]
    refine ⟨oL 0, bits_0, ?_⟩
    rw [dlb dec_0]
    rfl
  · rw [if_neg c]
    obtain ⟨e, t, e1, e2, e3, e4⟩ := shr_n w c
    rw [e4]
    exact dbits e1 e2 e3
def smn (A : Nat → Nat) : Nat → Nat
  | 0 => 0
  | i + 1 => smn A i + (if wkq A i = 0 then 0 else mn2 A i)
theorem smn_s (A : Nat → Nat) (i : Nat) : smn A (i + 1) = smn A i + (if wkq A i = 0 then 0 else mn2 A i) := rfl
theorem smn_le {A : Nat → Nat} (w : WF A) : ∀ i, i ≤ 6 → smn A i ≤ 2000 * wsl A i
  | 0, _ => Nat.le_refl _
  | i + 1, h => by
    have h1 := smn_le w i (by omega)
    have h2 := mn2_le w (i := i) (by omega)
    rw [smn_s, wsl_s]
    split <;> omega
def mbr (A : Nat → Nat) : UInt32 := if wsl A 6 = 0 then FP.fconst0 else FP.fdiv (FP.i2f (nI (smn A 6))) (FP.i2f (nI (wsl A 6)))
theorem mz_all : ∀ c, c < 7 → c = 0 ∨ FP.fdiv (FP.i2f (nI 0)) (FP.i2f (nI c)) = FP.fconst0 := by decide +kernel
theorem mbr_n {A : Nat → Nat} (w : WF A) (h : wsl A 6 ≠ 0) : FP.fdiv (FP.i2f (nI (smn A 6))) (FP.i2f (nI (wsl A 6))) = FP.fconst0 ∨ ∃ e t, 1 ≤ e ∧ e ≤ 254 ∧ t < 8388608 ∧ FP.fdiv (FP.i2f (nI (smn A 6))) (FP.i2f (nI (wsl A 6))) = bF e t := by
  have h1 := smn_le w 6 (Nat.le_refl _)
  have h2 := wsl_le A 6
  by_cases c : smn A 6 = 0
  · rw [c]
    exact Or.inl ((mz_all (wsl A 6) (by omega)).resolve_left h)
  · exact Or.inr (mn_ex (by omega) h2 (by omega) h1)
theorem dec_f0 : FP.Core.decode FP.Core.b32 FP.fconst0.toNat = .fin false 0 (-149) := by decide +kernel
theorem mean_bits {A : Nat → Nat} (w : WF A) : ∃ r : Int32, fX5_bitsOf (FP.f2d (mbr A)) 127 23 = some r.toInt64 ∧ fJxf58ca_floatToIntBits_5c35a (mbr A) = some r ∧ vf_n64 (FP.f2d (mbr A)) ∧ vf_n32 (mbr A) := by
  have z : ∃ r : Int32, fX5_bitsOf (FP.f2d FP.fconst0) 127 23 = some r.toInt64 ∧ fJxf58ca_floatToIntBits_5c35a FP.fconst0 = some r ∧ vf_n64 (FP.f2d FP.fconst0) ∧ vf_n32 FP.fconst0 := by
    have e : FP.f2d FP.fconst0 = FP.dconst0 := by decide +kernel
    rw [e]
    refine ⟨nI 0, ?_, ?_, ?_, ?_⟩
    · rw [bits_0]
      decide +kernel
    · rw [fib dec_f0]
      rfl
    · unfold vf_n64
      decide
    · unfold vf_n32
      decide
  unfold mbr
  by_cases c : wsl A 6 = 0
  · rw [if_pos c]
    exact z
  · rw [if_neg c]
    rcases mbr_n w c with e | ⟨e, t, e1, e2, e3, e4⟩
    · rw [e]
      exact z
    · rw [e4]
      exact fbits e1 e2 e3
theorem mbr_vf {A : Nat → Nat} (w : WF A) (h : wsl A 6 ≠ 0) : vf_n32 (FP.fdiv (FP.i2f (nI (smn A 6))) (FP.i2f (nI (wsl A 6)))) := by
  obtain ⟨r, -, -, -, h4⟩ := mean_bits w
  unfold mbr at h4
  rw [if_neg h] at h4
  exact h4
theorem fbright {A : Nat → Nat} {m : gM} (h : CS 0 A m) (w : WF A) (he : ECq 0 A m) : ∃ m1, fX5_meanBrightness m = some (mbr A, m1) ∧ Frq (PEq 0) m m1 ∧ ECq 0 A m1 := by
  refine loop_ex (fun n i m2 => lX5_meanBrightness_6 n (nI (smn A i)) (nI (wsl A i)) (nI i) m2) (fun i m2 => Frq (PEq 0) m m2 ∧ ECq 0 A m2) (fun o => ∃ m1, o = some (mbr A, m1) ∧ Frq (PEq 0) m m1 ∧ ECq 0 A m1) 6 (fun n i m2 hi hI => ?_) (fun n m2 hI => ?_) FU 0 m (by decide) (by decide) ⟨Frq.rf, he⟩
  · obtain ⟨f1, e1⟩ := hI
    have hc : CS 0 A m2 := h.fr f1 (fun c hc => PE_cs c 0 hc)
    have h1 := wk_lt w hi
    by_cases c : wkq A i = 0
    · refine ⟨m2, ⟨f1, e1⟩, ?_⟩
      rw [lX5_meanBrightness_6_s, smn_s, wsl_s, if_pos c, if_pos c]
      simp (disch := omega) only [z_nn2, z0, z1, z2, z3, z4, z5, z6, z7, z8, z9, z10, z11, z12, z13, z14, z15, z16, z17, z18, z19, z20, z23, z24, z28, z31, z32, z33, z45, z46, z47, z48, z52, z57, z60, z63, z65, z70, z80, z95, z100, z126, z127, z128, z200, z240, z255, z400, z480, z500, z840, z1023, z2000, z99999, z1073741824, z_nn, z_add, z_sub, z_mul, z_div, z_rem, z_cl, z_in, z_chk, z_chkp, z_bnd, z_bn2, z_wth, z_bxr, z_bxl, z_bx2r, z_bx2l, z_bz0, z_bz1, z_mx, z_mn, z_tb1, z_tb0, z_eq, z_le, z_lt, z_nn_lt, z_nn_le, z_nn_ge, z_nn_gt, z_nn_eq, z_nn_eq2, z_bit, z_wow, z_wo, z_or, z_shl, z_if, z_ifn, fbit, if_true, if_false, Nat.zero_add, Nat.add_zero, not_false_iff, not_true, fworks hc w, jX5_meanBrightness_45]
    · obtain ⟨m3, b1, b2, b3, b4⟩ := flook hc w e1 hi
      have hc2 : CS 0 A m3 := hc.fr b2 (fun c hc => PE_cs c 0 hc)
      refine ⟨m3, ⟨f1.tr b2, b3⟩, ?_⟩
      rw [lX5_meanBrightness_6_s, smn_s, wsl_s, if_neg c, if_neg c]
      simp (disch := omega) only [z_nn2, z0, z1, z2, z3, z4, z5, z6, z7, z8, z9, z10, z11, z12, z13, z14, z15, z16, z17, z18, z19, z20, z23, z24, z28, z31, z32, z33, z45, z46, z47, z48, z52, z57, z60, z63, z65, z70, z80, z95, z100, z126, z127, z128, z200, z240, z255, z400, z480, z500, z840, z1023, z2000, z99999, z1073741824, z_nn, z_add, z_sub, z_mul, z_div, z_rem, z_cl, z_in, z_chk, z_chkp, z_bnd, z_bn2, z_wth, z_bxr, z_bxl, z_bx2r, z_bx2l, z_bz0, z_bz1, z_mx, z_mn, z_tb1, z_tb0, z_eq, z_le, z_lt, z_nn_lt, z_nn_le, z_nn_ge, z_nn_gt, z_nn_eq, z_nn_eq2, z_bit, z_wow, z_wo, z_or, z_shl, z_if, z_ifn, fbit, if_true, if_false, Nat.zero_add, Nat.add_zero, not_false_iff, not_true, fworks hc w, jX5_meanBrightness_45, b1, fmean hc2 w hi b4]
  · have h2 := wsl_le A 6
    rw [lX5_meanBrightness_6_s]
    unfold jX5_meanBrightness_51 jX5_meanBrightness_64 mbr
    simp (disch := omega) only [z_nn2, z0, z1, z2, z3, z4, z5, z6, z7, z8, z9, z10, z11, z12, z13, z14, z15, z16, z17, z18, z19, z20, z23, z24, z28, z31, z32, z33, z45, z46, z47, z48, z52, z57, z60, z63, z65, z70, z80, z95, z100, z126, z127, z128, z200, z240, z255, z400, z480, z500, z840, z1023, z2000, z99999, z1073741824, z_nn, z_add, z_sub, z_mul, z_div, z_rem, z_cl, z_in, z_chk, z_chkp, z_bnd, z_bn2, z_wth, z_bxr, z_bxl, z_bx2r, z_bx2l, z_bz0, z_bz1, z_mx, z_mn, z_tb1, z_tb0, z_eq, z_le, z_lt, z_nn_lt, z_nn_le, z_nn_ge, z_nn_gt, z_nn_eq, z_nn_eq2, z_bit, z_wow, z_wo, z_or, z_shl, z_if, z_ifn, fbit, if_true, if_false, Nat.zero_add, Nat.add_zero, not_false_iff, not_true]
    by_cases c : wsl A 6 = 0
    · rw [if_pos (show wsl A 6 ≤ 0 by omega), if_pos c]
      exact ⟨m2, rfl, hI⟩
    · rw [if_neg (show ¬ wsl A 6 ≤ 0 by omega), if_neg c, chk_t (mbr_vf w c)]
      exact ⟨m2, rfl, hI⟩
theorem fbright6 {A : Nat → Nat} {m : gM} (h : RMq A m) (w : WF A) (hv : VCq A m) : fX6_mean m = some (mbr A) := by
  refine loop_up (fun n i => lX6_mean_4 m n (nI (smn A i)) (nI i)) _ 6 (fun n i hi => ?_) (fun n => ?_) FU 0 (by decide) (by decide)
  · have h1 := wk_lt w hi
    rw [lX6_mean_4_s, smn_s]
    simp (disch := omega) only [z_nn2, z0, z1, z2, z3, z4, z5, z6, z7, z8, z9, z10, z11, z12, z13, z14, z15, z16, z17, z18, z19, z20, z23, z24, z28, z31, z32, z33, z45, z46, z47, z48, z52, z57, z60, z63, z65, z70, z80, z95, z100, z126, z127, z128, z200, z240, z255, z400, z480, z500, z840, z1023, z2000, z99999, z1073741824, z_nn, z_add, z_sub, z_mul, z_div, z_rem, z_cl, z_in, z_chk, z_chkp, z_bnd, z_bn2, z_wth, z_bxr, z_bxl, z_bx2r, z_bx2l, z_bz0, z_bz1, z_mx, z_mn, z_tb1, z_tb0, z_eq, z_le, z_lt, z_nn_lt, z_nn_le, z_nn_ge, z_nn_gt, z_nn_eq, z_nn_eq2, z_bit, z_wow, z_wo, z_or, z_shl, z_if, z_ifn, fbit, if_true, if_false, Nat.zero_add, Nat.add_zero, not_false_iff, not_true, fworks6 h w, fmean6 h w hv, jX6_mean_28]
    by_cases c : wkq A i = 0
    · simp only [if_pos c, Nat.add_zero]
    · simp only [if_neg c]
  · have h2 := wsl_le A 6
    rw [lX6_mean_4_s]
    unfold jX6_mean_36 jX6_mean_54 mbr
    simp (disch := omega) only [z_nn2, z0, z1, z2, z3, z4, z5, z6, z7, z8, z9, z10, z11, z12, z13, z14, z15, z16, z17, z18, z19, z20, z23, z24, z28, z31, z32, z33, z45, z46, z47, z48, z52, z57, z60, z63, z65, z70, z80, z95, z100, z126, z127, z128, z200, z240, z255, z400, z480, z500, z840, z1023, z2000, z99999, z1073741824, z_nn, z_add, z_sub, z_mul, z_div, z_rem, z_cl, z_in, z_chk, z_chkp, z_bnd, z_bn2, z_wth, z_bxr, z_bxl, z_bx2r, z_bx2l, z_bz0, z_bz1, z_mx, z_mn, z_tb1, z_tb0, z_eq, z_le, z_lt, z_nn_lt, z_nn_le, z_nn_ge, z_nn_gt, z_nn_eq, z_nn_eq2, z_bit, z_wow, z_wo, z_or, z_shl, z_if, z_ifn, fbit, if_true, if_false, Nat.zero_add, Nat.add_zero, not_false_iff, not_true, fworkingSlots6 h w]
    by_cases c : wsl A 6 = 0
    · rw [if_pos c, if_pos c]
    · rw [if_neg c, if_neg c, chk_t (mbr_vf w c)]
theorem op_share {m : gM} (hi : HIq m) : ∃ r m2, fX5_litShare m = some r ∧ fX6_litShare m = some (r, m2) ∧ HIq m2 := by
  obtain ⟨A, n, p, Sv, Sn, K, B, L, hg, hc, hr⟩ := hi
  refine ⟨shr A, si m 21 0 0 (nI 0), fshare hc.1 hg.1, ?_, A, n, p, Sv, Sn, K, B, L, hg, hc.re (FRe.si (by decide)), hr.th⟩
  unfold fX6_litShare
  simp only [z_wth, z0, fshare6 (hr.th (v := nI 0)).1 hg.1, z_bnd]
theorem op_bright {m : gM} (hi : HIq m) : ∃ r m1 m2, fX5_meanBrightness m = some (r, m1) ∧ fX6_meanBrightness m1 = some (r, m2) ∧ vf_n64 (FP.f2d r) ∧ HIq m2 := by
  obtain ⟨A, n, p, Sv, Sn, K, B, L, hg, hc, hr⟩ := hi
  obtain ⟨m1, e1, f1, g1⟩ := fbright hc.1 hg.1 hc.2.1
  obtain ⟨i1, fc1⟩ := hc.pe f1 g1
  have hr1 := hr.fc fc1
  obtain ⟨m2, e2, f2, v2⟩ := fviews (hr1.th (v := nI 0)).1 hg.1
  obtain ⟨q1, q2, q3⟩ := xret hr1 f2
  obtain ⟨r, -, -, h3, -⟩ := mean_bits hg.1
  refine ⟨mbr A, m1, m2, e1, ?_, h3, A, n, p, Sv, Sn, K, B, L, hg, i1.re q2, q1⟩
  unfold fX6_meanBrightness
  simp only [z_wth, z0, e2, z_bnd, fbright6 q1.1 hg.1 v2]
