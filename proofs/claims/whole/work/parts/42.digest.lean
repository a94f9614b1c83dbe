/-! DIGEST -/
def dgm (h v : Int64) : Int64 := 31 * h + v
def dgN (A : Nat → Nat) (sv : Nat) (x3 : Int32) : Nat → Int64
  | 0 => 3347
  | v + 1 => dgm (dgN A sv x3 v) (np A sv x3 v).toInt64
def dgS (A : Nat → Nat) (h : Int64) : Nat → Int64
  | 0 => h
  | s + 1 => dgm (dgS A h s) (nI (A s)).toInt64
def h1s (A : Nat → Nat) (i : Nat) (h : Int64) : Nat → Int64
  | 0 => h
  | v + 1 => dgm (h1s A i h v) (spq A i v).toInt64
def h2s (A : Nat → Nat) (i : Nat) (h : Int64) : Nat → Int64
  | 0 => h
  | q + 1 => dgm (h2s A i h q) (sgp A i (q / 4) (q % 4)).toInt64
def dgSlot (A : Nat → Nat) (i : Nat) (h : Int64) : Int64 := dgm (dgm (dgm (dgm (h2s A i (h1s A i h 10) 32) (nI (alc A i 18)).toInt64) (nI (fst1 (alq A i) 18 0)).toInt64) (bV A 20 i).toInt64) (nI (sfs (flq A i) 18).1).toInt64
def dgD (A : Nat → Nat) (h : Int64) : Nat → Int64
  | 0 => h
  | i + 1 => dgSlot A i (dgD A h i)
def dgB (B : Nat → Nat) (h : Int64) : Nat → Int64
  | 0 => h
  | i + 1 => dgm (dgB B h i) (nI (B i)).toInt64
/-- the object's side -/
def DCl (A : Nat → Nat) (n p : Nat) (Sv Sn : Nat → Nat → Nat) (K B : Nat → Nat) (L : Nat) (m : gM) (o : Option (Int64 × gM)) (h : Int64) : Prop := ∃ m1, o = some (h, m1) ∧ ICq A n p Sv Sn K B L m1 ∧ FCq m m1
theorem dc_slot {A : Nat → Nat} {n p : Nat} {Sv Sn : Nat → Nat → Nat} {K B : Nat → Nat} {L : Nat} {m : gM} (w : WF A) (hc : ICq A n p Sv Sn K B L m) {i : Nat} (hi : i < 6) (h : Int64) : DCl A n p Sv Sn K B L m (fX5_hashWithSlot h (nI i) m) (dgSlot A i h) := by
  unfold fX5_hashWithSlot
  simp only [z0]
  refine loop_ex (fun fu v m2 => lX5_hashWithSlot_6 fu (nI i) (h1s A i h v) (nI v) m2) (fun v m2 => ICq A n p Sv Sn K B L m2 ∧ FCq m m2) (fun o => DCl A n p Sv Sn K B L m o (dgSlot A i h)) 10 (fun fu v m2 hv hI => ?_) (fun fu m2 hI => ?_) FU 0 m (by decide) (by decide) ⟨hc, FCq.rf⟩
  · obtain ⟨i1, f1⟩ := hI
    obtain ⟨m3, e3, f3, g3⟩ := fslotProp i1.1 w i1.2.1 hi hv
    obtain ⟨i3, fc3⟩ := i1.pe f3 g3
    refine ⟨m3, ⟨i3, f1.tr fc3⟩, ?_⟩
    rw [lX5_hashWithSlot_6_s]
    simp (disch := omega) only [z_nn2, z0, z1, z2, z3, z4, z5, z6, z7, z8, z9, z10, z11, z12, z13, z14, z15, z16, z17, z18, z19, z20, z23, z24, z28, z31, z32, z33, z45, z46, z47, z48, z52, z57, z60, z63, z65, z70, z80, z95, z100, z126, z127, z128, z200, z240, z255, z400, z480, z500, z840, z1023, z2000, z99999, z1073741824, z_nn, z_add, z_sub, z_mul, z_div, z_rem, z_cl, z_in, z_chk, z_chkp, z_bnd, z_bn2, z_wth, z_bxr, z_bxl, z_bx2r, z_bx2l, z_bz0, z_bz1, z_mx, z_mn, z_tb1, z_tb0, z_eq, z_le, z_lt, z_nn_lt, z_nn_le, z_nn_ge, z_nn_gt, z_nn_eq, z_nn_eq2, z_bit, z_wow, z_wo, z_or, z_shl, z_if, z_ifn, fbit, if_true, if_false, Nat.zero_add, Nat.add_zero, not_false_iff, not_true, e3]
    rfl
  · obtain ⟨i1, f1⟩ := hI
    rw [lX5_hashWithSlot_6_s]
    unfold jX5_hashWithSlot_36
    simp (disch := omega) only [z_nn2, z0, z1, z2, z3, z4, z5, z6, z7, z8, z9, z10, z11, z12, z13, z14, z15, z16, z17, z18, z19, z20, z23, z24, z28, z31, z32, z33, z45, z46, z47, z48, z52, z57, z60, z63, z65, z70, z80, z95, z100, z126, z127, z128, z200, z240, z255, z400, z480, z500, z840, z1023, z2000, z99999, z1073741824, z_nn, z_add, z_sub, z_mul, z_div, z_rem, z_cl, z_in, z_chk, z_chkp, z_bnd, z_bn2, z_wth, z_bxr, z_bxl, z_bx2r, z_bx2l, z_bz0, z_bz1, z_mx, z_mn, z_tb1, z_tb0, z_eq, z_le, z_lt, z_nn_lt, z_nn_le, z_nn_ge, z_nn_gt, z_nn_eq, z_nn_eq2, z_bit, z_wow, z_wo, z_or, z_shl, z_if, z_ifn, fbit, if_true, if_false, Nat.zero_add, Nat.add_zero, not_false_iff, not_true]
    refine loop_ex (fun fu k m3 => lX5_hashWithSlot_39 fu (nI i) (h2s A i (h1s A i h 10) (4 * k)) (nI k) m3) (fun k m3 => ICq A n p Sv Sn K B L m3 ∧ FCq m m3) (fun o => DCl A n p Sv Sn K B L m o (dgSlot A i h)) 8 (fun fu k m3 hk hI => ?_) (fun fu m3 hI => ?_) FU 0 m2 (by decide) (by decide) ⟨i1, f1⟩
    · obtain ⟨i2, f2⟩ := hI
      have key := loop_ex (fun fu2 v m4 => lX5_hashWithSlot_49 (lX5_hashWithSlot_39 fu) fu2 (nI i) (h2s A i (h1s A i h 10) (4 * k + v)) (nI k) (nI v) m4) (fun v m4 => ICq A n p Sv Sn K B L m4 ∧ FCq m m4) (fun o => ∃ m5, o = lX5_hashWithSlot_39 fu (nI i) (h2s A i (h1s A i h 10) (4 * k + 4)) (nI (k + 1)) m5 ∧ ICq A n p Sv Sn K B L m5 ∧ FCq m m5) 4 (fun fu2 v m4 hv hI => ?_) (fun fu2 m4 hI => ?_) FU 0 m3 (by decide) (by decide) ⟨i2, f2⟩
      · obtain ⟨m5, k1, k2, k3⟩ := key
        refine ⟨m5, ⟨k2, k3⟩, ?_⟩
        rw [lX5_hashWithSlot_39_s]
        simp (disch := omega) only [z_nn2, z0, z1, z2, z3, z4, z5, z6, z7, z8, z9, z10, z11, z12, z13, z14, z15, z16, z17, z18, z19, z20, z23, z24, z28, z31, z32, z33, z45, z46, z47, z48, z52, z57, z60, z63, z65, z70, z80, z95, z100, z126, z127, z128, z200, z240, z255, z400, z480, z500, z840, z1023, z2000, z99999, z1073741824, z_nn, z_add, z_sub, z_mul, z_div, z_rem, z_cl, z_in, z_chk, z_chkp, z_bnd, z_bn2, z_wth, z_bxr, z_bxl, z_bx2r, z_bx2l, z_bz0, z_bz1, z_mx, z_mn, z_tb1, z_tb0, z_eq, z_le, z_lt, z_nn_lt, z_nn_le, z_nn_ge, z_nn_gt, z_nn_eq, z_nn_eq2, z_bit, z_wow, z_wo, z_or, z_shl, z_if, z_ifn, fbit, if_true, if_false, Nat.zero_add, Nat.add_zero, not_false_iff, not_true]
        exact k1
      · obtain ⟨i4, f4⟩ := hI
        obtain ⟨m5, e5, f5, g5⟩ := fsegProp i4.1 w i4.2.1 hi hk hv
        obtain ⟨i5, fc5⟩ := i4.pe f5 g5
        refine ⟨m5, ⟨i5, f4.tr fc5⟩, ?_⟩
        rw [lX5_hashWithSlot_49_s]
        simp (disch := omega) only [z_nn2, z0, z1, z2, z3, z4, z5, z6, z7, z8, z9, z10, z11, z12, z13, z14, z15, z16, z17, z18, z19, z20, z23, z24, z28, z31, z32, z33, z45, z46, z47, z48, z52, z57, z60, z63, z65, z70, z80, z95, z100, z126, z127, z128, z200, z240, z255, z400, z480, z500, z840, z1023, z2000, z99999, z1073741824, z_nn, z_add, z_sub, z_mul, z_div, z_rem, z_cl, z_in, z_chk, z_chkp, z_bnd, z_bn2, z_wth, z_bxr, z_bxl, z_bx2r, z_bx2l, z_bz0, z_bz1, z_mx, z_mn, z_tb1, z_tb0, z_eq, z_le, z_lt, z_nn_lt, z_nn_le, z_nn_ge, z_nn_gt, z_nn_eq, z_nn_eq2, z_bit, z_wow, z_wo, z_or, z_shl, z_if, z_ifn, fbit, if_true, if_false, Nat.zero_add, Nat.add_zero, not_false_iff, not_true, e5]
        have e6 : h2s A i (h1s A i h 10) (4 * k + (v + 1)) = dgm (h2s A i (h1s A i h 10) (4 * k + v)) (sgp A i ((4 * k + v) / 4) ((4 * k + v) % 4)).toInt64 := rfl
        rw [e6, show (4 * k + v) / 4 = k by omega, show (4 * k + v) % 4 = v by omega]
        rfl
      · obtain ⟨i4, f4⟩ := hI
        rw [lX5_hashWithSlot_49_s]
        unfold jX5_hashWithSlot_80
        simp (disch := omega) only [z_nn2, z0, z1, z2, z3, z4, z5, z6, z7, z8, z9, z10, z11, z12, z13, z14, z15, z16, z17, z18, z19, z20, z23, z24, z28, z31, z32, z33, z45, z46, z47, z48, z52, z57, z60, z63, z65, z70, z80, z95, z100, z126, z127, z128, z200, z240, z255, z400, z480, z500, z840, z1023, z2000, z99999, z1073741824, z_nn, z_add, z_sub, z_mul, z_div, z_rem, z_cl, z_in, z_chk, z_chkp, z_bnd, z_bn2, z_wth, z_bxr, z_bxl, z_bx2r, z_bx2l, z_bz0, z_bz1, z_mx, z_mn, z_tb1, z_tb0, z_eq, z_le, z_lt, z_nn_lt, z_nn_le, z_nn_ge, z_nn_gt, z_nn_eq, z_nn_eq2, z_bit, z_wow, z_wo, z_or, z_shl, z_if, z_ifn, fbit, if_true, if_false, Nat.zero_add, Nat.add_zero, not_false_iff, not_true]
        exact ⟨m4, rfl, i4, f4⟩
    · obtain ⟨i2, f2⟩ := hI
      obtain ⟨m4, e4, f4⟩ := ftimeIf i2.1 w (ticks := 20) (i := i) (by decide) (by decide) hi
      obtain ⟨i4, fc4⟩ := i2.pb f4
      rw [lX5_hashWithSlot_39_s]
      unfold jX5_hashWithSlot_86
      simp (disch := omega) only [z_nn2, z0, z1, z2, z3, z4, z5, z6, z7, z8, z9, z10, z11, z12, z13, z14, z15, z16, z17, z18, z19, z20, z23, z24, z28, z31, z32, z33, z45, z46, z47, z48, z52, z57, z60, z63, z65, z70, z80, z95, z100, z126, z127, z128, z200, z240, z255, z400, z480, z500, z840, z1023, z2000, z99999, z1073741824, z_nn, z_add, z_sub, z_mul, z_div, z_rem, z_cl, z_in, z_chk, z_chkp, z_bnd, z_bn2, z_wth, z_bxr, z_bxl, z_bx2r, z_bx2l, z_bz0, z_bz1, z_mx, z_mn, z_tb1, z_tb0, z_eq, z_le, z_lt, z_nn_lt, z_nn_le, z_nn_ge, z_nn_gt, z_nn_eq, z_nn_eq2, z_bit, z_wow, z_wo, z_or, z_shl, z_if, z_ifn, fbit, if_true, if_false, Nat.zero_add, Nat.add_zero, not_false_iff, not_true, falike i2.1 w hi, flowest i2.1 w hi, e4, fleast i4.1 w hi]
      exact ⟨m4, rfl, i4, f2.tr fc4⟩
theorem dc_all {A : Nat → Nat} {n p : Nat} {Sv Sn : Nat → Nat → Nat} {K B : Nat → Nat} {L : Nat} {m : gM} {x3 : Int32} {rs : Int64} {rm : Int32} (w : WF A) (hc : ICq A n p Sv Sn K B L m) (hL : L ≤ 12) (hK : ∀ i, i < 2 → K i ≤ 1) (hx : ∀ m, CS 0 A m → fX2_litIn 0 (nI (A 6)) m = some x3) (hs : fX5_bitsOf (shr A) 1023 52 = some rs) (hm1 : fX5_bitsOf (FP.f2d (mbr A)) 127 23 = some rm.toInt64) (hv : vf_n64 (FP.f2d (mbr A))) : DCl A n p Sv Sn K B L m (fX5_digest m) (dgB B (dgm (dgm (dgm (dgm (dgm (dgm (dgD A (dgS A (dgN A n x3 13) 4) 6) (nI (mn2 (upq A (10 + 4 * 0) 5) 0)).toInt64) rs) rm.toInt64) (nI (K 0)).toInt64) (nI (K 1)).toInt64) (nI L).toInt64) L) := by
  unfold fX5_digest
  simp only [z0]
  refine loop_ex (fun fu v m2 => lX5_digest_6 fu (dgN A n x3 v) (nI v) m2) (fun v m2 => ICq A n p Sv Sn K B L m2 ∧ FCq m m2) (fun o => DCl A n p Sv Sn K B L m o _) 13 (fun fu v m2 hv hI => ?_) (fun fu m2 hI => ?_) FU 0 m (by decide) (by decide) ⟨hc, FCq.rf⟩
  · obtain ⟨i1, f1⟩ := hI
    obtain ⟨m3, e3, f3, g3⟩ := fnumber i1.1 w i1.2.1 hx i1.2.2.1.1 hv
    obtain ⟨i3, fc3⟩ := i1.pe f3 g3
    refine ⟨m3, ⟨i3, f1.tr fc3⟩, ?_⟩
    rw [lX5_digest_6_s]
    simp (disch := omega) only [z_nn2, z0, z1, z2, z3, z4, z5, z6, z7, z8, z9, z10, z11, z12, z13, z14, z15, z16, z17, z18, z19, z20, z23, z24, z28, z31, z32, z33, z45, z46, z47, z48, z52, z57, z60, z63, z65, z70, z80, z95, z100, z126, z127, z128, z200, z240, z255, z400, z480, z500, z840, z1023, z2000, z99999, z1073741824, z_nn, z_add, z_sub, z_mul, z_div, z_rem, z_cl, z_in, z_chk, z_chkp, z_bnd, z_bn2, z_wth, z_bxr, z_bxl, z_bx2r, z_bx2l, z_bz0, z_bz1, z_mx, z_mn, z_tb1, z_tb0, z_eq, z_le, z_lt, z_nn_lt, z_nn_le, z_nn_ge, z_nn_gt, z_nn_eq, z_nn_eq2, z_bit, z_wow, z_wo, z_or, z_shl, z_if, z_ifn, fbit, if_true, if_false, Nat.zero_add, Nat.add_zero, not_false_iff, not_true, e3]
    rfl
  obtain ⟨i1, f1⟩ := hI
  rw [lX5_digest_6_s]
  unfold jX5_digest_31
  simp (disch := omega) only [z_nn2, z0, z1, z2, z3, z4, z5, z6, z7, z8, z9, z10, z11, z12, z13, z14, z15, z16, z17, z18, z19, z20, z23, z24, z28, z31, z32, z33, z45, z46, z47, z48, z52, z57, z60, z63, z65, z70, z80, z95, z100, z126, z127, z128, z200, z240, z255, z400, z480, z500, z840, z1023, z2000, z99999, z1073741824, z_nn, z_add, z_sub, z_mul, z_div, z_rem, z_cl, z_in, z_chk, z_chkp, z_bnd, z_bn2, z_wth, z_bxr, z_bxl, z_bx2r, z_bx2l, z_bz0, z_bz1, z_mx, z_mn, z_tb1, z_tb0, z_eq, z_le, z_lt, z_nn_lt, z_nn_le, z_nn_ge, z_nn_gt, z_nn_eq, z_nn_eq2, z_bit, z_wow, z_wo, z_or, z_shl, z_if, z_ifn, fbit, if_true, if_false, Nat.zero_add, Nat.add_zero, not_false_iff, not_true]
  have ks := loop_up (fun fu s => lX5_digest_33 fu (dgS A (dgN A n x3 13) s) (nI s) m2) (jX5_digest_61 (dgS A (dgN A n x3 13) 4) m2) 4 (fun fu s hs => ?_) (fun fu => ?_) FU 0 (by decide) (by decide)
  rotate_left
  · rw [lX5_digest_33_s]
    simp (disch := omega) only [z_nn2, z0, z1, z2, z3, z4, z5, z6, z7, z8, z9, z10, z11, z12, z13, z14, z15, z16, z17, z18, z19, z20, z23, z24, z28, z31, z32, z33, z45, z46, z47, z48, z52, z57, z60, z63, z65, z70, z80, z95, z100, z126, z127, z128, z200, z240, z255, z400, z480, z500, z840, z1023, z2000, z99999, z1073741824, z_nn, z_add, z_sub, z_mul, z_div, z_rem, z_cl, z_in, z_chk, z_chkp, z_bnd, z_bn2, z_wth, z_bxr, z_bxl, z_bx2r, z_bx2l, z_bz0, z_bz1, z_mx, z_mn, z_tb1, z_tb0, z_eq, z_le, z_lt, z_nn_lt, z_nn_le, z_nn_ge, z_nn_gt, z_nn_eq, z_nn_eq2, z_bit, z_wow, z_wo, z_or, z_shl, z_if, z_ifn, fbit, if_true, if_false, Nat.zero_add, Nat.add_zero, not_false_iff, not_true, i1.1.set]
    rfl
  · rw [lX5_digest_33_s]
    simp (disch := omega) only [z_nn2, z0, z1, z2, z3, z4, z5, z6, z7, z8, z9, z10, z11, z12, z13, z14, z15, z16, z17, z18, z19, z20, z23, z24, z28, z31, z32, z33, z45, z46, z47, z48, z52, z57, z60, z63, z65, z70, z80, z95, z100, z126, z127, z128, z200, z240, z255, z400, z480, z500, z840, z1023, z2000, z99999, z1073741824, z_nn, z_add, z_sub, z_mul, z_div, z_rem, z_cl, z_in, z_chk, z_chkp, z_bnd, z_bn2, z_wth, z_bxr, z_bxl, z_bx2r, z_bx2l, z_bz0, z_bz1, z_mx, z_mn, z_tb1, z_tb0, z_eq, z_le, z_lt, z_nn_lt, z_nn_le, z_nn_ge, z_nn_gt, z_nn_eq, z_nn_eq2, z_bit, z_wow, z_wo, z_or, z_shl, z_if, z_ifn, fbit, if_true, if_false, Nat.zero_add, Nat.add_zero, not_false_iff, not_true]
  have ks2 : lX5_digest_33 FU (dgN A n x3 13) (nI 0) m2 = jX5_digest_61 (dgS A (dgN A n x3 13) 4) m2 := ks
  rw [ks2]
  unfold jX5_digest_61
  simp only [z0]
  refine loop_ex (fun fu i m3 => lX5_digest_63 fu (dgD A (dgS A (dgN A n x3 13) 4) i) (nI i) m3) (fun i m3 => ICq A n p Sv Sn K B L m3 ∧ FCq m m3) (fun o => DCl A n p Sv Sn K B L m o _) 6 (fun fu i m3 hi hI => ?_) (fun fu m3 hI => ?_) FU 0 m2 (by decide) (by decide) ⟨i1, f1⟩
  · obtain ⟨i3, f3⟩ := hI
    obtain ⟨m4, e4, i4, fc4⟩ := dc_slot w i3 hi (dgD A (dgS A (dgN A n x3 13) 4) i)
    refine ⟨m4, ⟨i4, f3.tr fc4⟩, ?_⟩
    rw [lX5_digest_63_s]
    simp (disch := omega) only [z_nn2, z0, z1, z2, z3, z4, z5, z6, z7, z8, z9, z10, z11, z12, z13, z14, z15, z16, z17, z18, z19, z20, z23, z24, z28, z31, z32, z33, z45, z46, z47, z48, z52, z57, z60, z63, z65, z70, z80, z95, z100, z126, z127, z128, z200, z240, z255, z400, z480, z500, z840, z1023, z2000, z99999, z1073741824, z_nn, z_add, z_sub, z_mul, z_div, z_rem, z_cl, z_in, z_chk, z_chkp, z_bnd, z_bn2, z_wth, z_bxr, z_bxl, z_bx2r, z_bx2l, z_bz0, z_bz1, z_mx, z_mn, z_tb1, z_tb0, z_eq, z_le, z_lt, z_nn_lt, z_nn_le, z_nn_ge, z_nn_gt, z_nn_eq, z_nn_eq2, z_bit, z_wow, z_wo, z_or, z_shl, z_if, z_ifn, fbit, if_true, if_false, Nat.zero_add, Nat.add_zero, not_false_iff, not_true, e4]
    rfl
  obtain ⟨i3, f3⟩ := hI
  obtain ⟨m4, e4, f4⟩ := ftimed i3.1 w (i := 0) (v := 5) (by decide) (by decide)
  obtain ⟨i4, fc4⟩ := i3.p1 f4
  obtain ⟨m5, e5, f5, g5⟩ := fbright i4.1 w i4.2.1
  obtain ⟨i5, fc5⟩ := i4.pe f5 g5
  rw [lX5_digest_63_s]
  unfold jX5_digest_82
  have hs' : fX5_bitsOf (shr A) (nI 1023) (nI 52) = some rs := hs
  have hm1' : fX5_bitsOf (FP.f2d (mbr A)) (nI 127) (nI 23) = some rm.toInt64 := hm1
  simp (disch := omega) only [z_nn2, z0, z1, z2, z3, z4, z5, z6, z7, z8, z9, z10, z11, z12, z13, z14, z15, z16, z17, z18, z19, z20, z23, z24, z28, z31, z32, z33, z45, z46, z47, z48, z52, z57, z60, z63, z65, z70, z80, z95, z100, z126, z127, z128, z200, z240, z255, z400, z480, z500, z840, z1023, z2000, z99999, z1073741824, z_nn, z_add, z_sub, z_mul, z_div, z_rem, z_cl, z_in, z_chk, z_chkp, z_bnd, z_bn2, z_wth, z_bxr, z_bxl, z_bx2r, z_bx2l, z_bz0, z_bz1, z_mx, z_mn, z_tb1, z_tb0, z_eq, z_le, z_lt, z_nn_lt, z_nn_le, z_nn_ge, z_nn_gt, z_nn_eq, z_nn_eq2, z_bit, z_wow, z_wo, z_or, z_shl, z_if, z_ifn, fbit, if_true, if_false, Nat.zero_add, Nat.add_zero, not_false_iff, not_true, e4, fshare i4.1 w, hs', e5]
  rw [hm1']
  simp only [z_bnd]
  show DCl A n p Sv Sn K B L m (lX5_digest_136 FU (dgm (dgm (dgm (dgD A (dgS A (dgN A n x3 13) 4) 6) (nI (mn2 (upq A (10 + 4 * 0) 5) 0)).toInt64) rs) rm.toInt64) (nI 0) m5) _
  generalize dgm (dgm (dgm (dgD A (dgS A (dgN A n x3 13) 4) 6) (nI (mn2 (upq A (10 + 4 * 0) 5) 0)).toInt64) rs) rm.toInt64 = h0
  have step : ∀ fu y, y < 2 → ∀ h : Int64, lX5_digest_136 (fu + 1) h (nI y) m5 = lX5_digest_136 fu (dgm h (nI (K y)).toInt64) (nI (y + 1)) m5 := by
    intro fu y hy h
    have e19 := i5.2.2.2.1.1 y hy
    have hk := hK y hy
    rw [lX5_digest_136_s]
    unfold jX5_digest_160
    simp (disch := omega) only [z_nn2, z0, z1, z2, z3, z4, z5, z6, z7, z8, z9, z10, z11, z12, z13, z14, z15, z16, z17, z18, z19, z20, z23, z24, z28, z31, z32, z33, z45, z46, z47, z48, z52, z57, z60, z63, z65, z70, z80, z95, z100, z126, z127, z128, z200, z240, z255, z400, z480, z500, z840, z1023, z2000, z99999, z1073741824, z_nn, z_add, z_sub, z_mul, z_div, z_rem, z_cl, z_in, z_chk, z_chkp, z_bnd, z_bn2, z_wth, z_bxr, z_bxl, z_bx2r, z_bx2l, z_bz0, z_bz1, z_mx, z_mn, z_tb1, z_tb0, z_eq, z_le, z_lt, z_nn_lt, z_nn_le, z_nn_ge, z_nn_gt, z_nn_eq, z_nn_eq2, z_bit, z_wow, z_wo, z_or, z_shl, z_if, z_ifn, fbit, if_true, if_false, Nat.zero_add, Nat.add_zero, not_false_iff, not_true, e19]
    rcases (show K y = 0 ∨ K y = 1 by omega) with e | e
    · rw [e, if_pos rfl]; rfl
    · rw [e, if_neg (by decide)]; rfl
  rw [show FU = 4093 + 1 + 1 + 1 from rfl, step _ 0 (by decide), step _ 1 (by decide), lX5_digest_136_s]
  unfold jX5_digest_169
  simp (disch := omega) only [z_nn2, z0, z1, z2, z3, z4, z5, z6, z7, z8, z9, z10, z11, z12, z13, z14, z15, z16, z17, z18, z19, z20, z23, z24, z28, z31, z32, z33, z45, z46, z47, z48, z52, z57, z60, z63, z65, z70, z80, z95, z100, z126, z127, z128, z200, z240, z255, z400, z480, z500, z840, z1023, z2000, z99999, z1073741824, z_nn, z_add, z_sub, z_mul, z_div, z_rem, z_cl, z_in, z_chk, z_chkp, z_bnd, z_bn2, z_wth, z_bxr, z_bxl, z_bx2r, z_bx2l, z_bz0, z_bz1, z_mx, z_mn, z_tb1, z_tb0, z_eq, z_le, z_lt, z_nn_lt, z_nn_le, z_nn_ge, z_nn_gt, z_nn_eq, z_nn_eq2, z_bit, z_wow, z_wo, z_or, z_shl, z_if, z_ifn, fbit, if_true, if_false, Nat.zero_add, Nat.add_zero, not_false_iff, not_true, i5.2.2.2.2.1]
  show DCl A n p Sv Sn K B L m (lX5_digest_186 FU (dgm (dgm (dgm h0 (nI (K 0)).toInt64) (nI (K 1)).toInt64) (nI L).toInt64) (nI 0) m5) _
  generalize dgm (dgm (dgm h0 (nI (K 0)).toInt64) (nI (K 1)).toInt64) (nI L).toInt64 = h3
  have kb := loop_up (fun fu i => lX5_digest_186 fu (dgB B h3 i) (nI i) m5) (some (dgB B h3 L, m5)) L (fun fu i hi => ?_) (fun fu => ?_) FU 0 (Nat.zero_le _) (by unfold FU; omega)
  · exact ⟨m5, kb, i5, ((f3.tr fc4).tr fc5)⟩
  · rw [lX5_digest_186_s]
    simp (disch := omega) only [z_nn2, z0, z1, z2, z3, z4, z5, z6, z7, z8, z9, z10, z11, z12, z13, z14, z15, z16, z17, z18, z19, z20, z23, z24, z28, z31, z32, z33, z45, z46, z47, z48, z52, z57, z60, z63, z65, z70, z80, z95, z100, z126, z127, z128, z200, z240, z255, z400, z480, z500, z840, z1023, z2000, z99999, z1073741824, z_nn, z_add, z_sub, z_mul, z_div, z_rem, z_cl, z_in, z_chk, z_chkp, z_bnd, z_bn2, z_wth, z_bxr, z_bxl, z_bx2r, z_bx2l, z_bz0, z_bz1, z_mx, z_mn, z_tb1, z_tb0, z_eq, z_le, z_lt, z_nn_lt, z_nn_le, z_nn_ge, z_nn_gt, z_nn_eq, z_nn_eq2, z_bit, z_wow, z_wo, z_or, z_shl, z_if, z_ifn, fbit, if_true, if_false, Nat.zero_add, Nat.add_zero, not_false_iff, not_true, i5.2.2.2.2.1, i5.2.2.2.2.2]
    rfl
  · rw [lX5_digest_186_s]
    unfold jX5_digest_226
    by_cases c12 : 12 ≤ L
    · simp (disch := omega) only [z_nn2, z0, z1, z2, z3, z4, z5, z6, z7, z8, z9, z10, z11, z12, z13, z14, z15, z16, z17, z18, z19, z20, z23, z24, z28, z31, z32, z33, z45, z46, z47, z48, z52, z57, z60, z63, z65, z70, z80, z95, z100, z126, z127, z128, z200, z240, z255, z400, z480, z500, z840, z1023, z2000, z99999, z1073741824, z_nn, z_add, z_sub, z_mul, z_div, z_rem, z_cl, z_in, z_chk, z_chkp, z_bnd, z_bn2, z_wth, z_bxr, z_bxl, z_bx2r, z_bx2l, z_bz0, z_bz1, z_mx, z_mn, z_tb1, z_tb0, z_eq, z_le, z_lt, z_nn_lt, z_nn_le, z_nn_ge, z_nn_gt, z_nn_eq, z_nn_eq2, z_bit, z_wow, z_wo, z_or, z_shl, z_if, z_ifn, fbit, if_true, if_false, Nat.zero_add, Nat.add_zero, not_false_iff, not_true, i5.2.2.2.2.1]
    · simp (disch := omega) only [z_nn2, z0, z1, z2, z3, z4, z5, z6, z7, z8, z9, z10, z11, z12, z13, z14, z15, z16, z17, z18, z19, z20, z23, z24, z28, z31, z32, z33, z45, z46, z47, z48, z52, z57, z60, z63, z65, z70, z80, z95, z100, z126, z127, z128, z200, z240, z255, z400, z480, z500, z840, z1023, z2000, z99999, z1073741824, z_nn, z_add, z_sub, z_mul, z_div, z_rem, z_cl, z_in, z_chk, z_chkp, z_bnd, z_bn2, z_wth, z_bxr, z_bxl, z_bx2r, z_bx2l, z_bz0, z_bz1, z_mx, z_mn, z_tb1, z_tb0, z_eq, z_le, z_lt, z_nn_lt, z_nn_le, z_nn_ge, z_nn_gt, z_nn_eq, z_nn_eq2, z_bit, z_wow, z_wo, z_or, z_shl, z_if, z_ifn, fbit, if_true, if_false, Nat.zero_add, Nat.add_zero, not_false_iff, not_true, i5.2.2.2.2.1]
/-- the reference's side: the hash of now, what it viewed -/
def DR (A : Nat → Nat) (n : Nat) (Sv Sn : Nat → Nat → Nat) (K B : Nat → Nat) (L : Nat) (m m1 : gM) (h : Int64) : Prop := IR A n Sv Sn K B L m1 ∧ FRe m m1 ∧ gl m1 21 0 = h
theorem DR.hash {A : Nat → Nat} {n : Nat} {Sv Sn : Nat → Nat → Nat} {K B : Nat → Nat} {L : Nat} {m m1 : gM} {h : Int64} (d : DR A n Sv Sn K B L m m1 h) (v : Int64) : ∃ m2, fX6_hashes v m1 = some m2 ∧ DR A n Sv Sn K B L m m2 (dgm h v) ∧ (∀ c t i, gi m2 c t i = gi m1 c t i) := by
  obtain ⟨d1, d2, d3⟩ := d
  refine ⟨sl m1 21 0 (dgm h v), ?_, ⟨d1, ⟨d2.1, ?_⟩, ?_⟩, fun _ _ _ => rfl⟩
  · unfold fX6_hashes
    simp only [z_wth, d3]
    rfl
  · rw [gl_sl, if_neg (fun z => by omega)]
    exact d2.2
  · rw [gl_sl, if_pos ⟨rfl, rfl⟩]
theorem VCq.eqv {A : Nat → Nat} {m m1 : gM} (h : VCq A m) (hf : ∀ c i, 30 ≤ c → c ≤ 32 → gi m1 c 0 i = gi m c 0 i) : VCq A m1 := fun i k hi hk => by
  obtain ⟨q1, q2, q3⟩ := h i k hi hk
  exact ⟨(hf _ _ (by decide) (by decide)).trans q1, (hf _ _ (by decide) (by decide)).trans q2, (hf _ _ (by decide) (by decide)).trans q3⟩
theorem dr_slot {A : Nat → Nat} {n : Nat} {Sv Sn : Nat → Nat → Nat} {K B : Nat → Nat} {L : Nat} {m m1 : gM} (w : WF A) {h : Int64} (d : DR A n Sv Sn K B L m m1 h) (hv : VCq A m1) {i : Nat} (hi : i < 6) : ∃ m2, fX6_hashesSlot (nI i) m1 = some m2 ∧ DR A n Sv Sn K B L m m2 (dgSlot A i h) ∧ VCq A m2 := by
  unfold fX6_hashesSlot
  simp only [z0]
  refine loop_ex (fun fu v m2 => lX6_hashesSlot_2 fu (nI i) (nI v) m2) (fun v m2 => DR A n Sv Sn K B L m m2 (h1s A i h v) ∧ VCq A m2) (fun o => ∃ m2, o = some m2 ∧ DR A n Sv Sn K B L m m2 (dgSlot A i h) ∧ VCq A m2) 10 (fun fu v m2 hvv hI => ?_) (fun fu m2 hI => ?_) FU 0 m1 (by decide) (by decide) ⟨d, hv⟩
  · obtain ⟨d2, v2⟩ := hI
    obtain ⟨m3, e3, d3, g3⟩ := d2.hash (spq A i v).toInt64
    refine ⟨m3, ⟨d3, v2.eqv (fun c i _ _ => g3 c 0 i)⟩, ?_⟩
    rw [lX6_hashesSlot_2_s]
    simp (disch := omega) only [z_nn2, z0, z1, z2, z3, z4, z5, z6, z7, z8, z9, z10, z11, z12, z13, z14, z15, z16, z17, z18, z19, z20, z23, z24, z28, z31, z32, z33, z45, z46, z47, z48, z52, z57, z60, z63, z65, z70, z80, z95, z100, z126, z127, z128, z200, z240, z255, z400, z480, z500, z840, z1023, z2000, z99999, z1073741824, z_nn, z_add, z_sub, z_mul, z_div, z_rem, z_cl, z_in, z_chk, z_chkp, z_bnd, z_bn2, z_wth, z_bxr, z_bxl, z_bx2r, z_bx2l, z_bz0, z_bz1, z_mx, z_mn, z_tb1, z_tb0, z_eq, z_le, z_lt, z_nn_lt, z_nn_le, z_nn_ge, z_nn_gt, z_nn_eq, z_nn_eq2, z_bit, z_wow, z_wo, z_or, z_shl, z_if, z_ifn, fbit, if_true, if_false, Nat.zero_add, Nat.add_zero, not_false_iff, not_true, ftells d2.1.1 w v2 hi hvv, e3]
  · obtain ⟨d2, v2⟩ := hI
    rw [lX6_hashesSlot_2_s]
    unfold jX6_hashesSlot_25
    simp (disch := omega) only [z_nn2, z0, z1, z2, z3, z4, z5, z6, z7, z8, z9, z10, z11, z12, z13, z14, z15, z16, z17, z18, z19, z20, z23, z24, z28, z31, z32, z33, z45, z46, z47, z48, z52, z57, z60, z63, z65, z70, z80, z95, z100, z126, z127, z128, z200, z240, z255, z400, z480, z500, z840, z1023, z2000, z99999, z1073741824, z_nn, z_add, z_sub, z_mul, z_div, z_rem, z_cl, z_in, z_chk, z_chkp, z_bnd, z_bn2, z_wth, z_bxr, z_bxl, z_bx2r, z_bx2l, z_bz0, z_bz1, z_mx, z_mn, z_tb1, z_tb0, z_eq, z_le, z_lt, z_nn_lt, z_nn_le, z_nn_ge, z_nn_gt, z_nn_eq, z_nn_eq2, z_bit, z_wow, z_wo, z_or, z_shl, z_if, z_ifn, fbit, if_true, if_false, Nat.zero_add, Nat.add_zero, not_false_iff, not_true]
    refine loop_ex (fun fu q m3 => lX6_hashesSlot_27 fu (nI i) (nI q) m3) (fun q m3 => DR A n Sv Sn K B L m m3 (h2s A i (h1s A i h 10) q) ∧ VCq A m3) (fun o => ∃ m2, o = some m2 ∧ DR A n Sv Sn K B L m m2 (dgSlot A i h) ∧ VCq A m2) 32 (fun fu q m3 hq hI => ?_) (fun fu m3 hI => ?_) FU 0 m2 (by decide) (by decide) ⟨d2, v2⟩
    · obtain ⟨d3, v3⟩ := hI
      obtain ⟨m4, e4, d4, g4⟩ := d3.hash (sgp A i (q / 4) (q % 4)).toInt64
      refine ⟨m4, ⟨d4, v3.eqv (fun c i _ _ => g4 c 0 i)⟩, ?_⟩
      rw [lX6_hashesSlot_27_s]
      simp (disch := omega) only [z_nn2, z0, z1, z2, z3, z4, z5, z6, z7, z8, z9, z10, z11, z12, z13, z14, z15, z16, z17, z18, z19, z20, z23, z24, z28, z31, z32, z33, z45, z46, z47, z48, z52, z57, z60, z63, z65, z70, z80, z95, z100, z126, z127, z128, z200, z240, z255, z400, z480, z500, z840, z1023, z2000, z99999, z1073741824, z_nn, z_add, z_sub, z_mul, z_div, z_rem, z_cl, z_in, z_chk, z_chkp, z_bnd, z_bn2, z_wth, z_bxr, z_bxl, z_bx2r, z_bx2l, z_bz0, z_bz1, z_mx, z_mn, z_tb1, z_tb0, z_eq, z_le, z_lt, z_nn_lt, z_nn_le, z_nn_ge, z_nn_gt, z_nn_eq, z_nn_eq2, z_bit, z_wow, z_wo, z_or, z_shl, z_if, z_ifn, fbit, if_true, if_false, Nat.zero_add, Nat.add_zero, not_false_iff, not_true, ftellsSeg d3.1.1 w v3 hi (show q / 4 < 8 by omega) (show q % 4 < 4 by omega), e4]
    · obtain ⟨d3, v3⟩ := hI
      obtain ⟨m4, e4, d4, g4⟩ := d3.hash (nI (alc A i 18)).toInt64
      obtain ⟨m5, e5, d5, g5⟩ := d4.hash (nI (fst1 (alq A i) 18 0)).toInt64
      obtain ⟨m6, e6, f6⟩ := fbal6 d5.1.1 w (ticks := 20) (i := i) (by decide) (by decide) hi
      obtain ⟨q1, q2, -⟩ := d5.1.p33 f6
      have d6 : DR A n Sv Sn K B L m m6 _ := ⟨q1, d5.2.1.tr q2, (f6.2 21 0).trans d5.2.2⟩
      obtain ⟨m7, e7, d7, g7⟩ := d6.hash (bV A 20 i).toInt64
      obtain ⟨m8, e8, d8, g8⟩ := d7.hash (nI (sfs (flq A i) 18).1).toInt64
      have c0 := fcould d3.1.1 w hi (v := 0) (by decide)
      have c1 := fcould d4.1.1 w hi (v := 1) (by decide)
      rw [if_pos rfl] at c0
      rw [if_neg (by decide)] at c1
      refine ⟨m8, ?_, d8, (((((v3.eqv (fun c i _ _ => g4 c 0 i)).eqv (fun c i _ _ => g5 c 0 i)).eqv (fun c i h1 h2 => f6.1 c 0 i (by unfold P33; simp; omega))).eqv (fun c i _ _ => g7 c 0 i)).eqv (fun c i _ _ => g8 c 0 i))⟩
      rw [lX6_hashesSlot_27_s]
      unfold jX6_hashesSlot_55
      simp (disch := omega) only [z_nn2, z0, z1, z2, z3, z4, z5, z6, z7, z8, z9, z10, z11, z12, z13, z14, z15, z16, z17, z18, z19, z20, z23, z24, z28, z31, z32, z33, z45, z46, z47, z48, z52, z57, z60, z63, z65, z70, z80, z95, z100, z126, z127, z128, z200, z240, z255, z400, z480, z500, z840, z1023, z2000, z99999, z1073741824, z_nn, z_add, z_sub, z_mul, z_div, z_rem, z_cl, z_in, z_chk, z_chkp, z_bnd, z_bn2, z_wth, z_bxr, z_bxl, z_bx2r, z_bx2l, z_bz0, z_bz1, z_mx, z_mn, z_tb1, z_tb0, z_eq, z_le, z_lt, z_nn_lt, z_nn_le, z_nn_ge, z_nn_gt, z_nn_eq, z_nn_eq2, z_bit, z_wow, z_wo, z_or, z_shl, z_if, z_ifn, fbit, if_true, if_false, Nat.zero_add, Nat.add_zero, not_false_iff, not_true, c0, e4, c1, e5, e6, e7, fsafest6 d7.1.1 w hi, e8]
theorem dr_all {A : Nat → Nat} {n : Nat} {Sv Sn : Nat → Nat → Nat} {K B : Nat → Nat} {L : Nat} {m : gM} {x3 : Int32} {rs : Int64} {rm : Int32} (w : WF A) (hr : IR A n Sv Sn K B L m) (hL : L ≤ 12) (hK : ∀ i, i < 2 → K i ≤ 1) (hx : ∀ m, RMq A m → fX6_nextLit m = some x3) (hs : fJxe99ae_doubleToLongBits_ccdee (shr A) = some rs) (hm1 : fJxf58ca_floatToIntBits_5c35a (mbr A) = some rm) : ∃ m1, fX6_digest m = some (dgB B (dgm (dgm (dgm (dgm (dgm (dgm (dgD A (dgS A (dgN A n x3 13) 4) 6) (nI (mn2 (upq A (10 + 4 * 0) 5) 0)).toInt64) rs) rm.toInt64) (nI (K 0)).toInt64) (nI (K 1)).toInt64) (nI L).toInt64) L, m1) ∧ IR A n Sv Sn K B L m1 ∧ FRe m m1 := by
  unfold fX6_digest
  simp only [z_wth, z0]
  have h0 : IR A n Sv Sn K B L (sl (si m 21 0 0 (nI 0)) 21 0 3347) := hr.th (v := nI 0)
  obtain ⟨m2, e2, f2, v2⟩ := fviews h0.1 w
  have d2 : DR A n Sv Sn K B L m m2 3347 := by
    refine ⟨h0.pv f2, ⟨fun c t i hc => ((PV_re f2).1 c t i hc).trans ?_, ((PV_re f2).2).trans ?_⟩, ?_⟩
    · show gi (si m 21 0 0 (nI 0)) c t i = _
      rw [gi_si, if_neg (fun z => by omega)]
    · rw [gl_sl, if_neg (fun z => by omega)]; rfl
    · rw [f2.2 21 0, gl_sl, if_pos ⟨rfl, rfl⟩]
  rw [e2]
  simp only [z_bnd]
  refine loop_ex (fun fu v m3 => lX6_digest_18 fu (nI v) m3) (fun v m3 => DR A n Sv Sn K B L m m3 (dgN A n x3 v) ∧ VCq A m3) (fun o => ∃ m1, o = some (_, m1) ∧ IR A n Sv Sn K B L m1 ∧ FRe m m1) 13 (fun fu v m3 hv hI => ?_) (fun fu m3 hI => ?_) FU 0 m2 (by decide) (by decide) ⟨d2, v2⟩
  · obtain ⟨d3, v3⟩ := hI
    obtain ⟨m4, e4, d4, g4⟩ := d3.hash (np A n x3 v).toInt64
    refine ⟨m4, ⟨d4, v3.eqv (fun c i _ _ => g4 c 0 i)⟩, ?_⟩
    rw [lX6_digest_18_s]
    simp (disch := omega) only [z_nn2, z0, z1, z2, z3, z4, z5, z6, z7, z8, z9, z10, z11, z12, z13, z14, z15, z16, z17, z18, z19, z20, z23, z24, z28, z31, z32, z33, z45, z46, z47, z48, z52, z57, z60, z63, z65, z70, z80, z95, z100, z126, z127, z128, z200, z240, z255, z400, z480, z500, z840, z1023, z2000, z99999, z1073741824, z_nn, z_add, z_sub, z_mul, z_div, z_rem, z_cl, z_in, z_chk, z_chkp, z_bnd, z_bn2, z_wth, z_bxr, z_bxl, z_bx2r, z_bx2l, z_bz0, z_bz1, z_mx, z_mn, z_tb1, z_tb0, z_eq, z_le, z_lt, z_nn_lt, z_nn_le, z_nn_ge, z_nn_gt, z_nn_eq, z_nn_eq2, z_bit, z_wow, z_wo, z_or, z_shl, z_if, z_ifn, fbit, if_true, if_false, Nat.zero_add, Nat.add_zero, not_false_iff, not_true, fnumber6 d3.1.1 w v3 hx d3.1.2.1.1 hv, e4]
  obtain ⟨d3, v3⟩ := hI
  rw [lX6_digest_18_s]
  unfold jX6_digest_40
  simp (disch := omega) only [z_nn2, z0, z1, z2, z3, z4, z5, z6, z7, z8, z9, z10, z11, z12, z13, z14, z15, z16, z17, z18, z19, z20, z23, z24, z28, z31, z32, z33, z45, z46, z47, z48, z52, z57, z60, z63, z65, z70, z80, z95, z100, z126, z127, z128, z200, z240, z255, z400, z480, z500, z840, z1023, z2000, z99999, z1073741824, z_nn, z_add, z_sub, z_mul, z_div, z_rem, z_cl, z_in, z_chk, z_chkp, z_bnd, z_bn2, z_wth, z_bxr, z_bxl, z_bx2r, z_bx2l, z_bz0, z_bz1, z_mx, z_mn, z_tb1, z_tb0, z_eq, z_le, z_lt, z_nn_lt, z_nn_le, z_nn_ge, z_nn_gt, z_nn_eq, z_nn_eq2, z_bit, z_wow, z_wo, z_or, z_shl, z_if, z_ifn, fbit, if_true, if_false, Nat.zero_add, Nat.add_zero, not_false_iff, not_true]
  refine loop_ex (fun fu s m4 => lX6_digest_42 fu (nI s) m4) (fun s m4 => DR A n Sv Sn K B L m m4 (dgS A (dgN A n x3 13) s) ∧ VCq A m4) (fun o => ∃ m1, o = some (_, m1) ∧ IR A n Sv Sn K B L m1 ∧ FRe m m1) 4 (fun fu s m4 hs2 hI => ?_) (fun fu m4 hI => ?_) FU 0 m3 (by decide) (by decide) ⟨d3, v3⟩
  · obtain ⟨d4, v4⟩ := hI
    obtain ⟨m5, e5, d5, g5⟩ := d4.hash (nI (A s)).toInt64
    refine ⟨m5, ⟨d5, v4.eqv (fun c i _ _ => g5 c 0 i)⟩, ?_⟩
    rw [lX6_digest_42_s]
    simp (disch := omega) only [z_nn2, z0, z1, z2, z3, z4, z5, z6, z7, z8, z9, z10, z11, z12, z13, z14, z15, z16, z17, z18, z19, z20, z23, z24, z28, z31, z32, z33, z45, z46, z47, z48, z52, z57, z60, z63, z65, z70, z80, z95, z100, z126, z127, z128, z200, z240, z255, z400, z480, z500, z840, z1023, z2000, z99999, z1073741824, z_nn, z_add, z_sub, z_mul, z_div, z_rem, z_cl, z_in, z_chk, z_chkp, z_bnd, z_bn2, z_wth, z_bxr, z_bxl, z_bx2r, z_bx2l, z_bz0, z_bz1, z_mx, z_mn, z_tb1, z_tb0, z_eq, z_le, z_lt, z_nn_lt, z_nn_le, z_nn_ge, z_nn_gt, z_nn_eq, z_nn_eq2, z_bit, z_wow, z_wo, z_or, z_shl, z_if, z_ifn, fbit, if_true, if_false, Nat.zero_add, Nat.add_zero, not_false_iff, not_true, d4.1.1 s, e5]
  obtain ⟨d4, v4⟩ := hI
  rw [lX6_digest_42_s]
  unfold jX6_digest_64
  simp (disch := omega) only [z_nn2, z0, z1, z2, z3, z4, z5, z6, z7, z8, z9, z10, z11, z12, z13, z14, z15, z16, z17, z18, z19, z20, z23, z24, z28, z31, z32, z33, z45, z46, z47, z48, z52, z57, z60, z63, z65, z70, z80, z95, z100, z126, z127, z128, z200, z240, z255, z400, z480, z500, z840, z1023, z2000, z99999, z1073741824, z_nn, z_add, z_sub, z_mul, z_div, z_rem, z_cl, z_in, z_chk, z_chkp, z_bnd, z_bn2, z_wth, z_bxr, z_bxl, z_bx2r, z_bx2l, z_bz0, z_bz1, z_mx, z_mn, z_tb1, z_tb0, z_eq, z_le, z_lt, z_nn_lt, z_nn_le, z_nn_ge, z_nn_gt, z_nn_eq, z_nn_eq2, z_bit, z_wow, z_wo, z_or, z_shl, z_if, z_ifn, fbit, if_true, if_false, Nat.zero_add, Nat.add_zero, not_false_iff, not_true]
  refine loop_ex (fun fu i m5 => lX6_digest_66 fu (nI i) m5) (fun i m5 => DR A n Sv Sn K B L m m5 (dgD A (dgS A (dgN A n x3 13) 4) i) ∧ VCq A m5) (fun o => ∃ m1, o = some (_, m1) ∧ IR A n Sv Sn K B L m1 ∧ FRe m m1) 6 (fun fu i m5 hi hI => ?_) (fun fu m5 hI => ?_) FU 0 m4 (by decide) (by decide) ⟨d4, v4⟩
  · obtain ⟨d5, v5⟩ := hI
    obtain ⟨m6, e6, d6, v6⟩ := dr_slot w d5 v5 hi
    refine ⟨m6, ⟨d6, v6⟩, ?_⟩
    rw [lX6_digest_66_s]
    simp (disch := omega) only [z_nn2, z0, z1, z2, z3, z4, z5, z6, z7, z8, z9, z10, z11, z12, z13, z14, z15, z16, z17, z18, z19, z20, z23, z24, z28, z31, z32, z33, z45, z46, z47, z48, z52, z57, z60, z63, z65, z70, z80, z95, z100, z126, z127, z128, z200, z240, z255, z400, z480, z500, z840, z1023, z2000, z99999, z1073741824, z_nn, z_add, z_sub, z_mul, z_div, z_rem, z_cl, z_in, z_chk, z_chkp, z_bnd, z_bn2, z_wth, z_bxr, z_bxl, z_bx2r, z_bx2l, z_bz0, z_bz1, z_mx, z_mn, z_tb1, z_tb0, z_eq, z_le, z_lt, z_nn_lt, z_nn_le, z_nn_ge, z_nn_gt, z_nn_eq, z_nn_eq2, z_bit, z_wow, z_wo, z_or, z_shl, z_if, z_ifn, fbit, if_true, if_false, Nat.zero_add, Nat.add_zero, not_false_iff, not_true, e6]
  obtain ⟨d5, v5⟩ := hI
  obtain ⟨m6, e6, r6, f6⟩ := ftimed6 d5.1.1 w (i := 0) (v := 5) (by decide) (by decide)
  obtain ⟨q1, q2, -⟩ := d5.1.tm r6 f6
  have d6 : DR A n Sv Sn K B L m m6 _ := ⟨q1, d5.2.1.tr q2, (f6.2 21 0).trans d5.2.2⟩
  obtain ⟨m7, e7, d7, g7⟩ := d6.hash (nI (mn2 (upq A (10 + 4 * 0) 5) 0)).toInt64
  obtain ⟨m8, e8, f8, v8⟩ := fviews d7.1.1 w
  have d8 : DR A n Sv Sn K B L m m8 _ := ⟨d7.1.pv f8, d7.2.1.tr (PV_re f8), (f8.2 21 0).trans d7.2.2⟩
  obtain ⟨m9, e9, d9, g9⟩ := d8.hash rs
  have v9 := v8.eqv (m1 := m9) (fun c i _ _ => g9 c 0 i)
  obtain ⟨m10, e10, d10, g10⟩ := d9.hash rm.toInt64
  obtain ⟨m11, e11, d11, g11⟩ := d10.hash (nI (K 0)).toInt64
  obtain ⟨m12, e12, d12, g12⟩ := d11.hash (nI (K 1)).toInt64
  obtain ⟨m13, e13, d13, g13⟩ := d12.hash (nI L).toInt64
  rw [lX6_digest_66_s]
  unfold jX6_digest_83
  simp (disch := omega) only [z_nn2, z0, z1, z2, z3, z4, z5, z6, z7, z8, z9, z10, z11, z12, z13, z14, z15, z16, z17, z18, z19, z20, z23, z24, z28, z31, z32, z33, z45, z46, z47, z48, z52, z57, z60, z63, z65, z70, z80, z95, z100, z126, z127, z128, z200, z240, z255, z400, z480, z500, z840, z1023, z2000, z99999, z1073741824, z_nn, z_add, z_sub, z_mul, z_div, z_rem, z_cl, z_in, z_chk, z_chkp, z_bnd, z_bn2, z_wth, z_bxr, z_bxl, z_bx2r, z_bx2l, z_bz0, z_bz1, z_mx, z_mn, z_tb1, z_tb0, z_eq, z_le, z_lt, z_nn_lt, z_nn_le, z_nn_ge, z_nn_gt, z_nn_eq, z_nn_eq2, z_bit, z_wow, z_wo, z_or, z_shl, z_if, z_ifn, fbit, if_true, if_false, Nat.zero_add, Nat.add_zero, not_false_iff, not_true, e6, e7, e8, fshare6 d8.1.1 w, hs, e9, fbright6 d9.1.1 w v9, hm1, e10, d10.1.2.2.1.1 0 (by decide)]
  have k0 := hK 0 (by decide)
  have k1 := hK 1 (by decide)
  have j136 : ∀ y : Int64, y = (nI (K 0)).toInt64 → jX6_digest_136 y m10 = (if gi m11 25 0 1 = nI 0 then jX6_digest_154 0 m11 else jX6_digest_154 1 m11) := by
    intro y hy
    unfold jX6_digest_136
    rw [hy, e11]
    simp (disch := omega) only [z_nn2, z0, z1, z2, z3, z4, z5, z6, z7, z8, z9, z10, z11, z12, z13, z14, z15, z16, z17, z18, z19, z20, z23, z24, z28, z31, z32, z33, z45, z46, z47, z48, z52, z57, z60, z63, z65, z70, z80, z95, z100, z126, z127, z128, z200, z240, z255, z400, z480, z500, z840, z1023, z2000, z99999, z1073741824, z_nn, z_add, z_sub, z_mul, z_div, z_rem, z_cl, z_in, z_chk, z_chkp, z_bnd, z_bn2, z_wth, z_bxr, z_bxl, z_bx2r, z_bx2l, z_bz0, z_bz1, z_mx, z_mn, z_tb1, z_tb0, z_eq, z_le, z_lt, z_nn_lt, z_nn_le, z_nn_ge, z_nn_gt, z_nn_eq, z_nn_eq2, z_bit, z_wow, z_wo, z_or, z_shl, z_if, z_ifn, fbit, if_true, if_false, Nat.zero_add, Nat.add_zero, not_false_iff, not_true]
  have j154 : ∀ y : Int64, y = (nI (K 1)).toInt64 → jX6_digest_154 y m11 = lX6_digest_168 FU (nI 0) m13 := by
    intro y hy
    unfold jX6_digest_154
    rw [hy, e12]
    simp only [z_bnd]
    rw [d12.1.2.2.2.1, e13]
    simp only [z_bnd, z0]
  have e1 : (if nI (K 0) = nI 0 then jX6_digest_136 0 m10 else jX6_digest_136 1 m10) = lX6_digest_168 FU (nI 0) m13 := by
    have t1 : (if gi m11 25 0 1 = nI 0 then jX6_digest_154 0 m11 else jX6_digest_154 1 m11) = lX6_digest_168 FU (nI 0) m13 := by
      rw [d11.1.2.2.1.1 1 (by decide)]
      rcases (show K 1 = 0 ∨ K 1 = 1 by omega) with e | e
      · rw [e, if_pos rfl]; exact j154 0 (by rw [e]; decide)
      · rw [e, if_neg (by decide)]; exact j154 1 (by rw [e]; decide)
    rcases (show K 0 = 0 ∨ K 0 = 1 by omega) with e | e
    · rw [e, if_pos rfl, j136 0 (by rw [e]; decide)]; exact t1
    · rw [e, if_neg (by decide), j136 1 (by rw [e]; decide)]; exact t1
  rw [e1]
  refine loop_ex (fun fu i m14 => lX6_digest_168 fu (nI i) m14) (fun i m14 => DR A n Sv Sn K B L m m14 (dgB B (dgm (dgm (dgm (dgm (dgm (dgm (dgD A (dgS A (dgN A n x3 13) 4) 6) (nI (mn2 (upq A (10 + 4 * 0) 5) 0)).toInt64) rs) rm.toInt64) (nI (K 0)).toInt64) (nI (K 1)).toInt64) (nI L).toInt64) i)) (fun o => ∃ m1, o = some (_, m1) ∧ IR A n Sv Sn K B L m1 ∧ FRe m m1) L (fun fu i m14 hi hI => ?_) (fun fu m14 hI => ?_) FU 0 m13 (Nat.zero_le _) (by unfold FU; omega) d13
  · obtain ⟨m15, e15, d15, g15⟩ := hI.hash (nI (B i)).toInt64
    refine ⟨m15, d15, ?_⟩
    rw [lX6_digest_168_s]
    simp (disch := omega) only [z_nn2, z0, z1, z2, z3, z4, z5, z6, z7, z8, z9, z10, z11, z12, z13, z14, z15, z16, z17, z18, z19, z20, z23, z24, z28, z31, z32, z33, z45, z46, z47, z48, z52, z57, z60, z63, z65, z70, z80, z95, z100, z126, z127, z128, z200, z240, z255, z400, z480, z500, z840, z1023, z2000, z99999, z1073741824, z_nn, z_add, z_sub, z_mul, z_div, z_rem, z_cl, z_in, z_chk, z_chkp, z_bnd, z_bn2, z_wth, z_bxr, z_bxl, z_bx2r, z_bx2l, z_bz0, z_bz1, z_mx, z_mn, z_tb1, z_tb0, z_eq, z_le, z_lt, z_nn_lt, z_nn_le, z_nn_ge, z_nn_gt, z_nn_eq, z_nn_eq2, z_bit, z_wow, z_wo, z_or, z_shl, z_if, z_ifn, fbit, if_true, if_false, Nat.zero_add, Nat.add_zero, not_false_iff, not_true, hI.1.2.2.2.1, hI.1.2.2.2.2, e15]
  · rw [lX6_digest_168_s]
    simp (disch := omega) only [z_nn2, z0, z1, z2, z3, z4, z5, z6, z7, z8, z9, z10, z11, z12, z13, z14, z15, z16, z17, z18, z19, z20, z23, z24, z28, z31, z32, z33, z45, z46, z47, z48, z52, z57, z60, z63, z65, z70, z80, z95, z100, z126, z127, z128, z200, z240, z255, z400, z480, z500, z840, z1023, z2000, z99999, z1073741824, z_nn, z_add, z_sub, z_mul, z_div, z_rem, z_cl, z_in, z_chk, z_chkp, z_bnd, z_bn2, z_wth, z_bxr, z_bxl, z_bx2r, z_bx2l, z_bz0, z_bz1, z_mx, z_mn, z_tb1, z_tb0, z_eq, z_le, z_lt, z_nn_lt, z_nn_le, z_nn_ge, z_nn_gt, z_nn_eq, z_nn_eq2, z_bit, z_wow, z_wo, z_or, z_shl, z_if, z_ifn, fbit, if_true, if_false, Nat.zero_add, Nat.add_zero, not_false_iff, not_true, hI.1.2.2.2.1, hI.2.2]
    exact ⟨m14, rfl, hI.1, hI.2.1⟩
theorem op_digest {m : gM} (hi : HIq m) : ∃ r m1 m2, fX5_digest m = some (r, m1) ∧ fX6_digest m1 = some (r, m2) ∧ HIq m2 := by
  obtain ⟨A, n, p, Sv, Sn, K, B, L, hg, hc, hr⟩ := hi
  have hL : L ≤ 12 := hg.2.2.2.2.2.2.1
  have hK : ∀ i, i < 2 → K i ≤ 1 := fun i hi => (hg.2.2.2.2.2.1 i hi).1
  obtain ⟨x3, y1, y2⟩ := fnext hg.1 hg.2.1
  obtain ⟨rs, s1, s2⟩ := share_bits hg.1
  obtain ⟨rm, t1, t2, t3, -⟩ := mean_bits hg.1
  obtain ⟨m1, e1, i1, f1⟩ := dc_all hg.1 hc hL hK y1 s1 t1 t3
  obtain ⟨m2, e2, i2, f2⟩ := dr_all hg.1 (hr.fc f1) hL hK y2 s2 t2
  exact ⟨_, m1, m2, e1, e2, A, n, p, Sv, Sn, K, B, L, hg, i1.re f2, i2⟩
