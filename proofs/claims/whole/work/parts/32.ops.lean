/-! LOOKS, what would be, balance -/
theorem PV_re {m m1 : gM} (hf : Frq PVq m m1) : FRe m m1 := hf.fre (fun c t hc => by unfold PVq; simp; omega)
theorem IR.pv {A : Nat → Nat} {n : Nat} {Sv Sn : Nat → Nat → Nat} {K B : Nat → Nat} {L : Nat} {m m1 : gM} (h : IR A n Sv Sn K B L m) (hf : Frq PVq m m1) : IR A n Sv Sn K B L m1 := h.vw hf (fun c h1 h2 => by unfold PVq; simp; omega)
/-- the reference views, then refuses -/
theorem xthv {A : Nat → Nat} {n : Nat} {Sv Sn : Nat → Nat → Nat} {K B : Nat → Nat} {L : Nat} {m m1 : gM} {k : Nat} (h : IR A n Sv Sn K B L m) (hf : Frq PVq (si m 21 0 0 (nI 0)) m1) : ∃ (b : Int32) (m2 : gM), some (nI 0, si m1 21 0 0 (nI k)) = some (b, m2) ∧ IR A n Sv Sn K B L m2 ∧ FRe m m2 ∧ gi m2 21 0 0 = nI k := ⟨_, _, rfl, (h.th.pv hf).th, ((FRe.si (by decide)).tr (PV_re hf)).tr (FRe.si (by decide)), by rw [gi_si, if_pos ⟨rfl, rfl, rfl⟩]⟩
theorem xret {A : Nat → Nat} {n : Nat} {Sv Sn : Nat → Nat → Nat} {K B : Nat → Nat} {L : Nat} {m m1 : gM} (h : IR A n Sv Sn K B L m) (hf : Frq PVq (si m 21 0 0 (nI 0)) m1) : IR A n Sv Sn K B L m1 ∧ FRe m m1 ∧ gi m1 21 0 0 = nI 0 := ⟨h.th.pv hf, (FRe.si (by decide)).tr (PV_re hf), by rw [hf.1 21 0 0 rfl, gi_si, if_pos ⟨rfl, rfl, rfl⟩]⟩
theorem op_slotOf {x1 x2 : Int32} {m : gM} (hi : HIq m) : Okq (fL_slotOf x1 x2 m) (fX6_slotOf x1 x2) := by
  obtain ⟨A, n, p, Sv, Sn, K, B, L, hg, hc, hr⟩ := hi
  have w := hg.1
  rcases ixZ x1 (n := 6) (by decide) with hb | ⟨i, hi, rfl⟩
  · obtain ⟨c1, c2⟩ := cSlot_bad hb
    refine ok_thr hr (k := nI 1) (nI_ne (by decide) (by decide)) ⟨m, ?_, hc, FCq.rf⟩ (fun m h => ?_) hg
    · unfold fL_slotOf fX5_slotOf
      simp (disch := omega) only [z_nn2, z0, z1, z2, z3, z4, z5, z6, z7, z8, z9, z10, z11, z12, z13, z14, z15, z16, z17, z18, z19, z20, z23, z24, z28, z31, z32, z33, z45, z46, z47, z48, z52, z57, z60, z63, z65, z70, z80, z95, z100, z126, z127, z128, z200, z240, z255, z400, z480, z500, z840, z1023, z2000, z99999, z1073741824, z_nn, z_add, z_sub, z_mul, z_div, z_rem, z_cl, z_in, z_chk, z_chkp, z_bnd, z_bn2, z_wth, z_bxr, z_bxl, z_bx2r, z_bx2l, z_bz0, z_bz1, z_mx, z_mn, z_tb1, z_tb0, z_eq, z_le, z_lt, z_nn_lt, z_nn_le, z_nn_ge, z_nn_gt, z_nn_eq, z_nn_eq2, z_bit, z_wow, z_wo, z_or, z_shl, z_if, z_ifn, fbit, if_true, if_false, Nat.zero_add, Nat.add_zero, not_false_iff, not_true, c1, z_bx2l]
    · unfold fX6_slotOf fX6_fails
      simp (disch := omega) only [z_nn2, z0, z1, z2, z3, z4, z5, z6, z7, z8, z9, z10, z11, z12, z13, z14, z15, z16, z17, z18, z19, z20, z23, z24, z28, z31, z32, z33, z45, z46, z47, z48, z52, z57, z60, z63, z65, z70, z80, z95, z100, z126, z127, z128, z200, z240, z255, z400, z480, z500, z840, z1023, z2000, z99999, z1073741824, z_nn, z_add, z_sub, z_mul, z_div, z_rem, z_cl, z_in, z_chk, z_chkp, z_bnd, z_bn2, z_wth, z_bxr, z_bxl, z_bx2r, z_bx2l, z_bz0, z_bz1, z_mx, z_mn, z_tb1, z_tb0, z_eq, z_le, z_lt, z_nn_lt, z_nn_le, z_nn_ge, z_nn_gt, z_nn_eq, z_nn_eq2, z_bit, z_wow, z_wo, z_or, z_shl, z_if, z_ifn, fbit, if_true, if_false, Nat.zero_add, Nat.add_zero, not_false_iff, not_true, c2]
      exact xthr h
  · obtain ⟨c1, c2⟩ := cSlot_ok hi
    rcases ixZ x2 (n := 10) (by decide) with hb | ⟨v, hv, rfl⟩
    · obtain ⟨d1, d2⟩ := cWhat_bad (k := 10) (by decide) (by decide) hb
      refine ok_thr hr (k := nI 2) (nI_ne (by decide) (by decide)) ⟨m, ?_, hc, FCq.rf⟩ (fun m h => ?_) hg
      · unfold fL_slotOf fX5_slotOf
        simp (disch := omega) only [z_nn2, z0, z1, z2, z3, z4, z5, z6, z7, z8, z9, z10, z11, z12, z13, z14, z15, z16, z17, z18, z19, z20, z23, z24, z28, z31, z32, z33, z45, z46, z47, z48, z52, z57, z60, z63, z65, z70, z80, z95, z100, z126, z127, z128, z200, z240, z255, z400, z480, z500, z840, z1023, z2000, z99999, z1073741824, z_nn, z_add, z_sub, z_mul, z_div, z_rem, z_cl, z_in, z_chk, z_chkp, z_bnd, z_bn2, z_wth, z_bxr, z_bxl, z_bx2r, z_bx2l, z_bz0, z_bz1, z_mx, z_mn, z_tb1, z_tb0, z_eq, z_le, z_lt, z_nn_lt, z_nn_le, z_nn_ge, z_nn_gt, z_nn_eq, z_nn_eq2, z_bit, z_wow, z_wo, z_or, z_shl, z_if, z_ifn, fbit, if_true, if_false, Nat.zero_add, Nat.add_zero, not_false_iff, not_true, c1, d1, z_bx2l]
        rfl
      · obtain ⟨m1, e1, f1, v1⟩ := fviews (h.th (v := nI 0)).1 w
        unfold fX6_slotOf fX6_fails
        simp (disch := omega) only [z_nn2, z0, z1, z2, z3, z4, z5, z6, z7, z8, z9, z10, z11, z12, z13, z14, z15, z16, z17, z18, z19, z20, z23, z24, z28, z31, z32, z33, z45, z46, z47, z48, z52, z57, z60, z63, z65, z70, z80, z95, z100, z126, z127, z128, z200, z240, z255, z400, z480, z500, z840, z1023, z2000, z99999, z1073741824, z_nn, z_add, z_sub, z_mul, z_div, z_rem, z_cl, z_in, z_chk, z_chkp, z_bnd, z_bn2, z_wth, z_bxr, z_bxl, z_bx2r, z_bx2l, z_bz0, z_bz1, z_mx, z_mn, z_tb1, z_tb0, z_eq, z_le, z_lt, z_nn_lt, z_nn_le, z_nn_ge, z_nn_gt, z_nn_eq, z_nn_eq2, z_bit, z_wow, z_wo, z_or, z_shl, z_if, z_ifn, fbit, if_true, if_false, Nat.zero_add, Nat.add_zero, not_false_iff, not_true, c2, e1, d2]
        exact xthv h f1
    · obtain ⟨d1, d2⟩ := cWhat_ok (k := 10) (by decide) hv
      obtain ⟨m1, e1, f1, g1⟩ := fslotProp hc.1 w hc.2.1 hi hv
      obtain ⟨b1, b2⟩ := hc.pe f1 g1
      refine ok_ret hr (r := spq A i v) ⟨m1, ?_, b1, b2⟩ (fun m h => ?_) hg
      · unfold fL_slotOf fX5_slotOf
        simp (disch := omega) only [z_nn2, z0, z1, z2, z3, z4, z5, z6, z7, z8, z9, z10, z11, z12, z13, z14, z15, z16, z17, z18, z19, z20, z23, z24, z28, z31, z32, z33, z45, z46, z47, z48, z52, z57, z60, z63, z65, z70, z80, z95, z100, z126, z127, z128, z200, z240, z255, z400, z480, z500, z840, z1023, z2000, z99999, z1073741824, z_nn, z_add, z_sub, z_mul, z_div, z_rem, z_cl, z_in, z_chk, z_chkp, z_bnd, z_bn2, z_wth, z_bxr, z_bxl, z_bx2r, z_bx2l, z_bz0, z_bz1, z_mx, z_mn, z_tb1, z_tb0, z_eq, z_le, z_lt, z_nn_lt, z_nn_le, z_nn_ge, z_nn_gt, z_nn_eq, z_nn_eq2, z_bit, z_wow, z_wo, z_or, z_shl, z_if, z_ifn, fbit, if_true, if_false, Nat.zero_add, Nat.add_zero, not_false_iff, not_true, c1, d1, e1]
      · obtain ⟨m2, e2, f2, v2⟩ := fviews (h.th (v := nI 0)).1 w
        obtain ⟨q1, q2, q3⟩ := xret h f2
        refine ⟨m2, ?_, q1, q2, q3⟩
        unfold fX6_slotOf
        simp (disch := omega) only [z_nn2, z0, z1, z2, z3, z4, z5, z6, z7, z8, z9, z10, z11, z12, z13, z14, z15, z16, z17, z18, z19, z20, z23, z24, z28, z31, z32, z33, z45, z46, z47, z48, z52, z57, z60, z63, z65, z70, z80, z95, z100, z126, z127, z128, z200, z240, z255, z400, z480, z500, z840, z1023, z2000, z99999, z1073741824, z_nn, z_add, z_sub, z_mul, z_div, z_rem, z_cl, z_in, z_chk, z_chkp, z_bnd, z_bn2, z_wth, z_bxr, z_bxl, z_bx2r, z_bx2l, z_bz0, z_bz1, z_mx, z_mn, z_tb1, z_tb0, z_eq, z_le, z_lt, z_nn_lt, z_nn_le, z_nn_ge, z_nn_gt, z_nn_eq, z_nn_eq2, z_bit, z_wow, z_wo, z_or, z_shl, z_if, z_ifn, fbit, if_true, if_false, Nat.zero_add, Nat.add_zero, not_false_iff, not_true, c2, e2, d2, ftells q1.1 w v2 hi hv]
theorem op_segmentOf {x1 x2 x3 : Int32} {m : gM} (hi : HIq m) : Okq (fL_segmentOf x1 x2 x3 m) (fX6_segmentOf x1 x2 x3) := by
  obtain ⟨A, n, p, Sv, Sn, K, B, L, hg, hc, hr⟩ := hi
  have w := hg.1
  rcases ixZ x1 (n := 6) (by decide) with hb | ⟨i, hi, rfl⟩
  · obtain ⟨c1, c2⟩ := cSlot_bad hb
    refine ok_thr hr (k := nI 1) (nI_ne (by decide) (by decide)) ⟨m, ?_, hc, FCq.rf⟩ (fun m h => ?_) hg
    · unfold fL_segmentOf fX5_segmentOf
      simp (disch := omega) only [z_nn2, z0, z1, z2, z3, z4, z5, z6, z7, z8, z9, z10, z11, z12, z13, z14, z15, z16, z17, z18, z19, z20, z23, z24, z28, z31, z32, z33, z45, z46, z47, z48, z52, z57, z60, z63, z65, z70, z80, z95, z100, z126, z127, z128, z200, z240, z255, z400, z480, z500, z840, z1023, z2000, z99999, z1073741824, z_nn, z_add, z_sub, z_mul, z_div, z_rem, z_cl, z_in, z_chk, z_chkp, z_bnd, z_bn2, z_wth, z_bxr, z_bxl, z_bx2r, z_bx2l, z_bz0, z_bz1, z_mx, z_mn, z_tb1, z_tb0, z_eq, z_le, z_lt, z_nn_lt, z_nn_le, z_nn_ge, z_nn_gt, z_nn_eq, z_nn_eq2, z_bit, z_wow, z_wo, z_or, z_shl, z_if, z_ifn, fbit, if_true, if_false, Nat.zero_add, Nat.add_zero, not_false_iff, not_true, c1, z_bx2l]
    · unfold fX6_segmentOf jX6_segmentOf_19 fX6_fails
      simp (disch := omega) only [z_nn2, z0, z1, z2, z3, z4, z5, z6, z7, z8, z9, z10, z11, z12, z13, z14, z15, z16, z17, z18, z19, z20, z23, z24, z28, z31, z32, z33, z45, z46, z47, z48, z52, z57, z60, z63, z65, z70, z80, z95, z100, z126, z127, z128, z200, z240, z255, z400, z480, z500, z840, z1023, z2000, z99999, z1073741824, z_nn, z_add, z_sub, z_mul, z_div, z_rem, z_cl, z_in, z_chk, z_chkp, z_bnd, z_bn2, z_wth, z_bxr, z_bxl, z_bx2r, z_bx2l, z_bz0, z_bz1, z_mx, z_mn, z_tb1, z_tb0, z_eq, z_le, z_lt, z_nn_lt, z_nn_le, z_nn_ge, z_nn_gt, z_nn_eq, z_nn_eq2, z_bit, z_wow, z_wo, z_or, z_shl, z_if, z_ifn, fbit, if_true, if_false, Nat.zero_add, Nat.add_zero, not_false_iff, not_true, c2]
      exact xthr h
  · obtain ⟨c1, c2⟩ := cSlot_ok hi
    rcases ixZ x2 (n := 8) (by decide) with hb | ⟨k, hk, rfl⟩
    · obtain ⟨d1, d2⟩ := cSeg_bad hb
      refine ok_thr hr (k := nI 1) (nI_ne (by decide) (by decide)) ⟨m, ?_, hc, FCq.rf⟩ (fun m h => ?_) hg
      · unfold fL_segmentOf fX5_segmentOf
        simp (disch := omega) only [z_nn2, z0, z1, z2, z3, z4, z5, z6, z7, z8, z9, z10, z11, z12, z13, z14, z15, z16, z17, z18, z19, z20, z23, z24, z28, z31, z32, z33, z45, z46, z47, z48, z52, z57, z60, z63, z65, z70, z80, z95, z100, z126, z127, z128, z200, z240, z255, z400, z480, z500, z840, z1023, z2000, z99999, z1073741824, z_nn, z_add, z_sub, z_mul, z_div, z_rem, z_cl, z_in, z_chk, z_chkp, z_bnd, z_bn2, z_wth, z_bxr, z_bxl, z_bx2r, z_bx2l, z_bz0, z_bz1, z_mx, z_mn, z_tb1, z_tb0, z_eq, z_le, z_lt, z_nn_lt, z_nn_le, z_nn_ge, z_nn_gt, z_nn_eq, z_nn_eq2, z_bit, z_wow, z_wo, z_or, z_shl, z_if, z_ifn, fbit, if_true, if_false, Nat.zero_add, Nat.add_zero, not_false_iff, not_true, c1, d1, z_bx2l]
      · unfold fX6_segmentOf jX6_segmentOf_19 fX6_fails
        simp (disch := omega) only [z_nn2, z0, z1, z2, z3, z4, z5, z6, z7, z8, z9, z10, z11, z12, z13, z14, z15, z16, z17, z18, z19, z20, z23, z24, z28, z31, z32, z33, z45, z46, z47, z48, z52, z57, z60, z63, z65, z70, z80, z95, z100, z126, z127, z128, z200, z240, z255, z400, z480, z500, z840, z1023, z2000, z99999, z1073741824, z_nn, z_add, z_sub, z_mul, z_div, z_rem, z_cl, z_in, z_chk, z_chkp, z_bnd, z_bn2, z_wth, z_bxr, z_bxl, z_bx2r, z_bx2l, z_bz0, z_bz1, z_mx, z_mn, z_tb1, z_tb0, z_eq, z_le, z_lt, z_nn_lt, z_nn_le, z_nn_ge, z_nn_gt, z_nn_eq, z_nn_eq2, z_bit, z_wow, z_wo, z_or, z_shl, z_if, z_ifn, fbit, if_true, if_false, Nat.zero_add, Nat.add_zero, not_false_iff, not_true, c2, d2]
        exact xthr h
    · obtain ⟨s1, s2⟩ := cSeg_ok hk
      rcases ixZ x3 (n := 4) (by decide) with hb | ⟨v, hv, rfl⟩
      · obtain ⟨d1, d2⟩ := cWhat_bad (k := 4) (by decide) (by decide) hb
        refine ok_thr hr (k := nI 2) (nI_ne (by decide) (by decide)) ⟨m, ?_, hc, FCq.rf⟩ (fun m h => ?_) hg
        · unfold fL_segmentOf fX5_segmentOf
          simp (disch := omega) only [z_nn2, z0, z1, z2, z3, z4, z5, z6, z7, z8, z9, z10, z11, z12, z13, z14, z15, z16, z17, z18, z19, z20, z23, z24, z28, z31, z32, z33, z45, z46, z47, z48, z52, z57, z60, z63, z65, z70, z80, z95, z100, z126, z127, z128, z200, z240, z255, z400, z480, z500, z840, z1023, z2000, z99999, z1073741824, z_nn, z_add, z_sub, z_mul, z_div, z_rem, z_cl, z_in, z_chk, z_chkp, z_bnd, z_bn2, z_wth, z_bxr, z_bxl, z_bx2r, z_bx2l, z_bz0, z_bz1, z_mx, z_mn, z_tb1, z_tb0, z_eq, z_le, z_lt, z_nn_lt, z_nn_le, z_nn_ge, z_nn_gt, z_nn_eq, z_nn_eq2, z_bit, z_wow, z_wo, z_or, z_shl, z_if, z_ifn, fbit, if_true, if_false, Nat.zero_add, Nat.add_zero, not_false_iff, not_true, c1, s1, d1, z_bx2l]
          rfl
        · obtain ⟨m1, e1, f1, v1⟩ := fviews (h.th (v := nI 0)).1 w
          unfold fX6_segmentOf fX6_fails
          simp (disch := omega) only [z_nn2, z0, z1, z2, z3, z4, z5, z6, z7, z8, z9, z10, z11, z12, z13, z14, z15, z16, z17, z18, z19, z20, z23, z24, z28, z31, z32, z33, z45, z46, z47, z48, z52, z57, z60, z63, z65, z70, z80, z95, z100, z126, z127, z128, z200, z240, z255, z400, z480, z500, z840, z1023, z2000, z99999, z1073741824, z_nn, z_add, z_sub, z_mul, z_div, z_rem, z_cl, z_in, z_chk, z_chkp, z_bnd, z_bn2, z_wth, z_bxr, z_bxl, z_bx2r, z_bx2l, z_bz0, z_bz1, z_mx, z_mn, z_tb1, z_tb0, z_eq, z_le, z_lt, z_nn_lt, z_nn_le, z_nn_ge, z_nn_gt, z_nn_eq, z_nn_eq2, z_bit, z_wow, z_wo, z_or, z_shl, z_if, z_ifn, fbit, if_true, if_false, Nat.zero_add, Nat.add_zero, not_false_iff, not_true, c2, s2, e1, d2]
          exact xthv h f1
      · obtain ⟨d1, d2⟩ := cWhat_ok (k := 4) (by decide) hv
        obtain ⟨m1, e1, f1, g1⟩ := fsegProp hc.1 w hc.2.1 hi hk hv
        obtain ⟨b1, b2⟩ := hc.pe f1 g1
        refine ok_ret hr (r := sgp A i k v) ⟨m1, ?_, b1, b2⟩ (fun m h => ?_) hg
        · unfold fL_segmentOf fX5_segmentOf
          simp (disch := omega) only [z_nn2, z0, z1, z2, z3, z4, z5, z6, z7, z8, z9, z10, z11, z12, z13, z14, z15, z16, z17, z18, z19, z20, z23, z24, z28, z31, z32, z33, z45, z46, z47, z48, z52, z57, z60, z63, z65, z70, z80, z95, z100, z126, z127, z128, z200, z240, z255, z400, z480, z500, z840, z1023, z2000, z99999, z1073741824, z_nn, z_add, z_sub, z_mul, z_div, z_rem, z_cl, z_in, z_chk, z_chkp, z_bnd, z_bn2, z_wth, z_bxr, z_bxl, z_bx2r, z_bx2l, z_bz0, z_bz1, z_mx, z_mn, z_tb1, z_tb0, z_eq, z_le, z_lt, z_nn_lt, z_nn_le, z_nn_ge, z_nn_gt, z_nn_eq, z_nn_eq2, z_bit, z_wow, z_wo, z_or, z_shl, z_if, z_ifn, fbit, if_true, if_false, Nat.zero_add, Nat.add_zero, not_false_iff, not_true, c1, s1, d1, e1]
        · obtain ⟨m2, e2, f2, v2⟩ := fviews (h.th (v := nI 0)).1 w
          obtain ⟨q1, q2, q3⟩ := xret h f2
          refine ⟨m2, ?_, q1, q2, q3⟩
          unfold fX6_segmentOf
          simp (disch := omega) only [z_nn2, z0, z1, z2, z3, z4, z5, z6, z7, z8, z9, z10, z11, z12, z13, z14, z15, z16, z17, z18, z19, z20, z23, z24, z28, z31, z32, z33, z45, z46, z47, z48, z52, z57, z60, z63, z65, z70, z80, z95, z100, z126, z127, z128, z200, z240, z255, z400, z480, z500, z840, z1023, z2000, z99999, z1073741824, z_nn, z_add, z_sub, z_mul, z_div, z_rem, z_cl, z_in, z_chk, z_chkp, z_bnd, z_bn2, z_wth, z_bxr, z_bxl, z_bx2r, z_bx2l, z_bz0, z_bz1, z_mx, z_mn, z_tb1, z_tb0, z_eq, z_le, z_lt, z_nn_lt, z_nn_le, z_nn_ge, z_nn_gt, z_nn_eq, z_nn_eq2, z_bit, z_wow, z_wo, z_or, z_shl, z_if, z_ifn, fbit, if_true, if_false, Nat.zero_add, Nat.add_zero, not_false_iff, not_true, c2, s2, e2, d2, ftellsSeg q1.1 w v2 hi hk hv]
theorem op_count {x1 : Int32} {m : gM} (hi : HIq m) : Okq (fL_count x1 m) (fX6_count x1) := by
  obtain ⟨A, n, p, Sv, Sn, K, B, L, hg, hc, hr⟩ := hi
  have w := hg.1
  rcases ixZ x1 (n := 13) (by decide) with hb | ⟨v, hv, rfl⟩
  · obtain ⟨d1, d2⟩ := cWhat_bad (k := 13) (by decide) (by decide) hb
    refine ok_thr hr (k := nI 1) (nI_ne (by decide) (by decide)) ⟨m, ?_, hc, FCq.rf⟩ (fun m h => ?_) hg
    · unfold fL_count fX5_count
      simp (disch := omega) only [z_nn2, z0, z1, z2, z3, z4, z5, z6, z7, z8, z9, z10, z11, z12, z13, z14, z15, z16, z17, z18, z19, z20, z23, z24, z28, z31, z32, z33, z45, z46, z47, z48, z52, z57, z60, z63, z65, z70, z80, z95, z100, z126, z127, z128, z200, z240, z255, z400, z480, z500, z840, z1023, z2000, z99999, z1073741824, z_nn, z_add, z_sub, z_mul, z_div, z_rem, z_cl, z_in, z_chk, z_chkp, z_bnd, z_bn2, z_wth, z_bxr, z_bxl, z_bx2r, z_bx2l, z_bz0, z_bz1, z_mx, z_mn, z_tb1, z_tb0, z_eq, z_le, z_lt, z_nn_lt, z_nn_le, z_nn_ge, z_nn_gt, z_nn_eq, z_nn_eq2, z_bit, z_wow, z_wo, z_or, z_shl, z_if, z_ifn, fbit, if_true, if_false, Nat.zero_add, Nat.add_zero, not_false_iff, not_true, d1, z_bx2l]
    · obtain ⟨m1, e1, f1, v1⟩ := fviews (h.th (v := nI 0)).1 w
      unfold fX6_count fX6_fails
      simp (disch := omega) only [z_nn2, z0, z1, z2, z3, z4, z5, z6, z7, z8, z9, z10, z11, z12, z13, z14, z15, z16, z17, z18, z19, z20, z23, z24, z28, z31, z32, z33, z45, z46, z47, z48, z52, z57, z60, z63, z65, z70, z80, z95, z100, z126, z127, z128, z200, z240, z255, z400, z480, z500, z840, z1023, z2000, z99999, z1073741824, z_nn, z_add, z_sub, z_mul, z_div, z_rem, z_cl, z_in, z_chk, z_chkp, z_bnd, z_bn2, z_wth, z_bxr, z_bxl, z_bx2r, z_bx2l, z_bz0, z_bz1, z_mx, z_mn, z_tb1, z_tb0, z_eq, z_le, z_lt, z_nn_lt, z_nn_le, z_nn_ge, z_nn_gt, z_nn_eq, z_nn_eq2, z_bit, z_wow, z_wo, z_or, z_shl, z_if, z_ifn, fbit, if_true, if_false, Nat.zero_add, Nat.add_zero, not_false_iff, not_true, e1, d2]
      exact xthv h f1
  · obtain ⟨d1, d2⟩ := cWhat_ok (k := 13) (by decide) hv
    obtain ⟨v3, y1, y2⟩ := fnext w hg.2.1
    obtain ⟨m1, e1, f1, g1⟩ := fnumber hc.1 w hc.2.1 y1 hc.2.2.1.1 hv
    obtain ⟨b1, b2⟩ := hc.pe f1 g1
    refine ok_ret hr (r := np A n v3 v) ⟨m1, ?_, b1, b2⟩ (fun m h => ?_) hg
    · unfold fL_count fX5_count
      simp (disch := omega) only [z_nn2, z0, z1, z2, z3, z4, z5, z6, z7, z8, z9, z10, z11, z12, z13, z14, z15, z16, z17, z18, z19, z20, z23, z24, z28, z31, z32, z33, z45, z46, z47, z48, z52, z57, z60, z63, z65, z70, z80, z95, z100, z126, z127, z128, z200, z240, z255, z400, z480, z500, z840, z1023, z2000, z99999, z1073741824, z_nn, z_add, z_sub, z_mul, z_div, z_rem, z_cl, z_in, z_chk, z_chkp, z_bnd, z_bn2, z_wth, z_bxr, z_bxl, z_bx2r, z_bx2l, z_bz0, z_bz1, z_mx, z_mn, z_tb1, z_tb0, z_eq, z_le, z_lt, z_nn_lt, z_nn_le, z_nn_ge, z_nn_gt, z_nn_eq, z_nn_eq2, z_bit, z_wow, z_wo, z_or, z_shl, z_if, z_ifn, fbit, if_true, if_false, Nat.zero_add, Nat.add_zero, not_false_iff, not_true, d1, e1]
    · obtain ⟨m2, e2, f2, v2⟩ := fviews (h.th (v := nI 0)).1 w
      obtain ⟨q1, q2, q3⟩ := xret h f2
      refine ⟨m2, ?_, q1, q2, q3⟩
      unfold fX6_count
      simp (disch := omega) only [z_nn2, z0, z1, z2, z3, z4, z5, z6, z7, z8, z9, z10, z11, z12, z13, z14, z15, z16, z17, z18, z19, z20, z23, z24, z28, z31, z32, z33, z45, z46, z47, z48, z52, z57, z60, z63, z65, z70, z80, z95, z100, z126, z127, z128, z200, z240, z255, z400, z480, z500, z840, z1023, z2000, z99999, z1073741824, z_nn, z_add, z_sub, z_mul, z_div, z_rem, z_cl, z_in, z_chk, z_chkp, z_bnd, z_bn2, z_wth, z_bxr, z_bxl, z_bx2r, z_bx2l, z_bz0, z_bz1, z_mx, z_mn, z_tb1, z_tb0, z_eq, z_le, z_lt, z_nn_lt, z_nn_le, z_nn_ge, z_nn_gt, z_nn_eq, z_nn_eq2, z_bit, z_wow, z_wo, z_or, z_shl, z_if, z_ifn, fbit, if_true, if_false, Nat.zero_add, Nat.add_zero, not_false_iff, not_true, e2, d2, fnumber6 q1.1 w v2 y2 q1.2.1.1 hv]
theorem op_setting {x1 : Int32} {m : gM} (hi : HIq m) : Okq (fL_setting x1 m) (fX6_setting x1) := by
  obtain ⟨A, n, p, Sv, Sn, K, B, L, hg, hc, hr⟩ := hi
  rcases ixZ x1 (n := 4) (by decide) with hb | ⟨i, hi, rfl⟩
  · obtain ⟨c1, c2⟩ := cSet_bad hb
    refine ok_thr hr (k := nI 1) (nI_ne (by decide) (by decide)) ⟨m, ?_, hc, FCq.rf⟩ (fun m h => ?_) hg
    · unfold fL_setting fX5_setting
      simp (disch := omega) only [z_nn2, z0, z1, z2, z3, z4, z5, z6, z7, z8, z9, z10, z11, z12, z13, z14, z15, z16, z17, z18, z19, z20, z23, z24, z28, z31, z32, z33, z45, z46, z47, z48, z52, z57, z60, z63, z65, z70, z80, z95, z100, z126, z127, z128, z200, z240, z255, z400, z480, z500, z840, z1023, z2000, z99999, z1073741824, z_nn, z_add, z_sub, z_mul, z_div, z_rem, z_cl, z_in, z_chk, z_chkp, z_bnd, z_bn2, z_wth, z_bxr, z_bxl, z_bx2r, z_bx2l, z_bz0, z_bz1, z_mx, z_mn, z_tb1, z_tb0, z_eq, z_le, z_lt, z_nn_lt, z_nn_le, z_nn_ge, z_nn_gt, z_nn_eq, z_nn_eq2, z_bit, z_wow, z_wo, z_or, z_shl, z_if, z_ifn, fbit, if_true, if_false, Nat.zero_add, Nat.add_zero, not_false_iff, not_true, c1, z_bxl]
    · unfold fX6_setting fX6_fails
      simp (disch := omega) only [z_nn2, z0, z1, z2, z3, z4, z5, z6, z7, z8, z9, z10, z11, z12, z13, z14, z15, z16, z17, z18, z19, z20, z23, z24, z28, z31, z32, z33, z45, z46, z47, z48, z52, z57, z60, z63, z65, z70, z80, z95, z100, z126, z127, z128, z200, z240, z255, z400, z480, z500, z840, z1023, z2000, z99999, z1073741824, z_nn, z_add, z_sub, z_mul, z_div, z_rem, z_cl, z_in, z_chk, z_chkp, z_bnd, z_bn2, z_wth, z_bxr, z_bxl, z_bx2r, z_bx2l, z_bz0, z_bz1, z_mx, z_mn, z_tb1, z_tb0, z_eq, z_le, z_lt, z_nn_lt, z_nn_le, z_nn_ge, z_nn_gt, z_nn_eq, z_nn_eq2, z_bit, z_wow, z_wo, z_or, z_shl, z_if, z_ifn, fbit, if_true, if_false, Nat.zero_add, Nat.add_zero, not_false_iff, not_true, c2]
      exact xthr h
  · obtain ⟨c1, c2⟩ := cSet_ok hi
    refine ok_ret hr (r := nI (A i)) ⟨m, ?_, hc, FCq.rf⟩ (fun m h => ?_) hg
    · unfold fL_setting fX5_setting
      simp (disch := omega) only [z_nn2, z0, z1, z2, z3, z4, z5, z6, z7, z8, z9, z10, z11, z12, z13, z14, z15, z16, z17, z18, z19, z20, z23, z24, z28, z31, z32, z33, z45, z46, z47, z48, z52, z57, z60, z63, z65, z70, z80, z95, z100, z126, z127, z128, z200, z240, z255, z400, z480, z500, z840, z1023, z2000, z99999, z1073741824, z_nn, z_add, z_sub, z_mul, z_div, z_rem, z_cl, z_in, z_chk, z_chkp, z_bnd, z_bn2, z_wth, z_bxr, z_bxl, z_bx2r, z_bx2l, z_bz0, z_bz1, z_mx, z_mn, z_tb1, z_tb0, z_eq, z_le, z_lt, z_nn_lt, z_nn_le, z_nn_ge, z_nn_gt, z_nn_eq, z_nn_eq2, z_bit, z_wow, z_wo, z_or, z_shl, z_if, z_ifn, fbit, if_true, if_false, Nat.zero_add, Nat.add_zero, not_false_iff, not_true, c1, hc.1.set]
    · refine ⟨si m 21 0 0 (nI 0), ?_, h.th, FRe.si (by decide), by rw [gi_si, if_pos ⟨rfl, rfl, rfl⟩]⟩
      have e := (h.th (v := nI 0)).1 i (by omega)
      unfold fX6_setting
      simp (disch := omega) only [z_nn2, z0, z1, z2, z3, z4, z5, z6, z7, z8, z9, z10, z11, z12, z13, z14, z15, z16, z17, z18, z19, z20, z23, z24, z28, z31, z32, z33, z45, z46, z47, z48, z52, z57, z60, z63, z65, z70, z80, z95, z100, z126, z127, z128, z200, z240, z255, z400, z480, z500, z840, z1023, z2000, z99999, z1073741824, z_nn, z_add, z_sub, z_mul, z_div, z_rem, z_cl, z_in, z_chk, z_chkp, z_bnd, z_bn2, z_wth, z_bxr, z_bxl, z_bx2r, z_bx2l, z_bz0, z_bz1, z_mx, z_mn, z_tb1, z_tb0, z_eq, z_le, z_lt, z_nn_lt, z_nn_le, z_nn_ge, z_nn_gt, z_nn_eq, z_nn_eq2, z_bit, z_wow, z_wo, z_or, z_shl, z_if, z_ifn, fbit, if_true, if_false, Nat.zero_add, Nat.add_zero, not_false_iff, not_true, c2, e]
theorem op_couldBe {x1 x2 : Int32} {m : gM} (hi : HIq m) : Okq (fL_couldBe x1 x2 m) (fX6_couldBe x1 x2) := by
  obtain ⟨A, n, p, Sv, Sn, K, B, L, hg, hc, hr⟩ := hi
  have w := hg.1
  rcases ixZ x1 (n := 6) (by decide) with hb | ⟨i, hi, rfl⟩
  · obtain ⟨c1, c2⟩ := cSlot_bad hb
    refine ok_thr hr (k := nI 1) (nI_ne (by decide) (by decide)) ⟨m, ?_, hc, FCq.rf⟩ (fun m h => ?_) hg
    · unfold fL_couldBe fX5_couldBe
      simp (disch := omega) only [z_nn2, z0, z1, z2, z3, z4, z5, z6, z7, z8, z9, z10, z11, z12, z13, z14, z15, z16, z17, z18, z19, z20, z23, z24, z28, z31, z32, z33, z45, z46, z47, z48, z52, z57, z60, z63, z65, z70, z80, z95, z100, z126, z127, z128, z200, z240, z255, z400, z480, z500, z840, z1023, z2000, z99999, z1073741824, z_nn, z_add, z_sub, z_mul, z_div, z_rem, z_cl, z_in, z_chk, z_chkp, z_bnd, z_bn2, z_wth, z_bxr, z_bxl, z_bx2r, z_bx2l, z_bz0, z_bz1, z_mx, z_mn, z_tb1, z_tb0, z_eq, z_le, z_lt, z_nn_lt, z_nn_le, z_nn_ge, z_nn_gt, z_nn_eq, z_nn_eq2, z_bit, z_wow, z_wo, z_or, z_shl, z_if, z_ifn, fbit, if_true, if_false, Nat.zero_add, Nat.add_zero, not_false_iff, not_true, c1, z_bxl]
    · unfold fX6_couldBe fX6_fails
      simp (disch := omega) only [z_nn2, z0, z1, z2, z3, z4, z5, z6, z7, z8, z9, z10, z11, z12, z13, z14, z15, z16, z17, z18, z19, z20, z23, z24, z28, z31, z32, z33, z45, z46, z47, z48, z52, z57, z60, z63, z65, z70, z80, z95, z100, z126, z127, z128, z200, z240, z255, z400, z480, z500, z840, z1023, z2000, z99999, z1073741824, z_nn, z_add, z_sub, z_mul, z_div, z_rem, z_cl, z_in, z_chk, z_chkp, z_bnd, z_bn2, z_wth, z_bxr, z_bxl, z_bx2r, z_bx2l, z_bz0, z_bz1, z_mx, z_mn, z_tb1, z_tb0, z_eq, z_le, z_lt, z_nn_lt, z_nn_le, z_nn_ge, z_nn_gt, z_nn_eq, z_nn_eq2, z_bit, z_wow, z_wo, z_or, z_shl, z_if, z_ifn, fbit, if_true, if_false, Nat.zero_add, Nat.add_zero, not_false_iff, not_true, c2]
      exact xthr h
  · obtain ⟨c1, c2⟩ := cSlot_ok hi
    rcases ixZ x2 (n := 2) (by decide) with hb | ⟨v, hv, rfl⟩
    · obtain ⟨d1, d2⟩ := cWhat_bad (k := 2) (by decide) (by decide) hb
      refine ok_thr hr (k := nI 2) (nI_ne (by decide) (by decide)) ⟨m, ?_, hc, FCq.rf⟩ (fun m h => ?_) hg
      · unfold fL_couldBe fX5_couldBe
        simp (disch := omega) only [z_nn2, z0, z1, z2, z3, z4, z5, z6, z7, z8, z9, z10, z11, z12, z13, z14, z15, z16, z17, z18, z19, z20, z23, z24, z28, z31, z32, z33, z45, z46, z47, z48, z52, z57, z60, z63, z65, z70, z80, z95, z100, z126, z127, z128, z200, z240, z255, z400, z480, z500, z840, z1023, z2000, z99999, z1073741824, z_nn, z_add, z_sub, z_mul, z_div, z_rem, z_cl, z_in, z_chk, z_chkp, z_bnd, z_bn2, z_wth, z_bxr, z_bxl, z_bx2r, z_bx2l, z_bz0, z_bz1, z_mx, z_mn, z_tb1, z_tb0, z_eq, z_le, z_lt, z_nn_lt, z_nn_le, z_nn_ge, z_nn_gt, z_nn_eq, z_nn_eq2, z_bit, z_wow, z_wo, z_or, z_shl, z_if, z_ifn, fbit, if_true, if_false, Nat.zero_add, Nat.add_zero, not_false_iff, not_true, c1, d1, z_bxl]
        rfl
      · unfold fX6_couldBe fX6_fails
        simp (disch := omega) only [z_nn2, z0, z1, z2, z3, z4, z5, z6, z7, z8, z9, z10, z11, z12, z13, z14, z15, z16, z17, z18, z19, z20, z23, z24, z28, z31, z32, z33, z45, z46, z47, z48, z52, z57, z60, z63, z65, z70, z80, z95, z100, z126, z127, z128, z200, z240, z255, z400, z480, z500, z840, z1023, z2000, z99999, z1073741824, z_nn, z_add, z_sub, z_mul, z_div, z_rem, z_cl, z_in, z_chk, z_chkp, z_bnd, z_bn2, z_wth, z_bxr, z_bxl, z_bx2r, z_bx2l, z_bz0, z_bz1, z_mx, z_mn, z_tb1, z_tb0, z_eq, z_le, z_lt, z_nn_lt, z_nn_le, z_nn_ge, z_nn_gt, z_nn_eq, z_nn_eq2, z_bit, z_wow, z_wo, z_or, z_shl, z_if, z_ifn, fbit, if_true, if_false, Nat.zero_add, Nat.add_zero, not_false_iff, not_true, c2, d2]
        exact xthr h
    · obtain ⟨d1, d2⟩ := cWhat_ok (k := 2) (by decide) hv
      refine ok_ret hr (r := nI (if v = 0 then alc A i 18 else fst1 (alq A i) 18 0)) ⟨m, ?_, hc, FCq.rf⟩ (fun m h => ?_) hg
      · unfold fL_couldBe fX5_couldBe
        simp (disch := omega) only [z_nn2, z0, z1, z2, z3, z4, z5, z6, z7, z8, z9, z10, z11, z12, z13, z14, z15, z16, z17, z18, z19, z20, z23, z24, z28, z31, z32, z33, z45, z46, z47, z48, z52, z57, z60, z63, z65, z70, z80, z95, z100, z126, z127, z128, z200, z240, z255, z400, z480, z500, z840, z1023, z2000, z99999, z1073741824, z_nn, z_add, z_sub, z_mul, z_div, z_rem, z_cl, z_in, z_chk, z_chkp, z_bnd, z_bn2, z_wth, z_bxr, z_bxl, z_bx2r, z_bx2l, z_bz0, z_bz1, z_mx, z_mn, z_tb1, z_tb0, z_eq, z_le, z_lt, z_nn_lt, z_nn_le, z_nn_ge, z_nn_gt, z_nn_eq, z_nn_eq2, z_bit, z_wow, z_wo, z_or, z_shl, z_if, z_ifn, fbit, if_true, if_false, Nat.zero_add, Nat.add_zero, not_false_iff, not_true, c1, d1, falike hc.1 w hi, flowest hc.1 w hi]
        by_cases c : v = 0
        · simp only [if_pos c, z_bxr]
        · simp only [if_neg c, z_bxr]
      · refine ⟨si m 21 0 0 (nI 0), ?_, h.th, FRe.si (by decide), by rw [gi_si, if_pos ⟨rfl, rfl, rfl⟩]⟩
        unfold fX6_couldBe
        simp (disch := omega) only [z_nn2, z0, z1, z2, z3, z4, z5, z6, z7, z8, z9, z10, z11, z12, z13, z14, z15, z16, z17, z18, z19, z20, z23, z24, z28, z31, z32, z33, z45, z46, z47, z48, z52, z57, z60, z63, z65, z70, z80, z95, z100, z126, z127, z128, z200, z240, z255, z400, z480, z500, z840, z1023, z2000, z99999, z1073741824, z_nn, z_add, z_sub, z_mul, z_div, z_rem, z_cl, z_in, z_chk, z_chkp, z_bnd, z_bn2, z_wth, z_bxr, z_bxl, z_bx2r, z_bx2l, z_bz0, z_bz1, z_mx, z_mn, z_tb1, z_tb0, z_eq, z_le, z_lt, z_nn_lt, z_nn_le, z_nn_ge, z_nn_gt, z_nn_eq, z_nn_eq2, z_bit, z_wow, z_wo, z_or, z_shl, z_if, z_ifn, fbit, if_true, if_false, Nat.zero_add, Nat.add_zero, not_false_iff, not_true, c2, d2, fcould (h.th (v := nI 0)).1 w hi hv]
theorem op_safest {x1 : Int32} {m : gM} (hi : HIq m) : Okq (fL_safest x1 m) (fX6_safest x1) := by
  obtain ⟨A, n, p, Sv, Sn, K, B, L, hg, hc, hr⟩ := hi
  have w := hg.1
  rcases ixZ x1 (n := 6) (by decide) with hb | ⟨i, hi, rfl⟩
  · obtain ⟨c1, c2⟩ := cSlot_bad hb
    refine ok_thr hr (k := nI 1) (nI_ne (by decide) (by decide)) ⟨m, ?_, hc, FCq.rf⟩ (fun m h => ?_) hg
    · unfold fL_safest fX5_safest
      simp (disch := omega) only [z_nn2, z0, z1, z2, z3, z4, z5, z6, z7, z8, z9, z10, z11, z12, z13, z14, z15, z16, z17, z18, z19, z20, z23, z24, z28, z31, z32, z33, z45, z46, z47, z48, z52, z57, z60, z63, z65, z70, z80, z95, z100, z126, z127, z128, z200, z240, z255, z400, z480, z500, z840, z1023, z2000, z99999, z1073741824, z_nn, z_add, z_sub, z_mul, z_div, z_rem, z_cl, z_in, z_chk, z_chkp, z_bnd, z_bn2, z_wth, z_bxr, z_bxl, z_bx2r, z_bx2l, z_bz0, z_bz1, z_mx, z_mn, z_tb1, z_tb0, z_eq, z_le, z_lt, z_nn_lt, z_nn_le, z_nn_ge, z_nn_gt, z_nn_eq, z_nn_eq2, z_bit, z_wow, z_wo, z_or, z_shl, z_if, z_ifn, fbit, if_true, if_false, Nat.zero_add, Nat.add_zero, not_false_iff, not_true, c1, z_bxl]
    · unfold fX6_safest fX6_fails
      simp (disch := omega) only [z_nn2, z0, z1, z2, z3, z4, z5, z6, z7, z8, z9, z10, z11, z12, z13, z14, z15, z16, z17, z18, z19, z20, z23, z24, z28, z31, z32, z33, z45, z46, z47, z48, z52, z57, z60, z63, z65, z70, z80, z95, z100, z126, z127, z128, z200, z240, z255, z400, z480, z500, z840, z1023, z2000, z99999, z1073741824, z_nn, z_add, z_sub, z_mul, z_div, z_rem, z_cl, z_in, z_chk, z_chkp, z_bnd, z_bn2, z_wth, z_bxr, z_bxl, z_bx2r, z_bx2l, z_bz0, z_bz1, z_mx, z_mn, z_tb1, z_tb0, z_eq, z_le, z_lt, z_nn_lt, z_nn_le, z_nn_ge, z_nn_gt, z_nn_eq, z_nn_eq2, z_bit, z_wow, z_wo, z_or, z_shl, z_if, z_ifn, fbit, if_true, if_false, Nat.zero_add, Nat.add_zero, not_false_iff, not_true, c2]
      exact xthr h
  · obtain ⟨c1, c2⟩ := cSlot_ok hi
    refine ok_ret hr (r := nI (sfs (flq A i) 18).1) ⟨m, ?_, hc, FCq.rf⟩ (fun m h => ?_) hg
    · unfold fL_safest fX5_safest
      simp (disch := omega) only [z_nn2, z0, z1, z2, z3, z4, z5, z6, z7, z8, z9, z10, z11, z12, z13, z14, z15, z16, z17, z18, z19, z20, z23, z24, z28, z31, z32, z33, z45, z46, z47, z48, z52, z57, z60, z63, z65, z70, z80, z95, z100, z126, z127, z128, z200, z240, z255, z400, z480, z500, z840, z1023, z2000, z99999, z1073741824, z_nn, z_add, z_sub, z_mul, z_div, z_rem, z_cl, z_in, z_chk, z_chkp, z_bnd, z_bn2, z_wth, z_bxr, z_bxl, z_bx2r, z_bx2l, z_bz0, z_bz1, z_mx, z_mn, z_tb1, z_tb0, z_eq, z_le, z_lt, z_nn_lt, z_nn_le, z_nn_ge, z_nn_gt, z_nn_eq, z_nn_eq2, z_bit, z_wow, z_wo, z_or, z_shl, z_if, z_ifn, fbit, if_true, if_false, Nat.zero_add, Nat.add_zero, not_false_iff, not_true, c1, fleast hc.1 w hi]
    · refine ⟨si m 21 0 0 (nI 0), ?_, h.th, FRe.si (by decide), by rw [gi_si, if_pos ⟨rfl, rfl, rfl⟩]⟩
      unfold fX6_safest
      simp (disch := omega) only [z_nn2, z0, z1, z2, z3, z4, z5, z6, z7, z8, z9, z10, z11, z12, z13, z14, z15, z16, z17, z18, z19, z20, z23, z24, z28, z31, z32, z33, z45, z46, z47, z48, z52, z57, z60, z63, z65, z70, z80, z95, z100, z126, z127, z128, z200, z240, z255, z400, z480, z500, z840, z1023, z2000, z99999, z1073741824, z_nn, z_add, z_sub, z_mul, z_div, z_rem, z_cl, z_in, z_chk, z_chkp, z_bnd, z_bn2, z_wth, z_bxr, z_bxl, z_bx2r, z_bx2l, z_bz0, z_bz1, z_mx, z_mn, z_tb1, z_tb0, z_eq, z_le, z_lt, z_nn_lt, z_nn_le, z_nn_ge, z_nn_gt, z_nn_eq, z_nn_eq2, z_bit, z_wow, z_wo, z_or, z_shl, z_if, z_ifn, fbit, if_true, if_false, Nat.zero_add, Nat.add_zero, not_false_iff, not_true, c2, fsafest6 (h.th (v := nI 0)).1 w hi]
/-- the reference's rows behind a try of another time -/
theorem IR.tm {A : Nat → Nat} {n : Nat} {Sv Sn : Nat → Nat → Nat} {K B : Nat → Nat} {L : Nat} {m m1 : gM} (h : IR A n Sv Sn K B L m) (hr : RMq A m1) (hf : Frq (fun c _ => PVq c 0 || c == 22) m m1) : IR A n Sv Sn K B L m1 ∧ FRe m m1 ∧ gi m1 21 0 0 = gi m 21 0 0 := by
  obtain ⟨h1, h2, h3, h4⟩ := h
  exact ⟨⟨hr, h2.eqv (hf.1 _ _ _ rfl) (fun i => hf.1 _ _ _ rfl), h3.eqv (fun i => hf.1 _ _ _ rfl) (fun i => hf.1 _ _ _ rfl), h4.eqv (hf.1 _ _ _ rfl) (fun i => hf.1 _ _ _ rfl)⟩, hf.fre (fun c t hc => by unfold PVq; simp; omega), hf.1 _ _ _ rfl⟩
theorem op_ifTimed {x1 x2 : Int32} {m : gM} (hi : HIq m) : Okq (fL_ifTimed x1 x2 m) (fX6_ifTimed x1 x2) := by
  obtain ⟨A, n, p, Sv, Sn, K, B, L, hg, hc, hr⟩ := hi
  have w := hg.1
  rcases ixZ x1 (n := 6) (by decide) with hb | ⟨i, hi, rfl⟩
  · obtain ⟨c1, c2⟩ := cSlot_bad hb
    refine ok_thr hr (k := nI 1) (nI_ne (by decide) (by decide)) ⟨m, ?_, hc, FCq.rf⟩ (fun m h => ?_) hg
    · unfold fL_ifTimed fX5_ifTimed
      simp (disch := omega) only [z_nn2, z0, z1, z2, z3, z4, z5, z6, z7, z8, z9, z10, z11, z12, z13, z14, z15, z16, z17, z18, z19, z20, z23, z24, z28, z31, z32, z33, z45, z46, z47, z48, z52, z57, z60, z63, z65, z70, z80, z95, z100, z126, z127, z128, z200, z240, z255, z400, z480, z500, z840, z1023, z2000, z99999, z1073741824, z_nn, z_add, z_sub, z_mul, z_div, z_rem, z_cl, z_in, z_chk, z_chkp, z_bnd, z_bn2, z_wth, z_bxr, z_bxl, z_bx2r, z_bx2l, z_bz0, z_bz1, z_mx, z_mn, z_tb1, z_tb0, z_eq, z_le, z_lt, z_nn_lt, z_nn_le, z_nn_ge, z_nn_gt, z_nn_eq, z_nn_eq2, z_bit, z_wow, z_wo, z_or, z_shl, z_if, z_ifn, fbit, if_true, if_false, Nat.zero_add, Nat.add_zero, not_false_iff, not_true, c1, z_bx2l]
    · unfold fX6_ifTimed fX6_fails
      simp (disch := omega) only [z_nn2, z0, z1, z2, z3, z4, z5, z6, z7, z8, z9, z10, z11, z12, z13, z14, z15, z16, z17, z18, z19, z20, z23, z24, z28, z31, z32, z33, z45, z46, z47, z48, z52, z57, z60, z63, z65, z70, z80, z95, z100, z126, z127, z128, z200, z240, z255, z400, z480, z500, z840, z1023, z2000, z99999, z1073741824, z_nn, z_add, z_sub, z_mul, z_div, z_rem, z_cl, z_in, z_chk, z_chkp, z_bnd, z_bn2, z_wth, z_bxr, z_bxl, z_bx2r, z_bx2l, z_bz0, z_bz1, z_mx, z_mn, z_tb1, z_tb0, z_eq, z_le, z_lt, z_nn_lt, z_nn_le, z_nn_ge, z_nn_gt, z_nn_eq, z_nn_eq2, z_bit, z_wow, z_wo, z_or, z_shl, z_if, z_ifn, fbit, if_true, if_false, Nat.zero_add, Nat.add_zero, not_false_iff, not_true, c2]
      exact xthr h
  · obtain ⟨c1, c2⟩ := cSlot_ok hi
    rcases ixZ x2 (n := 21) (by decide) with hb | ⟨v, hv, rfl⟩
    · obtain ⟨d1, d2⟩ := cTime_bad hb
      refine ok_thr hr (k := nI 2) (nI_ne (by decide) (by decide)) ⟨m, ?_, hc, FCq.rf⟩ (fun m h => ?_) hg
      · unfold fL_ifTimed fX5_ifTimed
        simp (disch := omega) only [z_nn2, z0, z1, z2, z3, z4, z5, z6, z7, z8, z9, z10, z11, z12, z13, z14, z15, z16, z17, z18, z19, z20, z23, z24, z28, z31, z32, z33, z45, z46, z47, z48, z52, z57, z60, z63, z65, z70, z80, z95, z100, z126, z127, z128, z200, z240, z255, z400, z480, z500, z840, z1023, z2000, z99999, z1073741824, z_nn, z_add, z_sub, z_mul, z_div, z_rem, z_cl, z_in, z_chk, z_chkp, z_bnd, z_bn2, z_wth, z_bxr, z_bxl, z_bx2r, z_bx2l, z_bz0, z_bz1, z_mx, z_mn, z_tb1, z_tb0, z_eq, z_le, z_lt, z_nn_lt, z_nn_le, z_nn_ge, z_nn_gt, z_nn_eq, z_nn_eq2, z_bit, z_wow, z_wo, z_or, z_shl, z_if, z_ifn, fbit, if_true, if_false, Nat.zero_add, Nat.add_zero, not_false_iff, not_true, c1, d1, z_bx2l]
        rfl
      · unfold fX6_ifTimed fX6_fails
        simp (disch := omega) only [z_nn2, z0, z1, z2, z3, z4, z5, z6, z7, z8, z9, z10, z11, z12, z13, z14, z15, z16, z17, z18, z19, z20, z23, z24, z28, z31, z32, z33, z45, z46, z47, z48, z52, z57, z60, z63, z65, z70, z80, z95, z100, z126, z127, z128, z200, z240, z255, z400, z480, z500, z840, z1023, z2000, z99999, z1073741824, z_nn, z_add, z_sub, z_mul, z_div, z_rem, z_cl, z_in, z_chk, z_chkp, z_bnd, z_bn2, z_wth, z_bxr, z_bxl, z_bx2r, z_bx2l, z_bz0, z_bz1, z_mx, z_mn, z_tb1, z_tb0, z_eq, z_le, z_lt, z_nn_lt, z_nn_le, z_nn_ge, z_nn_gt, z_nn_eq, z_nn_eq2, z_bit, z_wow, z_wo, z_or, z_shl, z_if, z_ifn, fbit, if_true, if_false, Nat.zero_add, Nat.add_zero, not_false_iff, not_true, c2, d2]
        exact xthr h
    · obtain ⟨d1, d2⟩ := cTime_ok hv
      obtain ⟨m1, e1, f1⟩ := ftimed hc.1 w hi (show v ≤ 20 by omega)
      obtain ⟨b1, b2⟩ := hc.p1 f1
      refine ok_ret hr (r := nI (mn2 (upq A (10 + 4 * i) v) i)) ⟨m1, ?_, b1, b2⟩ (fun m h => ?_) hg
      · unfold fL_ifTimed fX5_ifTimed
        simp (disch := omega) only [z_nn2, z0, z1, z2, z3, z4, z5, z6, z7, z8, z9, z10, z11, z12, z13, z14, z15, z16, z17, z18, z19, z20, z23, z24, z28, z31, z32, z33, z45, z46, z47, z48, z52, z57, z60, z63, z65, z70, z80, z95, z100, z126, z127, z128, z200, z240, z255, z400, z480, z500, z840, z1023, z2000, z99999, z1073741824, z_nn, z_add, z_sub, z_mul, z_div, z_rem, z_cl, z_in, z_chk, z_chkp, z_bnd, z_bn2, z_wth, z_bxr, z_bxl, z_bx2r, z_bx2l, z_bz0, z_bz1, z_mx, z_mn, z_tb1, z_tb0, z_eq, z_le, z_lt, z_nn_lt, z_nn_le, z_nn_ge, z_nn_gt, z_nn_eq, z_nn_eq2, z_bit, z_wow, z_wo, z_or, z_shl, z_if, z_ifn, fbit, if_true, if_false, Nat.zero_add, Nat.add_zero, not_false_iff, not_true, c1, d1, e1]
      · obtain ⟨m2, e2, r2, f2⟩ := ftimed6 (h.th (v := nI 0)).1 w hi (show v ≤ 20 by omega)
        obtain ⟨q1, q2, q3⟩ := (h.th (v := nI 0)).tm r2 f2
        refine ⟨m2, ?_, q1, (FRe.si (by decide)).tr q2, q3.trans (by rw [gi_si, if_pos ⟨rfl, rfl, rfl⟩])⟩
        unfold fX6_ifTimed
        simp (disch := omega) only [z_nn2, z0, z1, z2, z3, z4, z5, z6, z7, z8, z9, z10, z11, z12, z13, z14, z15, z16, z17, z18, z19, z20, z23, z24, z28, z31, z32, z33, z45, z46, z47, z48, z52, z57, z60, z63, z65, z70, z80, z95, z100, z126, z127, z128, z200, z240, z255, z400, z480, z500, z840, z1023, z2000, z99999, z1073741824, z_nn, z_add, z_sub, z_mul, z_div, z_rem, z_cl, z_in, z_chk, z_chkp, z_bnd, z_bn2, z_wth, z_bxr, z_bxl, z_bx2r, z_bx2l, z_bz0, z_bz1, z_mx, z_mn, z_tb1, z_tb0, z_eq, z_le, z_lt, z_nn_lt, z_nn_le, z_nn_ge, z_nn_gt, z_nn_eq, z_nn_eq2, z_bit, z_wow, z_wo, z_or, z_shl, z_if, z_ifn, fbit, if_true, if_false, Nat.zero_add, Nat.add_zero, not_false_iff, not_true, c2, d2, e2]
def bV (A : Nat → Nat) (ticks i : Nat) : Int32 := if wsl A 6 = 0 then nn else nI (bT A ticks i)
theorem ftimeIf {A : Nat → Nat} {m : gM} (h : CS 0 A m) (w : WF A) {ticks i : Nat} (h6 : 6 ≤ ticks) (h60 : ticks ≤ 60) (hi : i < 6) : ∃ m1, fX5_timeIfBalanced (nI ticks) (nI i) m = some (bV A ticks i, m1) ∧ Frq PBq m m1 := by
  obtain ⟨m1, e1, f1, g1⟩ := fspread h w h6 h60
  have hb := bS_le (A := A) h6
  refine ⟨m1, ?_, f1⟩
  unfold fX5_timeIfBalanced bV
  simp (disch := omega) only [z_nn2, z0, z1, z2, z3, z4, z5, z6, z7, z8, z9, z10, z11, z12, z13, z14, z15, z16, z17, z18, z19, z20, z23, z24, z28, z31, z32, z33, z45, z46, z47, z48, z52, z57, z60, z63, z65, z70, z80, z95, z100, z126, z127, z128, z200, z240, z255, z400, z480, z500, z840, z1023, z2000, z99999, z1073741824, z_nn, z_add, z_sub, z_mul, z_div, z_rem, z_cl, z_in, z_chk, z_chkp, z_bnd, z_bn2, z_wth, z_bxr, z_bxl, z_bx2r, z_bx2l, z_bz0, z_bz1, z_mx, z_mn, z_tb1, z_tb0, z_eq, z_le, z_lt, z_nn_lt, z_nn_le, z_nn_ge, z_nn_gt, z_nn_eq, z_nn_eq2, z_bit, z_wow, z_wo, z_or, z_shl, z_if, z_ifn, fbit, if_true, if_false, Nat.zero_add, Nat.add_zero, not_false_iff, not_true, e1, g1, bS_0]
  by_cases c : wsl A 6 = 0
  · rw [if_pos c, if_pos c]
  · rw [if_neg c, if_neg c]
theorem fbal6 {A : Nat → Nat} {m : gM} (h : RMq A m) (w : WF A) {ticks i : Nat} (h6 : 6 ≤ ticks) (h60 : ticks ≤ 60) (hi : i < 6) : ∃ m1, fX6_balanced (nI ticks) (nI i) m = some (bV A ticks i, m1) ∧ Frq P33 m m1 := by
  have hw := wsl_le A 6
  unfold fX6_balanced bV
  simp (disch := omega) only [z_nn2, z0, z1, z2, z3, z4, z5, z6, z7, z8, z9, z10, z11, z12, z13, z14, z15, z16, z17, z18, z19, z20, z23, z24, z28, z31, z32, z33, z45, z46, z47, z48, z52, z57, z60, z63, z65, z70, z80, z95, z100, z126, z127, z128, z200, z240, z255, z400, z480, z500, z840, z1023, z2000, z99999, z1073741824, z_nn, z_add, z_sub, z_mul, z_div, z_rem, z_cl, z_in, z_chk, z_chkp, z_bnd, z_bn2, z_wth, z_bxr, z_bxl, z_bx2r, z_bx2l, z_bz0, z_bz1, z_mx, z_mn, z_tb1, z_tb0, z_eq, z_le, z_lt, z_nn_lt, z_nn_le, z_nn_ge, z_nn_gt, z_nn_eq, z_nn_eq2, z_bit, z_wow, z_wo, z_or, z_shl, z_if, z_ifn, fbit, if_true, if_false, Nat.zero_add, Nat.add_zero, not_false_iff, not_true, fworkingSlots6 h w]
  by_cases c : wsl A 6 = 0
  · rw [if_pos c, if_pos c]
    exact ⟨m, rfl, Frq.rf⟩
  · obtain ⟨m1, e1, f1, g1⟩ := fgives h w h6 h60
    rw [if_neg c, if_neg c, e1]
    simp (disch := omega) only [z_nn2, z0, z1, z2, z3, z4, z5, z6, z7, z8, z9, z10, z11, z12, z13, z14, z15, z16, z17, z18, z19, z20, z23, z24, z28, z31, z32, z33, z45, z46, z47, z48, z52, z57, z60, z63, z65, z70, z80, z95, z100, z126, z127, z128, z200, z240, z255, z400, z480, z500, z840, z1023, z2000, z99999, z1073741824, z_nn, z_add, z_sub, z_mul, z_div, z_rem, z_cl, z_in, z_chk, z_chkp, z_bnd, z_bn2, z_wth, z_bxr, z_bxl, z_bx2r, z_bx2l, z_bz0, z_bz1, z_mx, z_mn, z_tb1, z_tb0, z_eq, z_le, z_lt, z_nn_lt, z_nn_le, z_nn_ge, z_nn_gt, z_nn_eq, z_nn_eq2, z_bit, z_wow, z_wo, z_or, z_shl, z_if, z_ifn, fbit, if_true, if_false, Nat.zero_add, Nat.add_zero, not_false_iff, not_true, g1]
    exact ⟨m1, rfl, f1⟩
theorem IR.p33 {A : Nat → Nat} {n : Nat} {Sv Sn : Nat → Nat → Nat} {K B : Nat → Nat} {L : Nat} {m m1 : gM} (h : IR A n Sv Sn K B L m) (hf : Frq P33 m m1) : IR A n Sv Sn K B L m1 ∧ FRe m m1 ∧ gi m1 21 0 0 = gi m 21 0 0 := ⟨h.vw hf (fun c h1 h2 => by unfold P33; simp; omega), hf.fre (fun c t hc => by unfold P33; simp; omega), hf.1 _ _ _ rfl⟩
theorem ixB (x : Int32) : (x.toInt < 6 ∨ ((61 : Nat) : Int) ≤ x.toInt) ∨ ∃ j : Nat, 6 ≤ j ∧ j < 61 ∧ x = nI j := by
  rcases ixZ x (n := 61) (by decide) with h | ⟨j, hj, rfl⟩
  · exact Or.inl (h.imp (fun z => by omega) id)
  · by_cases c : j < 6
    · refine Or.inl (Or.inl ?_)
      rw [nI_toInt (by omega)]
      omega
    · exact Or.inr ⟨j, by omega, hj, rfl⟩
theorem op_ifBalanced {x1 x2 : Int32} {m : gM} (hi : HIq m) : Okq (fL_ifBalanced x1 x2 m) (fX6_ifBalanced x1 x2) := by
  obtain ⟨A, n, p, Sv, Sn, K, B, L, hg, hc, hr⟩ := hi
  have w := hg.1
  rcases ixZ x2 (n := 6) (by decide) with hb | ⟨i, hi, rfl⟩
  · obtain ⟨c1, c2⟩ := cSlot_bad hb
    refine ok_thr hr (k := nI 1) (nI_ne (by decide) (by decide)) ⟨m, ?_, hc, FCq.rf⟩ (fun m h => ?_) hg
    · unfold fL_ifBalanced fX5_ifBalanced
      simp (disch := omega) only [z_nn2, z0, z1, z2, z3, z4, z5, z6, z7, z8, z9, z10, z11, z12, z13, z14, z15, z16, z17, z18, z19, z20, z23, z24, z28, z31, z32, z33, z45, z46, z47, z48, z52, z57, z60, z63, z65, z70, z80, z95, z100, z126, z127, z128, z200, z240, z255, z400, z480, z500, z840, z1023, z2000, z99999, z1073741824, z_nn, z_add, z_sub, z_mul, z_div, z_rem, z_cl, z_in, z_chk, z_chkp, z_bnd, z_bn2, z_wth, z_bxr, z_bxl, z_bx2r, z_bx2l, z_bz0, z_bz1, z_mx, z_mn, z_tb1, z_tb0, z_eq, z_le, z_lt, z_nn_lt, z_nn_le, z_nn_ge, z_nn_gt, z_nn_eq, z_nn_eq2, z_bit, z_wow, z_wo, z_or, z_shl, z_if, z_ifn, fbit, if_true, if_false, Nat.zero_add, Nat.add_zero, not_false_iff, not_true, c1, z_bx2l]
    · unfold fX6_ifBalanced fX6_fails
      simp (disch := omega) only [z_nn2, z0, z1, z2, z3, z4, z5, z6, z7, z8, z9, z10, z11, z12, z13, z14, z15, z16, z17, z18, z19, z20, z23, z24, z28, z31, z32, z33, z45, z46, z47, z48, z52, z57, z60, z63, z65, z70, z80, z95, z100, z126, z127, z128, z200, z240, z255, z400, z480, z500, z840, z1023, z2000, z99999, z1073741824, z_nn, z_add, z_sub, z_mul, z_div, z_rem, z_cl, z_in, z_chk, z_chkp, z_bnd, z_bn2, z_wth, z_bxr, z_bxl, z_bx2r, z_bx2l, z_bz0, z_bz1, z_mx, z_mn, z_tb1, z_tb0, z_eq, z_le, z_lt, z_nn_lt, z_nn_le, z_nn_ge, z_nn_gt, z_nn_eq, z_nn_eq2, z_bit, z_wow, z_wo, z_or, z_shl, z_if, z_ifn, fbit, if_true, if_false, Nat.zero_add, Nat.add_zero, not_false_iff, not_true, c2]
      exact xthr h
  · obtain ⟨c1, c2⟩ := cSlot_ok hi
    rcases ixB x1 with hb | ⟨v, hv6, hv, rfl⟩
    · obtain ⟨d1, d2⟩ := cBal_bad hb
      refine ok_thr hr (k := nI 2) (nI_ne (by decide) (by decide)) ⟨m, ?_, hc, FCq.rf⟩ (fun m h => ?_) hg
      · unfold fL_ifBalanced fX5_ifBalanced
        simp (disch := omega) only [z_nn2, z0, z1, z2, z3, z4, z5, z6, z7, z8, z9, z10, z11, z12, z13, z14, z15, z16, z17, z18, z19, z20, z23, z24, z28, z31, z32, z33, z45, z46, z47, z48, z52, z57, z60, z63, z65, z70, z80, z95, z100, z126, z127, z128, z200, z240, z255, z400, z480, z500, z840, z1023, z2000, z99999, z1073741824, z_nn, z_add, z_sub, z_mul, z_div, z_rem, z_cl, z_in, z_chk, z_chkp, z_bnd, z_bn2, z_wth, z_bxr, z_bxl, z_bx2r, z_bx2l, z_bz0, z_bz1, z_mx, z_mn, z_tb1, z_tb0, z_eq, z_le, z_lt, z_nn_lt, z_nn_le, z_nn_ge, z_nn_gt, z_nn_eq, z_nn_eq2, z_bit, z_wow, z_wo, z_or, z_shl, z_if, z_ifn, fbit, if_true, if_false, Nat.zero_add, Nat.add_zero, not_false_iff, not_true, c1, d1, z_bx2l]
        rfl
      · unfold fX6_ifBalanced fX6_fails
        simp (disch := omega) only [z_nn2, z0, z1, z2, z3, z4, z5, z6, z7, z8, z9, z10, z11, z12, z13, z14, z15, z16, z17, z18, z19, z20, z23, z24, z28, z31, z32, z33, z45, z46, z47, z48, z52, z57, z60, z63, z65, z70, z80, z95, z100, z126, z127, z128, z200, z240, z255, z400, z480, z500, z840, z1023, z2000, z99999, z1073741824, z_nn, z_add, z_sub, z_mul, z_div, z_rem, z_cl, z_in, z_chk, z_chkp, z_bnd, z_bn2, z_wth, z_bxr, z_bxl, z_bx2r, z_bx2l, z_bz0, z_bz1, z_mx, z_mn, z_tb1, z_tb0, z_eq, z_le, z_lt, z_nn_lt, z_nn_le, z_nn_ge, z_nn_gt, z_nn_eq, z_nn_eq2, z_bit, z_wow, z_wo, z_or, z_shl, z_if, z_ifn, fbit, if_true, if_false, Nat.zero_add, Nat.add_zero, not_false_iff, not_true, c2, d2]
        exact xthr h
    · obtain ⟨d1, d2⟩ := cBal_ok hv6 hv
      obtain ⟨m1, e1, f1⟩ := ftimeIf hc.1 w hv6 (show v ≤ 60 by omega) hi
      obtain ⟨b1, b2⟩ := hc.pb f1
      refine ok_ret hr (r := bV A v i) ⟨m1, ?_, b1, b2⟩ (fun m h => ?_) hg
      · unfold fL_ifBalanced fX5_ifBalanced
        simp (disch := omega) only [z_nn2, z0, z1, z2, z3, z4, z5, z6, z7, z8, z9, z10, z11, z12, z13, z14, z15, z16, z17, z18, z19, z20, z23, z24, z28, z31, z32, z33, z45, z46, z47, z48, z52, z57, z60, z63, z65, z70, z80, z95, z100, z126, z127, z128, z200, z240, z255, z400, z480, z500, z840, z1023, z2000, z99999, z1073741824, z_nn, z_add, z_sub, z_mul, z_div, z_rem, z_cl, z_in, z_chk, z_chkp, z_bnd, z_bn2, z_wth, z_bxr, z_bxl, z_bx2r, z_bx2l, z_bz0, z_bz1, z_mx, z_mn, z_tb1, z_tb0, z_eq, z_le, z_lt, z_nn_lt, z_nn_le, z_nn_ge, z_nn_gt, z_nn_eq, z_nn_eq2, z_bit, z_wow, z_wo, z_or, z_shl, z_if, z_ifn, fbit, if_true, if_false, Nat.zero_add, Nat.add_zero, not_false_iff, not_true, c1, d1, e1]
      · obtain ⟨m2, e2, f2⟩ := fbal6 (h.th (v := nI 0)).1 w hv6 (show v ≤ 60 by omega) hi
        obtain ⟨q1, q2, q3⟩ := (h.th (v := nI 0)).p33 f2
        refine ⟨m2, ?_, q1, (FRe.si (by decide)).tr q2, q3.trans (by rw [gi_si, if_pos ⟨rfl, rfl, rfl⟩])⟩
        unfold fX6_ifBalanced
        simp (disch := omega) only [z_nn2, z0, z1, z2, z3, z4, z5, z6, z7, z8, z9, z10, z11, z12, z13, z14, z15, z16, z17, z18, z19, z20, z23, z24, z28, z31, z32, z33, z45, z46, z47, z48, z52, z57, z60, z63, z65, z70, z80, z95, z100, z126, z127, z128, z200, z240, z255, z400, z480, z500, z840, z1023, z2000, z99999, z1073741824, z_nn, z_add, z_sub, z_mul, z_div, z_rem, z_cl, z_in, z_chk, z_chkp, z_bnd, z_bn2, z_wth, z_bxr, z_bxl, z_bx2r, z_bx2l, z_bz0, z_bz1, z_mx, z_mn, z_tb1, z_tb0, z_eq, z_le, z_lt, z_nn_lt, z_nn_le, z_nn_ge, z_nn_gt, z_nn_eq, z_nn_eq2, z_bit, z_wow, z_wo, z_or, z_shl, z_if, z_ifn, fbit, if_true, if_false, Nat.zero_add, Nat.add_zero, not_false_iff, not_true, c2, d2, e2]
/-- the times of the slots below x are T's -/
def bA (A T : Nat → Nat) : Nat → Nat → Nat
  | 0 => A
  | x + 1 => upq (bA A T x) (10 + 4 * x) (T x)
theorem bA_s (A T : Nat → Nat) (x : Nat) : bA A T (x + 1) = upq (bA A T x) (10 + 4 * x) (T x) := rfl
theorem bA_WF {A T : Nat → Nat} (w : WF A) (hT : ∀ s, s < 6 → T s ≤ 20) : ∀ x, x ≤ 6 → WF (bA A T x)
  | 0, _ => w
  | x + 1, h => WF_time (bA_WF w hT x (by omega)) (by omega) (hT x (by omega))
theorem op_balance {x1 : Int32} {m : gM} (hi : HIq m) : Okq (fL_balance x1 m) (fX6_balance x1) := by
  obtain ⟨A, n, p, Sv, Sn, K, B, L, hg, hc, hr⟩ := hi
  have w := hg.1
  rcases ixB x1 with hb | ⟨v, hv6, hv, rfl⟩
  · obtain ⟨d1, d2⟩ := cBal_bad hb
    refine ok_thr hr (k := nI 1) (nI_ne (by decide) (by decide)) ⟨m, ?_, hc, FCq.rf⟩ (fun m h => ?_) hg
    · unfold fL_balance fX5_balance
      simp (disch := omega) only [z_nn2, z0, z1, z2, z3, z4, z5, z6, z7, z8, z9, z10, z11, z12, z13, z14, z15, z16, z17, z18, z19, z20, z23, z24, z28, z31, z32, z33, z45, z46, z47, z48, z52, z57, z60, z63, z65, z70, z80, z95, z100, z126, z127, z128, z200, z240, z255, z400, z480, z500, z840, z1023, z2000, z99999, z1073741824, z_nn, z_add, z_sub, z_mul, z_div, z_rem, z_cl, z_in, z_chk, z_chkp, z_bnd, z_bn2, z_wth, z_bxr, z_bxl, z_bx2r, z_bx2l, z_bz0, z_bz1, z_mx, z_mn, z_tb1, z_tb0, z_eq, z_le, z_lt, z_nn_lt, z_nn_le, z_nn_ge, z_nn_gt, z_nn_eq, z_nn_eq2, z_bit, z_wow, z_wo, z_or, z_shl, z_if, z_ifn, fbit, if_true, if_false, Nat.zero_add, Nat.add_zero, not_false_iff, not_true, d1, z_bx2l]
    · unfold fX6_balance fX6_fails
      simp (disch := omega) only [z_nn2, z0, z1, z2, z3, z4, z5, z6, z7, z8, z9, z10, z11, z12, z13, z14, z15, z16, z17, z18, z19, z20, z23, z24, z28, z31, z32, z33, z45, z46, z47, z48, z52, z57, z60, z63, z65, z70, z80, z95, z100, z126, z127, z128, z200, z240, z255, z400, z480, z500, z840, z1023, z2000, z99999, z1073741824, z_nn, z_add, z_sub, z_mul, z_div, z_rem, z_cl, z_in, z_chk, z_chkp, z_bnd, z_bn2, z_wth, z_bxr, z_bxl, z_bx2r, z_bx2l, z_bz0, z_bz1, z_mx, z_mn, z_tb1, z_tb0, z_eq, z_le, z_lt, z_nn_lt, z_nn_le, z_nn_ge, z_nn_gt, z_nn_eq, z_nn_eq2, z_bit, z_wow, z_wo, z_or, z_shl, z_if, z_ifn, fbit, if_true, if_false, Nat.zero_add, Nat.add_zero, not_false_iff, not_true, d2]
      exact xthr h
  · obtain ⟨d1, d2⟩ := cBal_ok hv6 hv
    obtain ⟨m1, e1, f1, g1⟩ := fspread hc.1 w hv6 (show v ≤ 60 by omega)
    obtain ⟨b1, b2⟩ := hc.pb f1
    have hbS := bS_le (A := A) hv6
    have hws := wsl_le A 6
    by_cases c : wsl A 6 = 0
    · refine ok_thr hr (k := nI 2) (nI_ne (by decide) (by decide)) ⟨m1, ?_, b1, b2⟩ (fun m h => ?_) hg
      · unfold fL_balance fX5_balance
        simp (disch := omega) only [z_nn2, z0, z1, z2, z3, z4, z5, z6, z7, z8, z9, z10, z11, z12, z13, z14, z15, z16, z17, z18, z19, z20, z23, z24, z28, z31, z32, z33, z45, z46, z47, z48, z52, z57, z60, z63, z65, z70, z80, z95, z100, z126, z127, z128, z200, z240, z255, z400, z480, z500, z840, z1023, z2000, z99999, z1073741824, z_nn, z_add, z_sub, z_mul, z_div, z_rem, z_cl, z_in, z_chk, z_chkp, z_bnd, z_bn2, z_wth, z_bxr, z_bxl, z_bx2r, z_bx2l, z_bz0, z_bz1, z_mx, z_mn, z_tb1, z_tb0, z_eq, z_le, z_lt, z_nn_lt, z_nn_le, z_nn_ge, z_nn_gt, z_nn_eq, z_nn_eq2, z_bit, z_wow, z_wo, z_or, z_shl, z_if, z_ifn, fbit, if_true, if_false, Nat.zero_add, Nat.add_zero, not_false_iff, not_true, d1, e1, bS_0, c, z_bx2l]
        rfl
      · unfold fX6_balance fX6_fails
        simp (disch := omega) only [z_nn2, z0, z1, z2, z3, z4, z5, z6, z7, z8, z9, z10, z11, z12, z13, z14, z15, z16, z17, z18, z19, z20, z23, z24, z28, z31, z32, z33, z45, z46, z47, z48, z52, z57, z60, z63, z65, z70, z80, z95, z100, z126, z127, z128, z200, z240, z255, z400, z480, z500, z840, z1023, z2000, z99999, z1073741824, z_nn, z_add, z_sub, z_mul, z_div, z_rem, z_cl, z_in, z_chk, z_chkp, z_bnd, z_bn2, z_wth, z_bxr, z_bxl, z_bx2r, z_bx2l, z_bz0, z_bz1, z_mx, z_mn, z_tb1, z_tb0, z_eq, z_le, z_lt, z_nn_lt, z_nn_le, z_nn_ge, z_nn_gt, z_nn_eq, z_nn_eq2, z_bit, z_wow, z_wo, z_or, z_shl, z_if, z_ifn, fbit, if_true, if_false, Nat.zero_add, Nat.add_zero, not_false_iff, not_true, d2, fworkingSlots6 (h.th (v := nI 0)).1 w, c]
        exact xthr h
    · have hw1 : WF (upq (bA A (bT A v) 6) 6 0) := WF_up (bA_WF w (fun s hs => bT_le A v hs) 6 (Nat.le_refl _)) (Or.inr (Or.inr (Or.inl ⟨rfl, by decide⟩)))
      have wp1 : WP (upq (bA A (bT A v) 6) 6 0) := Or.inl (up_eq rfl)
      refine ok_ret hr (r := nI (bS A v)) ?_ (fun m h => ?_) (GV_push hg hw1 wp1)
      · obtain ⟨m2, a1, a2, a3, ic, fc, a4⟩ := save_mod b1 hg.2.2.1 hg.2.2.2.1
        obtain ⟨q1, qe, -, -, -, qf⟩ := fsaveState b1.1 b1.2.2.1 hg.2.2.1 hg.2.2.2.1
        have g2 : ∀ s, s < 6 → gi m2 14 0 s = nI (bT A v s) := fun s hs => by
          rw [a1] at qe
          cases qe
          rw [qf.1 14 0 s rfl]
          exact g1 s hs
        have key := loop_ex (fun fu x m3 => lX5_balance_37 fu (nI (bS A v)) (nI x) m3) (fun x m3 => Frq P0s m2 m3 ∧ CS 0 (bA A (bT A v) x) m3) (fun o => ∃ m4, o = some (.inr (nI (bS A v)), m4) ∧ Frq P0s m2 m4 ∧ CS 0 (upq (bA A (bT A v) 6) 6 0) m4) 6 (fun fu x m3 hx hI => ?_) (fun fu m3 hI => ?_) FU 0 m2 (by decide) (by decide) ⟨Frq.rf, a2⟩
        · obtain ⟨m4, k1, k2, k3⟩ := key
          obtain ⟨i1, i2⟩ := a4 _ m4 k2 k3
          refine ⟨m4, ?_, i1, b2.tr i2⟩
          unfold fL_balance fX5_balance
          simp (disch := omega) only [z_nn2, z0, z1, z2, z3, z4, z5, z6, z7, z8, z9, z10, z11, z12, z13, z14, z15, z16, z17, z18, z19, z20, z23, z24, z28, z31, z32, z33, z45, z46, z47, z48, z52, z57, z60, z63, z65, z70, z80, z95, z100, z126, z127, z128, z200, z240, z255, z400, z480, z500, z840, z1023, z2000, z99999, z1073741824, z_nn, z_add, z_sub, z_mul, z_div, z_rem, z_cl, z_in, z_chk, z_chkp, z_bnd, z_bn2, z_wth, z_bxr, z_bxl, z_bx2r, z_bx2l, z_bz0, z_bz1, z_mx, z_mn, z_tb1, z_tb0, z_eq, z_le, z_lt, z_nn_lt, z_nn_le, z_nn_ge, z_nn_gt, z_nn_eq, z_nn_eq2, z_bit, z_wow, z_wo, z_or, z_shl, z_if, z_ifn, fbit, if_true, if_false, Nat.zero_add, Nat.add_zero, not_false_iff, not_true, d1, e1, bS_0]
          simp only [z_bnd, a1]
          rw [k1]
          simp only [z_bx2r]
        · obtain ⟨j1, j2⟩ := hI
          have e14 : gi m3 14 0 x = nI (bT A v x) := by rw [j1.1 14 0 x rfl]; exact g2 x hx
          refine ⟨si m3 3 0 x (nI (bT A v x)), ⟨j1.tr (Frq.si rfl), CS_time j2 hx⟩, ?_⟩
          rw [lX5_balance_37_s]
          simp (disch := omega) only [z_nn2, z0, z1, z2, z3, z4, z5, z6, z7, z8, z9, z10, z11, z12, z13, z14, z15, z16, z17, z18, z19, z20, z23, z24, z28, z31, z32, z33, z45, z46, z47, z48, z52, z57, z60, z63, z65, z70, z80, z95, z100, z126, z127, z128, z200, z240, z255, z400, z480, z500, z840, z1023, z2000, z99999, z1073741824, z_nn, z_add, z_sub, z_mul, z_div, z_rem, z_cl, z_in, z_chk, z_chkp, z_bnd, z_bn2, z_wth, z_bxr, z_bxl, z_bx2r, z_bx2l, z_bz0, z_bz1, z_mx, z_mn, z_tb1, z_tb0, z_eq, z_le, z_lt, z_nn_lt, z_nn_le, z_nn_ge, z_nn_gt, z_nn_eq, z_nn_eq2, z_bit, z_wow, z_wo, z_or, z_shl, z_if, z_ifn, fbit, if_true, if_false, Nat.zero_add, Nat.add_zero, not_false_iff, not_true, e14]
        · obtain ⟨j1, j2⟩ := hI
          rw [lX5_balance_37_s]
          unfold jX5_balance_67
          simp (disch := omega) only [z_nn2, z0, z1, z2, z3, z4, z5, z6, z7, z8, z9, z10, z11, z12, z13, z14, z15, z16, z17, z18, z19, z20, z23, z24, z28, z31, z32, z33, z45, z46, z47, z48, z52, z57, z60, z63, z65, z70, z80, z95, z100, z126, z127, z128, z200, z240, z255, z400, z480, z500, z840, z1023, z2000, z99999, z1073741824, z_nn, z_add, z_sub, z_mul, z_div, z_rem, z_cl, z_in, z_chk, z_chkp, z_bnd, z_bn2, z_wth, z_bxr, z_bxl, z_bx2r, z_bx2l, z_bz0, z_bz1, z_mx, z_mn, z_tb1, z_tb0, z_eq, z_le, z_lt, z_nn_lt, z_nn_le, z_nn_ge, z_nn_gt, z_nn_eq, z_nn_eq2, z_bit, z_wow, z_wo, z_or, z_shl, z_if, z_ifn, fbit, if_true, if_false, Nat.zero_add, Nat.add_zero, not_false_iff, not_true]
          exact ⟨_, rfl, j1.tr (Frq.si rfl), CS_num j2 (k := 6) (by decide) (by decide)⟩
      · obtain ⟨m2, a1, a2, a3, a4, a5, a6⟩ := saves_mod (h.th (v := nI 0)) hg.2.2.1
        obtain ⟨m3, s1, s2, s3⟩ := fgives a2 w hv6 (show v ≤ 60 by omega)
        unfold fX6_balance
        simp (disch := omega) only [z_nn2, z0, z1, z2, z3, z4, z5, z6, z7, z8, z9, z10, z11, z12, z13, z14, z15, z16, z17, z18, z19, z20, z23, z24, z28, z31, z32, z33, z45, z46, z47, z48, z52, z57, z60, z63, z65, z70, z80, z95, z100, z126, z127, z128, z200, z240, z255, z400, z480, z500, z840, z1023, z2000, z99999, z1073741824, z_nn, z_add, z_sub, z_mul, z_div, z_rem, z_cl, z_in, z_chk, z_chkp, z_bnd, z_bn2, z_wth, z_bxr, z_bxl, z_bx2r, z_bx2l, z_bz0, z_bz1, z_mx, z_mn, z_tb1, z_tb0, z_eq, z_le, z_lt, z_nn_lt, z_nn_le, z_nn_ge, z_nn_gt, z_nn_eq, z_nn_eq2, z_bit, z_wow, z_wo, z_or, z_shl, z_if, z_ifn, fbit, if_true, if_false, Nat.zero_add, Nat.add_zero, not_false_iff, not_true, d2, fworkingSlots6 (h.th (v := nI 0)).1 w, a1, s1]
        refine loop_ex (fun fu x m4 => lX6_balance_47 fu (nI (bS A v)) (nI x) m4) (fun x m4 => Frq (fun c _ => c == 22) m3 m4 ∧ RMq (bA A (bT A v) x) m4) (fun o => ∃ m4, o = some (nI (bS A v), m4) ∧ IR (upq (bA A (bT A v) 6) 6 0) (min (n + 1) 6) (psh A Sv) Sn K B L m4 ∧ FRe m m4 ∧ gi m4 21 0 0 = nI 0) 6 (fun fu x m4 hx hI => ?_) (fun fu m4 hI => ?_) FU 0 m3 (by decide) (by decide) ⟨Frq.rf, a2.fr s2 rfl⟩
        · obtain ⟨j1, j2⟩ := hI
          have e33 : gi m4 33 0 x = nI (bT A v x) := by rw [j1.1 33 0 x rfl]; exact s3 x hx
          refine ⟨si m4 22 0 (10 + 4 * x) (nI (bT A v x)), ⟨j1.tr (Frq.si rfl), RM_up j2⟩, ?_⟩
          rw [lX6_balance_47_s]
          unfold fX6_lay
          simp (disch := omega) only [z_nn2, z0, z1, z2, z3, z4, z5, z6, z7, z8, z9, z10, z11, z12, z13, z14, z15, z16, z17, z18, z19, z20, z23, z24, z28, z31, z32, z33, z45, z46, z47, z48, z52, z57, z60, z63, z65, z70, z80, z95, z100, z126, z127, z128, z200, z240, z255, z400, z480, z500, z840, z1023, z2000, z99999, z1073741824, z_nn, z_add, z_sub, z_mul, z_div, z_rem, z_cl, z_in, z_chk, z_chkp, z_bnd, z_bn2, z_wth, z_bxr, z_bxl, z_bx2r, z_bx2l, z_bz0, z_bz1, z_mx, z_mn, z_tb1, z_tb0, z_eq, z_le, z_lt, z_nn_lt, z_nn_le, z_nn_ge, z_nn_gt, z_nn_eq, z_nn_eq2, z_bit, z_wow, z_wo, z_or, z_shl, z_if, z_ifn, fbit, if_true, if_false, Nat.zero_add, Nat.add_zero, not_false_iff, not_true, e33, show 8 + 4 * x + 2 = 10 + 4 * x by omega]
        · obtain ⟨j1, j2⟩ := hI
          rw [lX6_balance_47_s]
          unfold jX6_balance_71
          simp (disch := omega) only [z_nn2, z0, z1, z2, z3, z4, z5, z6, z7, z8, z9, z10, z11, z12, z13, z14, z15, z16, z17, z18, z19, z20, z23, z24, z28, z31, z32, z33, z45, z46, z47, z48, z52, z57, z60, z63, z65, z70, z80, z95, z100, z126, z127, z128, z200, z240, z255, z400, z480, z500, z840, z1023, z2000, z99999, z1073741824, z_nn, z_add, z_sub, z_mul, z_div, z_rem, z_cl, z_in, z_chk, z_chkp, z_bnd, z_bn2, z_wth, z_bxr, z_bxl, z_bx2r, z_bx2l, z_bz0, z_bz1, z_mx, z_mn, z_tb1, z_tb0, z_eq, z_le, z_lt, z_nn_lt, z_nn_le, z_nn_ge, z_nn_gt, z_nn_eq, z_nn_eq2, z_bit, z_wow, z_wo, z_or, z_shl, z_if, z_ifn, fbit, if_true, if_false, Nat.zero_add, Nat.add_zero, not_false_iff, not_true]
          have fall : ∀ cc t i, cc ≠ 22 → cc ≠ 33 → gi (si m4 22 0 6 (nI 0)) cc t i = gi m2 cc t i := fun cc t i h1 h2 => by
            rw [gi_si, if_neg (fun z => h1 z.1), j1.1 cc t i (by simp; exact h1), s2.1 cc t i (by unfold P33; simp; exact h2)]
          refine ⟨_, rfl, a6 _ _ (fun cc i h1 h2 h3 => fall cc 0 i h3 (by omega)) (RM_up j2), ⟨fun cc t i h1 => ?_, ?_⟩, ?_⟩
          · rw [fall cc t i (by omega) (by omega), a3.1 cc t i h1, gi_si, if_neg (fun z => by omega)]
          · show gl m4 34 0 = _
            rw [j1.2 34 0, s2.2 34 0, a3.2]
            rfl
          · rw [fall 21 0 0 (by decide) (by decide), a4 0 (by decide), gi_si, if_pos ⟨rfl, rfl, rfl⟩]
