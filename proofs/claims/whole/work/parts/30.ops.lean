/-! SIGNS, SEGMENTS, TIMES: show, dot, burn, cut, time, balance, set -/
theorem xthr {A : Nat → Nat} {n : Nat} {Sv Sn : Nat → Nat → Nat} {K B : Nat → Nat} {L : Nat} {m : gM} {k : Nat} (h : IR A n Sv Sn K B L m) : ∃ (b : Int32) (m2 : gM), some (nI 0, si (si m 21 0 0 (nI 0)) 21 0 0 (nI k)) = some (b, m2) ∧ IR A n Sv Sn K B L m2 ∧ FRe m m2 ∧ gi m2 21 0 0 = nI k := ⟨_, _, rfl, h.th.th, (FRe.si (by decide)).tr (FRe.si (by decide)), by rw [gi_si, if_pos ⟨rfl, rfl, rfl⟩]⟩
theorem nI_ne {k : Nat} (h : 0 < k) (h2 : k < 4294967296) : nI k ≠ 0 := by
  intro z
  have e : nI k = nI 0 := z
  rw [z_eq h2 (by decide)] at e
  omega
theorem WF_up {A : Nat → Nat} (w : WF A) {k v : Nat} (h : (k = 4 ∧ v < 256) ∨ (k = 5 ∧ v ≤ 99999) ∨ (k = 6 ∧ v ≤ 200) ∨ (k = 7 ∧ 0 ≤ v) ∨ (∃ i, i < 6 ∧ k = 8 + 4 * i ∧ v < 18) ∨ (∃ i, i < 6 ∧ k = 9 + 4 * i ∧ v ≤ 1) ∨ (∃ i, i < 6 ∧ k = 10 + 4 * i ∧ v ≤ 20) ∨ (∃ i, i < 6 ∧ k = 11 + 4 * i ∧ v < 256) ∨ (∃ i, i < 48 ∧ k = 32 + i ∧ v ≤ 2000) ∨ (k = 0 ∧ v ≤ 3) ∨ (k = 1 ∧ 1 ≤ v ∧ v ≤ 2000) ∨ (k = 2 ∧ 1 ≤ v ∧ v ≤ 16) ∨ (k = 3 ∧ 1 ≤ v ∧ v ≤ 500)) : WF (upq A k v) := by
  obtain ⟨h0, h1, h2, h3, h4, h5, h6, h7, h8, h9, h10, g1, g2, g3, g4, g5⟩ := w
  refine ⟨?_, ?_, ?_, ?_, ?_, ?_, ?_, ?_, ?_, ?_, ?_, fun j hj => ?_, fun j hj => ?_, fun j hj => ?_, fun j hj => ?_, fun j hj => ?_⟩ <;> unfold upq <;> split <;> first | assumption | omega | exact g1 j hj | exact g2 j hj | exact g3 j hj | exact g4 j hj | exact g5 j hj | (exfalso; rcases h with h | h | h | h | ⟨i, h⟩ | ⟨i, h⟩ | ⟨i, h⟩ | ⟨i, h⟩ | ⟨i, h⟩ | h | h | h | h <;> omega) | (rcases h with h | h | h | h | ⟨i, h⟩ | ⟨i, h⟩ | ⟨i, h⟩ | ⟨i, h⟩ | ⟨i, h⟩ | h | h | h | h <;> omega)
/-- the law's cut of an object's answer -/
theorem op_show {x1 x2 : Int32} {m : gM} (hi : HIq m) : Okq (fL_show x1 x2 m) (fX6_show x1 x2) := by
  obtain ⟨A, n, p, Sv, Sn, K, B, L, hg, hc, hr⟩ := hi
  rcases ixZ x1 (n := 6) (by decide) with hb | ⟨i, hi, rfl⟩
  · obtain ⟨c1, c2⟩ := cSlot_bad hb
    refine ok_thr hr (k := nI 1) (nI_ne (by decide) (by decide)) ⟨m, ?_, hc, FCq.rf⟩ (fun m h => ?_) hg
    · unfold fL_show fX5_show
      simp (disch := omega) only [z_nn2, z0, z1, z2, z3, z4, z5, z6, z7, z8, z9, z10, z11, z12, z13, z14, z15, z16, z17, z18, z19, z20, z23, z24, z28, z31, z32, z33, z45, z46, z47, z48, z52, z57, z60, z63, z65, z70, z80, z95, z100, z126, z127, z128, z200, z240, z255, z400, z480, z500, z840, z1023, z2000, z99999, z1073741824, z_nn, z_add, z_sub, z_mul, z_div, z_rem, z_cl, z_in, z_chk, z_chkp, z_bnd, z_bn2, z_wth, z_bxr, z_bxl, z_bx2r, z_bx2l, z_bz0, z_bz1, z_mx, z_mn, z_tb1, z_tb0, z_eq, z_le, z_lt, z_nn_lt, z_nn_le, z_nn_ge, z_nn_gt, z_nn_eq, z_nn_eq2, z_bit, z_wow, z_wo, z_or, z_shl, z_if, z_ifn, fbit, if_true, if_false, Nat.zero_add, Nat.add_zero, not_false_iff, not_true, c1, z_bx2l]
    · unfold fX6_show fX6_fails
      simp (disch := omega) only [z_nn2, z0, z1, z2, z3, z4, z5, z6, z7, z8, z9, z10, z11, z12, z13, z14, z15, z16, z17, z18, z19, z20, z23, z24, z28, z31, z32, z33, z45, z46, z47, z48, z52, z57, z60, z63, z65, z70, z80, z95, z100, z126, z127, z128, z200, z240, z255, z400, z480, z500, z840, z1023, z2000, z99999, z1073741824, z_nn, z_add, z_sub, z_mul, z_div, z_rem, z_cl, z_in, z_chk, z_chkp, z_bnd, z_bn2, z_wth, z_bxr, z_bxl, z_bx2r, z_bx2l, z_bz0, z_bz1, z_mx, z_mn, z_tb1, z_tb0, z_eq, z_le, z_lt, z_nn_lt, z_nn_le, z_nn_ge, z_nn_gt, z_nn_eq, z_nn_eq2, z_bit, z_wow, z_wo, z_or, z_shl, z_if, z_ifn, fbit, if_true, if_false, Nat.zero_add, Nat.add_zero, not_false_iff, not_true, c2]
      exact xthr h
  · obtain ⟨c1, c2⟩ := cSlot_ok hi
    rcases ixZ x2 (n := 18) (by decide) with hb | ⟨v, hv, rfl⟩
    · have e2 : fX6_in x2 (nI 0) (nI 17) = some (nI 0) := in_bad (by decide) (by decide) (by omega)
      refine ok_thr hr (k := nI 2) (nI_ne (by decide) (by decide)) ⟨m, ?_, hc, FCq.rf⟩ (fun m h => ?_) hg
      · unfold fL_show fX5_show jX5_show_14
        rcases hb with hb | hb
        · simp (disch := omega) only [z_nn2, z0, z1, z2, z3, z4, z5, z6, z7, z8, z9, z10, z11, z12, z13, z14, z15, z16, z17, z18, z19, z20, z23, z24, z28, z31, z32, z33, z45, z46, z47, z48, z52, z57, z60, z63, z65, z70, z80, z95, z100, z126, z127, z128, z200, z240, z255, z400, z480, z500, z840, z1023, z2000, z99999, z1073741824, z_nn, z_add, z_sub, z_mul, z_div, z_rem, z_cl, z_in, z_chk, z_chkp, z_bnd, z_bn2, z_wth, z_bxr, z_bxl, z_bx2r, z_bx2l, z_bz0, z_bz1, z_mx, z_mn, z_tb1, z_tb0, z_eq, z_le, z_lt, z_nn_lt, z_nn_le, z_nn_ge, z_nn_gt, z_nn_eq, z_nn_eq2, z_bit, z_wow, z_wo, z_or, z_shl, z_if, z_ifn, fbit, if_true, if_false, Nat.zero_add, Nat.add_zero, not_false_iff, not_true, c1, zx_lt1]
          rfl
        · simp (disch := omega) only [z_nn2, z0, z1, z2, z3, z4, z5, z6, z7, z8, z9, z10, z11, z12, z13, z14, z15, z16, z17, z18, z19, z20, z23, z24, z28, z31, z32, z33, z45, z46, z47, z48, z52, z57, z60, z63, z65, z70, z80, z95, z100, z126, z127, z128, z200, z240, z255, z400, z480, z500, z840, z1023, z2000, z99999, z1073741824, z_nn, z_add, z_sub, z_mul, z_div, z_rem, z_cl, z_in, z_chk, z_chkp, z_bnd, z_bn2, z_wth, z_bxr, z_bxl, z_bx2r, z_bx2l, z_bz0, z_bz1, z_mx, z_mn, z_tb1, z_tb0, z_eq, z_le, z_lt, z_nn_lt, z_nn_le, z_nn_ge, z_nn_gt, z_nn_eq, z_nn_eq2, z_bit, z_wow, z_wo, z_or, z_shl, z_if, z_ifn, fbit, if_true, if_false, Nat.zero_add, Nat.add_zero, not_false_iff, not_true, c1, zx_lt1]
          rfl
      · unfold fX6_show fX6_fails
        simp (disch := omega) only [z_nn2, z0, z1, z2, z3, z4, z5, z6, z7, z8, z9, z10, z11, z12, z13, z14, z15, z16, z17, z18, z19, z20, z23, z24, z28, z31, z32, z33, z45, z46, z47, z48, z52, z57, z60, z63, z65, z70, z80, z95, z100, z126, z127, z128, z200, z240, z255, z400, z480, z500, z840, z1023, z2000, z99999, z1073741824, z_nn, z_add, z_sub, z_mul, z_div, z_rem, z_cl, z_in, z_chk, z_chkp, z_bnd, z_bn2, z_wth, z_bxr, z_bxl, z_bx2r, z_bx2l, z_bz0, z_bz1, z_mx, z_mn, z_tb1, z_tb0, z_eq, z_le, z_lt, z_nn_lt, z_nn_le, z_nn_ge, z_nn_gt, z_nn_eq, z_nn_eq2, z_bit, z_wow, z_wo, z_or, z_shl, z_if, z_ifn, fbit, if_true, if_false, Nat.zero_add, Nat.add_zero, not_false_iff, not_true, c2, e2]
        exact xthr h
    · have e2 : fX6_in (nI v) (nI 0) (nI 17) = some (nI 1) := in_ok (by decide) (by decide) (by rw [nI_toInt (by omega)]; omega) (by rw [nI_toInt (by omega)]; omega)
      have w := hg.1
      have w1 := WF_up w (k := 8 + 4 * i) (v := v) (Or.inr (Or.inr (Or.inr (Or.inr (Or.inl ⟨i, hi, rfl, hv⟩)))))
      have wp1 : WP (upq A (8 + 4 * i) v) := WP_cg hg.2.1 (up_ne (by omega)) (up_ne (by omega)) (fun j hj => up_ne (by omega))
      refine ok_ret hr (r := nI (A (8 + 4 * i))) ?_ (fun m h => ?_) (GV_push hg w1 wp1)
      · obtain ⟨m1, a1, a2, a3, -, -, a4⟩ := save_mod hc hg.2.2.1 hg.2.2.2.1
        obtain ⟨b1, b2⟩ := a4 _ (si m1 1 0 i (nI v)) (Frq.si rfl) (CS_sign a2 hi)
        refine ⟨_, ?_, b1, b2⟩
        unfold fL_show fX5_show
        simp (disch := omega) only [z_nn2, z0, z1, z2, z3, z4, z5, z6, z7, z8, z9, z10, z11, z12, z13, z14, z15, z16, z17, z18, z19, z20, z23, z24, z28, z31, z32, z33, z45, z46, z47, z48, z52, z57, z60, z63, z65, z70, z80, z95, z100, z126, z127, z128, z200, z240, z255, z400, z480, z500, z840, z1023, z2000, z99999, z1073741824, z_nn, z_add, z_sub, z_mul, z_div, z_rem, z_cl, z_in, z_chk, z_chkp, z_bnd, z_bn2, z_wth, z_bxr, z_bxl, z_bx2r, z_bx2l, z_bz0, z_bz1, z_mx, z_mn, z_tb1, z_tb0, z_eq, z_le, z_lt, z_nn_lt, z_nn_le, z_nn_ge, z_nn_gt, z_nn_eq, z_nn_eq2, z_bit, z_wow, z_wo, z_or, z_shl, z_if, z_ifn, fbit, if_true, if_false, Nat.zero_add, Nat.add_zero, not_false_iff, not_true, c1, a1, a2.sign]
      · obtain ⟨m1, a1, a2, a3, a4, a5, a6⟩ := saves_mod (h.th (v := nI 0)) hg.2.2.1
        refine ⟨si m1 22 0 (8 + 4 * i) (nI v), ?_, a6 _ _ (fun c j _ _ hne => by rw [gi_si, if_neg (fun z => hne z.1)]) (RM_up a2), ((FRe.si (by decide)).tr a3).tr (FRe.si (by decide)), ?_⟩
        · unfold fX6_show fX6_lay
          simp (disch := omega) only [z_nn2, z0, z1, z2, z3, z4, z5, z6, z7, z8, z9, z10, z11, z12, z13, z14, z15, z16, z17, z18, z19, z20, z23, z24, z28, z31, z32, z33, z45, z46, z47, z48, z52, z57, z60, z63, z65, z70, z80, z95, z100, z126, z127, z128, z200, z240, z255, z400, z480, z500, z840, z1023, z2000, z99999, z1073741824, z_nn, z_add, z_sub, z_mul, z_div, z_rem, z_cl, z_in, z_chk, z_chkp, z_bnd, z_bn2, z_wth, z_bxr, z_bxl, z_bx2r, z_bx2l, z_bz0, z_bz1, z_mx, z_mn, z_tb1, z_tb0, z_eq, z_le, z_lt, z_nn_lt, z_nn_le, z_nn_ge, z_nn_gt, z_nn_eq, z_nn_eq2, z_bit, z_wow, z_wo, z_or, z_shl, z_if, z_ifn, fbit, if_true, if_false, Nat.zero_add, Nat.add_zero, not_false_iff, not_true, c2, e2, a1, fof a2]
        · rw [gi_si, if_neg (fun z => by omega), a4 0 (by decide), gi_si, if_pos ⟨rfl, rfl, rfl⟩]
theorem tb_inj {x y : Nat} (hx : x < 64) (hy : y < 64) (h : ∀ j, j < 6 → tbq x j = tbq y j) : x = y := by
  apply Nat.eq_of_testBit_eq
  intro j
  by_cases c : j < 6
  · have e := h j c
    rw [tb_bit, tb_bit] at e
    revert e
    cases x.testBit j <;> cases y.testBit j <;> decide
  · have p : ∀ z, z < 64 → z.testBit j = false := fun z hz => Nat.testBit_lt_two_pow (Nat.lt_of_lt_of_le hz (Nat.pow_le_pow_right (n := 2) (by decide) (show 6 ≤ j by omega)))
    rw [p x hx, p y hy]
theorem tb_xor (x i j : Nat) : tbq (x ^^^ 2 ^ i) j = if i = j then 1 - tbq x j else tbq x j := by
  rw [tb_bit, tb_bit, Nat.testBit_xor, Nat.testBit_two_pow]
  by_cases c : i = j
  · rw [if_pos c, decide_eq_true c]
    cases x.testBit j <;> rfl
  · rw [if_neg c, decide_eq_false c, Bool.xor_false]
theorem dm_dot {A : Nat → Nat} (w : WF A) {i : Nat} (hi : i < 6) : dm (upq A (9 + 4 * i) (1 - A (9 + 4 * i))) = dm A ^^^ 2 ^ i := by
  have w1 := WF_up w (k := 9 + 4 * i) (v := 1 - A (9 + 4 * i)) (Or.inr (Or.inr (Or.inr (Or.inr (Or.inr (Or.inl ⟨i, hi, rfl, Nat.sub_le _ _⟩))))))
  have h2 : 2 ^ i < 2 ^ 6 := Nat.pow_lt_pow_right (by decide) hi
  have h1 := dm_lt w
  refine tb_inj (dm_lt w1) (Nat.xor_lt_two_pow (n := 6) h1 h2) (fun j hj => ?_)
  rw [dm_tb w1 hj, tb_xor, dm_tb w hj]
  unfold upq
  by_cases c : i = j
  · subst c
    rw [if_pos rfl, if_pos rfl]
  · rw [if_neg c, if_neg (by omega)]
theorem op_dot {x1 : Int32} {m : gM} (hi : HIq m) : Okq (fL_dot x1 m) (fX6_dot x1) := by
  obtain ⟨A, n, p, Sv, Sn, K, B, L, hg, hc, hr⟩ := hi
  rcases ixZ x1 (n := 6) (by decide) with hb | ⟨i, hi, rfl⟩
  · obtain ⟨c1, c2⟩ := cSlot_bad hb
    refine ok_thr hr (k := nI 1) (nI_ne (by decide) (by decide)) ⟨m, ?_, hc, FCq.rf⟩ (fun m h => ?_) hg
    · unfold fL_dot fX5_dot
      simp (disch := omega) only [z_nn2, z0, z1, z2, z3, z4, z5, z6, z7, z8, z9, z10, z11, z12, z13, z14, z15, z16, z17, z18, z19, z20, z23, z24, z28, z31, z32, z33, z45, z46, z47, z48, z52, z57, z60, z63, z65, z70, z80, z95, z100, z126, z127, z128, z200, z240, z255, z400, z480, z500, z840, z1023, z2000, z99999, z1073741824, z_nn, z_add, z_sub, z_mul, z_div, z_rem, z_cl, z_in, z_chk, z_chkp, z_bnd, z_bn2, z_wth, z_bxr, z_bxl, z_bx2r, z_bx2l, z_bz0, z_bz1, z_mx, z_mn, z_tb1, z_tb0, z_eq, z_le, z_lt, z_nn_lt, z_nn_le, z_nn_ge, z_nn_gt, z_nn_eq, z_nn_eq2, z_bit, z_wow, z_wo, z_or, z_shl, z_if, z_ifn, fbit, if_true, if_false, Nat.zero_add, Nat.add_zero, not_false_iff, not_true, c1, z_bx2l]
    · unfold fX6_dot fX6_fails
      simp (disch := omega) only [z_nn2, z0, z1, z2, z3, z4, z5, z6, z7, z8, z9, z10, z11, z12, z13, z14, z15, z16, z17, z18, z19, z20, z23, z24, z28, z31, z32, z33, z45, z46, z47, z48, z52, z57, z60, z63, z65, z70, z80, z95, z100, z126, z127, z128, z200, z240, z255, z400, z480, z500, z840, z1023, z2000, z99999, z1073741824, z_nn, z_add, z_sub, z_mul, z_div, z_rem, z_cl, z_in, z_chk, z_chkp, z_bnd, z_bn2, z_wth, z_bxr, z_bxl, z_bx2r, z_bx2l, z_bz0, z_bz1, z_mx, z_mn, z_tb1, z_tb0, z_eq, z_le, z_lt, z_nn_lt, z_nn_le, z_nn_ge, z_nn_gt, z_nn_eq, z_nn_eq2, z_bit, z_wow, z_wo, z_or, z_shl, z_if, z_ifn, fbit, if_true, if_false, Nat.zero_add, Nat.add_zero, not_false_iff, not_true, c2]
      exact xthr h
  · obtain ⟨c1, c2⟩ := cSlot_ok hi
    have w := hg.1
    have hd := w.dot hi
    have hdm := dm_lt w
    have w1 := WF_up w (k := 9 + 4 * i) (v := 1 - A (9 + 4 * i)) (Or.inr (Or.inr (Or.inr (Or.inr (Or.inr (Or.inl ⟨i, hi, rfl, Nat.sub_le _ _⟩))))))
    have wp1 : WP (upq A (9 + 4 * i) (1 - A (9 + 4 * i))) := WP_cg hg.2.1 (up_ne (by omega)) (up_ne (by omega)) (fun j hj => up_ne (by omega))
    have hdm1 := dm_lt w1
    have hx : nI (dm A) ^^^ nI (2 ^ i) = nI (dm (upq A (9 + 4 * i) (1 - A (9 + 4 * i)))) := by rw [z_xor, dm_dot w hi]
    have htb : tbq (dm (upq A (9 + 4 * i) (1 - A (9 + 4 * i)))) i = 1 - A (9 + 4 * i) := by rw [dm_tb w1 hi, up_eq rfl]
    refine ok_ret hr (r := nI (1 - A (9 + 4 * i))) ?_ (fun m h => ?_) (GV_push hg w1 wp1)
    · obtain ⟨m1, a1, a2, a3, -, -, a4⟩ := save_mod hc hg.2.2.1 hg.2.2.2.1
      have cd : CS 0 (upq A (9 + 4 * i) (1 - A (9 + 4 * i))) (si m1 0 0 5 (nI (dm (upq A (9 + 4 * i) (1 - A (9 + 4 * i)))))) := CS_dots a2 (fun j hj => up_ne (hj i hi))
      obtain ⟨b1, b2⟩ := a4 _ _ (Frq.si rfl) cd
      refine ⟨_, ?_, b1, b2⟩
      unfold fL_dot fX5_dot
      simp (disch := omega) only [z_nn2, z0, z1, z2, z3, z4, z5, z6, z7, z8, z9, z10, z11, z12, z13, z14, z15, z16, z17, z18, z19, z20, z23, z24, z28, z31, z32, z33, z45, z46, z47, z48, z52, z57, z60, z63, z65, z70, z80, z95, z100, z126, z127, z128, z200, z240, z255, z400, z480, z500, z840, z1023, z2000, z99999, z1073741824, z_nn, z_add, z_sub, z_mul, z_div, z_rem, z_cl, z_in, z_chk, z_chkp, z_bnd, z_bn2, z_wth, z_bxr, z_bxl, z_bx2r, z_bx2l, z_bz0, z_bz1, z_mx, z_mn, z_tb1, z_tb0, z_eq, z_le, z_lt, z_nn_lt, z_nn_le, z_nn_ge, z_nn_gt, z_nn_eq, z_nn_eq2, z_bit, z_wow, z_wo, z_or, z_shl, z_if, z_ifn, fbit, if_true, if_false, Nat.zero_add, Nat.add_zero, not_false_iff, not_true, c1, a1, a2.dots, hx, cd.dots, htb]
    · obtain ⟨m1, a1, a2, a3, a4, a5, a6⟩ := saves_mod (h.th (v := nI 0)) hg.2.2.1
      have rm : RMq (upq A (9 + 4 * i) (1 - A (9 + 4 * i))) (si m1 22 0 (9 + 4 * i) (nI (1 - A (9 + 4 * i)))) := RM_up a2
      refine ⟨_, ?_, a6 _ _ (fun c j _ _ hne => by rw [gi_si, if_neg (fun z => hne z.1)]) rm, ((FRe.si (by decide)).tr a3).tr (FRe.si (by decide)), ?_⟩
      · unfold fX6_dot fX6_lay
        simp (disch := omega) only [z_nn2, z0, z1, z2, z3, z4, z5, z6, z7, z8, z9, z10, z11, z12, z13, z14, z15, z16, z17, z18, z19, z20, z23, z24, z28, z31, z32, z33, z45, z46, z47, z48, z52, z57, z60, z63, z65, z70, z80, z95, z100, z126, z127, z128, z200, z240, z255, z400, z480, z500, z840, z1023, z2000, z99999, z1073741824, z_nn, z_add, z_sub, z_mul, z_div, z_rem, z_cl, z_in, z_chk, z_chkp, z_bnd, z_bn2, z_wth, z_bxr, z_bxl, z_bx2r, z_bx2l, z_bz0, z_bz1, z_mx, z_mn, z_tb1, z_tb0, z_eq, z_le, z_lt, z_nn_lt, z_nn_le, z_nn_ge, z_nn_gt, z_nn_eq, z_nn_eq2, z_bit, z_wow, z_wo, z_or, z_shl, z_if, z_ifn, fbit, if_true, if_false, Nat.zero_add, Nat.add_zero, not_false_iff, not_true, c2, a1, fof a2, show 8 + 4 * i + 1 = 9 + 4 * i by omega, fof rm, up_eq]
      · rw [gi_si, if_neg (fun z => by omega), a4 0 (by decide), gi_si, if_pos ⟨rfl, rfl, rfl⟩]
theorem op_burn {x1 x2 : Int32} {m : gM} (hi : HIq m) : Okq (fL_burn x1 x2 m) (fX6_burn x1 x2) := by
  obtain ⟨A, n, p, Sv, Sn, K, B, L, hg, hc, hr⟩ := hi
  rcases ixZ x1 (n := 6) (by decide) with hb | ⟨i, hi, rfl⟩
  · obtain ⟨c1, c2⟩ := cSlot_bad hb
    refine ok_thr hr (k := nI 1) (nI_ne (by decide) (by decide)) ⟨m, ?_, hc, FCq.rf⟩ (fun m h => ?_) hg
    · unfold fL_burn fX5_burn
      simp (disch := omega) only [z_nn2, z0, z1, z2, z3, z4, z5, z6, z7, z8, z9, z10, z11, z12, z13, z14, z15, z16, z17, z18, z19, z20, z23, z24, z28, z31, z32, z33, z45, z46, z47, z48, z52, z57, z60, z63, z65, z70, z80, z95, z100, z126, z127, z128, z200, z240, z255, z400, z480, z500, z840, z1023, z2000, z99999, z1073741824, z_nn, z_add, z_sub, z_mul, z_div, z_rem, z_cl, z_in, z_chk, z_chkp, z_bnd, z_bn2, z_wth, z_bxr, z_bxl, z_bx2r, z_bx2l, z_bz0, z_bz1, z_mx, z_mn, z_tb1, z_tb0, z_eq, z_le, z_lt, z_nn_lt, z_nn_le, z_nn_ge, z_nn_gt, z_nn_eq, z_nn_eq2, z_bit, z_wow, z_wo, z_or, z_shl, z_if, z_ifn, fbit, if_true, if_false, Nat.zero_add, Nat.add_zero, not_false_iff, not_true, c1, z_bx2l]
    · unfold fX6_burn jX6_burn_19 fX6_fails
      simp (disch := omega) only [z_nn2, z0, z1, z2, z3, z4, z5, z6, z7, z8, z9, z10, z11, z12, z13, z14, z15, z16, z17, z18, z19, z20, z23, z24, z28, z31, z32, z33, z45, z46, z47, z48, z52, z57, z60, z63, z65, z70, z80, z95, z100, z126, z127, z128, z200, z240, z255, z400, z480, z500, z840, z1023, z2000, z99999, z1073741824, z_nn, z_add, z_sub, z_mul, z_div, z_rem, z_cl, z_in, z_chk, z_chkp, z_bnd, z_bn2, z_wth, z_bxr, z_bxl, z_bx2r, z_bx2l, z_bz0, z_bz1, z_mx, z_mn, z_tb1, z_tb0, z_eq, z_le, z_lt, z_nn_lt, z_nn_le, z_nn_ge, z_nn_gt, z_nn_eq, z_nn_eq2, z_bit, z_wow, z_wo, z_or, z_shl, z_if, z_ifn, fbit, if_true, if_false, Nat.zero_add, Nat.add_zero, not_false_iff, not_true, c2]
      exact xthr h
  · obtain ⟨c1, c2⟩ := cSlot_ok hi
    rcases ixZ x2 (n := 8) (by decide) with hb | ⟨k, hk, rfl⟩
    · obtain ⟨d1, d2⟩ := cSeg_bad hb
      refine ok_thr hr (k := nI 1) (nI_ne (by decide) (by decide)) ⟨m, ?_, hc, FCq.rf⟩ (fun m h => ?_) hg
      · unfold fL_burn fX5_burn
        simp (disch := omega) only [z_nn2, z0, z1, z2, z3, z4, z5, z6, z7, z8, z9, z10, z11, z12, z13, z14, z15, z16, z17, z18, z19, z20, z23, z24, z28, z31, z32, z33, z45, z46, z47, z48, z52, z57, z60, z63, z65, z70, z80, z95, z100, z126, z127, z128, z200, z240, z255, z400, z480, z500, z840, z1023, z2000, z99999, z1073741824, z_nn, z_add, z_sub, z_mul, z_div, z_rem, z_cl, z_in, z_chk, z_chkp, z_bnd, z_bn2, z_wth, z_bxr, z_bxl, z_bx2r, z_bx2l, z_bz0, z_bz1, z_mx, z_mn, z_tb1, z_tb0, z_eq, z_le, z_lt, z_nn_lt, z_nn_le, z_nn_ge, z_nn_gt, z_nn_eq, z_nn_eq2, z_bit, z_wow, z_wo, z_or, z_shl, z_if, z_ifn, fbit, if_true, if_false, Nat.zero_add, Nat.add_zero, not_false_iff, not_true, c1, d1, z_bx2l]
      · unfold fX6_burn jX6_burn_19 fX6_fails
        simp (disch := omega) only [z_nn2, z0, z1, z2, z3, z4, z5, z6, z7, z8, z9, z10, z11, z12, z13, z14, z15, z16, z17, z18, z19, z20, z23, z24, z28, z31, z32, z33, z45, z46, z47, z48, z52, z57, z60, z63, z65, z70, z80, z95, z100, z126, z127, z128, z200, z240, z255, z400, z480, z500, z840, z1023, z2000, z99999, z1073741824, z_nn, z_add, z_sub, z_mul, z_div, z_rem, z_cl, z_in, z_chk, z_chkp, z_bnd, z_bn2, z_wth, z_bxr, z_bxl, z_bx2r, z_bx2l, z_bz0, z_bz1, z_mx, z_mn, z_tb1, z_tb0, z_eq, z_le, z_lt, z_nn_lt, z_nn_le, z_nn_ge, z_nn_gt, z_nn_eq, z_nn_eq2, z_bit, z_wow, z_wo, z_or, z_shl, z_if, z_ifn, fbit, if_true, if_false, Nat.zero_add, Nat.add_zero, not_false_iff, not_true, c2, d2]
        exact xthr h
    · obtain ⟨d1, d2⟩ := cSeg_ok hk
      have w := hg.1
      have hbu := w.burnt hi
      have h2 : 2 ^ k < 2 ^ 8 := Nat.pow_lt_pow_right (by decide) hk
      have hb2 : A (11 + 4 * i) ^^^ 2 ^ k < 256 := Nat.xor_lt_two_pow (n := 8) hbu h2
      have w1 := WF_up w (k := 11 + 4 * i) (v := A (11 + 4 * i) ^^^ 2 ^ k) (Or.inr (Or.inr (Or.inr (Or.inr (Or.inr (Or.inr (Or.inr (Or.inl ⟨i, hi, rfl, hb2⟩))))))))
      have wp1 : WP (upq A (11 + 4 * i) (A (11 + 4 * i) ^^^ 2 ^ k)) := WP_cg hg.2.1 (up_ne (by omega)) (up_ne (by omega)) (fun j hj => up_ne (by omega))
      refine ok_ret hr (r := nI (tbq (A (11 + 4 * i) ^^^ 2 ^ k) k)) ?_ (fun m h => ?_) (GV_push hg w1 wp1)
      · obtain ⟨m1, a1, a2, a3, -, -, a4⟩ := save_mod hc hg.2.2.1 hg.2.2.2.1
        have cd : CS 0 (upq A (11 + 4 * i) (A (11 + 4 * i) ^^^ 2 ^ k)) (si m1 2 0 i (nI (A (11 + 4 * i) ^^^ 2 ^ k))) := CS_burnt a2 hi
        obtain ⟨b1, b2⟩ := a4 _ _ (Frq.si rfl) cd
        refine ⟨_, ?_, b1, b2⟩
        unfold fL_burn fX5_burn
        simp (disch := omega) only [z_nn2, z0, z1, z2, z3, z4, z5, z6, z7, z8, z9, z10, z11, z12, z13, z14, z15, z16, z17, z18, z19, z20, z23, z24, z28, z31, z32, z33, z45, z46, z47, z48, z52, z57, z60, z63, z65, z70, z80, z95, z100, z126, z127, z128, z200, z240, z255, z400, z480, z500, z840, z1023, z2000, z99999, z1073741824, z_nn, z_add, z_sub, z_mul, z_div, z_rem, z_cl, z_in, z_chk, z_chkp, z_bnd, z_bn2, z_wth, z_bxr, z_bxl, z_bx2r, z_bx2l, z_bz0, z_bz1, z_mx, z_mn, z_tb1, z_tb0, z_eq, z_le, z_lt, z_nn_lt, z_nn_le, z_nn_ge, z_nn_gt, z_nn_eq, z_nn_eq2, z_bit, z_wow, z_wo, z_or, z_shl, z_if, z_ifn, fbit, if_true, if_false, Nat.zero_add, Nat.add_zero, not_false_iff, not_true, z_xor, c1, d1, a1, a2.burnt, cd.burnt, up_eq]
      · obtain ⟨m1, a1, a2, a3, a4, a5, a6⟩ := saves_mod (h.th (v := nI 0)) hg.2.2.1
        have rm : RMq (upq A (11 + 4 * i) (A (11 + 4 * i) ^^^ 2 ^ k)) (si m1 22 0 (11 + 4 * i) (nI (A (11 + 4 * i) ^^^ 2 ^ k))) := RM_up a2
        refine ⟨_, ?_, a6 _ _ (fun c j _ _ hne => by rw [gi_si, if_neg (fun z => hne z.1)]) rm, ((FRe.si (by decide)).tr a3).tr (FRe.si (by decide)), ?_⟩
        · unfold fX6_burn fX6_lay
          simp (disch := omega) only [z_nn2, z0, z1, z2, z3, z4, z5, z6, z7, z8, z9, z10, z11, z12, z13, z14, z15, z16, z17, z18, z19, z20, z23, z24, z28, z31, z32, z33, z45, z46, z47, z48, z52, z57, z60, z63, z65, z70, z80, z95, z100, z126, z127, z128, z200, z240, z255, z400, z480, z500, z840, z1023, z2000, z99999, z1073741824, z_nn, z_add, z_sub, z_mul, z_div, z_rem, z_cl, z_in, z_chk, z_chkp, z_bnd, z_bn2, z_wth, z_bxr, z_bxl, z_bx2r, z_bx2l, z_bz0, z_bz1, z_mx, z_mn, z_tb1, z_tb0, z_eq, z_le, z_lt, z_nn_lt, z_nn_le, z_nn_ge, z_nn_gt, z_nn_eq, z_nn_eq2, z_bit, z_wow, z_wo, z_or, z_shl, z_if, z_ifn, fbit, if_true, if_false, Nat.zero_add, Nat.add_zero, not_false_iff, not_true, z_xor, c2, d2, a1, fof a2, show 8 + 4 * i + 3 = 11 + 4 * i by omega, fof rm, up_eq]
        · rw [gi_si, if_neg (fun z => by omega), a4 0 (by decide), gi_si, if_pos ⟨rfl, rfl, rfl⟩]
theorem op_cut {x1 : Int32} {m : gM} (hi : HIq m) : Okq (fL_cut x1 m) (fX6_cut x1) := by
  obtain ⟨A, n, p, Sv, Sn, K, B, L, hg, hc, hr⟩ := hi
  rcases ixZ x1 (n := 8) (by decide) with hb | ⟨k, hk, rfl⟩
  · obtain ⟨c1, c2⟩ := cSeg_bad hb
    refine ok_thr hr (k := nI 1) (nI_ne (by decide) (by decide)) ⟨m, ?_, hc, FCq.rf⟩ (fun m h => ?_) hg
    · unfold fL_cut fX5_cut
      simp (disch := omega) only [z_nn2, z0, z1, z2, z3, z4, z5, z6, z7, z8, z9, z10, z11, z12, z13, z14, z15, z16, z17, z18, z19, z20, z23, z24, z28, z31, z32, z33, z45, z46, z47, z48, z52, z57, z60, z63, z65, z70, z80, z95, z100, z126, z127, z128, z200, z240, z255, z400, z480, z500, z840, z1023, z2000, z99999, z1073741824, z_nn, z_add, z_sub, z_mul, z_div, z_rem, z_cl, z_in, z_chk, z_chkp, z_bnd, z_bn2, z_wth, z_bxr, z_bxl, z_bx2r, z_bx2l, z_bz0, z_bz1, z_mx, z_mn, z_tb1, z_tb0, z_eq, z_le, z_lt, z_nn_lt, z_nn_le, z_nn_ge, z_nn_gt, z_nn_eq, z_nn_eq2, z_bit, z_wow, z_wo, z_or, z_shl, z_if, z_ifn, fbit, if_true, if_false, Nat.zero_add, Nat.add_zero, not_false_iff, not_true, c1, z_bx2l]
    · unfold fX6_cut fX6_fails
      simp (disch := omega) only [z_nn2, z0, z1, z2, z3, z4, z5, z6, z7, z8, z9, z10, z11, z12, z13, z14, z15, z16, z17, z18, z19, z20, z23, z24, z28, z31, z32, z33, z45, z46, z47, z48, z52, z57, z60, z63, z65, z70, z80, z95, z100, z126, z127, z128, z200, z240, z255, z400, z480, z500, z840, z1023, z2000, z99999, z1073741824, z_nn, z_add, z_sub, z_mul, z_div, z_rem, z_cl, z_in, z_chk, z_chkp, z_bnd, z_bn2, z_wth, z_bxr, z_bxl, z_bx2r, z_bx2l, z_bz0, z_bz1, z_mx, z_mn, z_tb1, z_tb0, z_eq, z_le, z_lt, z_nn_lt, z_nn_le, z_nn_ge, z_nn_gt, z_nn_eq, z_nn_eq2, z_bit, z_wow, z_wo, z_or, z_shl, z_if, z_ifn, fbit, if_true, if_false, Nat.zero_add, Nat.add_zero, not_false_iff, not_true, c2]
      exact xthr h
  · obtain ⟨d1, d2⟩ := cSeg_ok hk
    have w := hg.1
    have hbu := w.wd.2.2.2.2.2.2.2.1
    have h2 : 2 ^ k < 2 ^ 8 := Nat.pow_lt_pow_right (by decide) hk
    have hb2 : A 4 ^^^ 2 ^ k < 256 := Nat.xor_lt_two_pow (n := 8) hbu h2
    have w1 := WF_up w (k := 4) (v := A 4 ^^^ 2 ^ k) (Or.inl ⟨rfl, hb2⟩)
    have wp1 : WP (upq A 4 (A 4 ^^^ 2 ^ k)) := WP_cg hg.2.1 (up_ne (by omega)) (up_ne (by omega)) (fun j hj => up_ne (by omega))
    refine ok_ret hr (r := nI (tbq (A 4 ^^^ 2 ^ k) k)) ?_ (fun m h => ?_) (GV_push hg w1 wp1)
    · obtain ⟨m1, a1, a2, a3, -, -, a4⟩ := save_mod hc hg.2.2.1 hg.2.2.2.1
      have cd : CS 0 (upq A 4 (A 4 ^^^ 2 ^ k)) (si m1 0 0 6 (nI (A 4 ^^^ 2 ^ k))) := CS_num a2 (k := 4) (by decide) (by decide)
      obtain ⟨b1, b2⟩ := a4 _ _ (Frq.si rfl) cd
      refine ⟨_, ?_, b1, b2⟩
      unfold fL_cut fX5_cut
      simp (disch := omega) only [z_nn2, z0, z1, z2, z3, z4, z5, z6, z7, z8, z9, z10, z11, z12, z13, z14, z15, z16, z17, z18, z19, z20, z23, z24, z28, z31, z32, z33, z45, z46, z47, z48, z52, z57, z60, z63, z65, z70, z80, z95, z100, z126, z127, z128, z200, z240, z255, z400, z480, z500, z840, z1023, z2000, z99999, z1073741824, z_nn, z_add, z_sub, z_mul, z_div, z_rem, z_cl, z_in, z_chk, z_chkp, z_bnd, z_bn2, z_wth, z_bxr, z_bxl, z_bx2r, z_bx2l, z_bz0, z_bz1, z_mx, z_mn, z_tb1, z_tb0, z_eq, z_le, z_lt, z_nn_lt, z_nn_le, z_nn_ge, z_nn_gt, z_nn_eq, z_nn_eq2, z_bit, z_wow, z_wo, z_or, z_shl, z_if, z_ifn, fbit, if_true, if_false, Nat.zero_add, Nat.add_zero, not_false_iff, not_true, z_xor, d1, a1, a2.cut, cd.cut, up_eq]
    · obtain ⟨m1, a1, a2, a3, a4, a5, a6⟩ := saves_mod (h.th (v := nI 0)) hg.2.2.1
      have rm : RMq (upq A 4 (A 4 ^^^ 2 ^ k)) (si m1 22 0 4 (nI (A 4 ^^^ 2 ^ k))) := RM_up a2
      refine ⟨_, ?_, a6 _ _ (fun c j _ _ hne => by rw [gi_si, if_neg (fun z => hne z.1)]) rm, ((FRe.si (by decide)).tr a3).tr (FRe.si (by decide)), ?_⟩
      · unfold fX6_cut
        simp (disch := omega) only [z_nn2, z0, z1, z2, z3, z4, z5, z6, z7, z8, z9, z10, z11, z12, z13, z14, z15, z16, z17, z18, z19, z20, z23, z24, z28, z31, z32, z33, z45, z46, z47, z48, z52, z57, z60, z63, z65, z70, z80, z95, z100, z126, z127, z128, z200, z240, z255, z400, z480, z500, z840, z1023, z2000, z99999, z1073741824, z_nn, z_add, z_sub, z_mul, z_div, z_rem, z_cl, z_in, z_chk, z_chkp, z_bnd, z_bn2, z_wth, z_bxr, z_bxl, z_bx2r, z_bx2l, z_bz0, z_bz1, z_mx, z_mn, z_tb1, z_tb0, z_eq, z_le, z_lt, z_nn_lt, z_nn_le, z_nn_ge, z_nn_gt, z_nn_eq, z_nn_eq2, z_bit, z_wow, z_wo, z_or, z_shl, z_if, z_ifn, fbit, if_true, if_false, Nat.zero_add, Nat.add_zero, not_false_iff, not_true, z_xor, d2, a1, a2 4, rm 4, up_eq]
      · rw [gi_si, if_neg (fun z => by omega), a4 0 (by decide), gi_si, if_pos ⟨rfl, rfl, rfl⟩]
theorem op_time {x1 x2 : Int32} {m : gM} (hi : HIq m) : Okq (fL_time x1 x2 m) (fX6_time x1 x2) := by
  obtain ⟨A, n, p, Sv, Sn, K, B, L, hg, hc, hr⟩ := hi
  rcases ixZ x1 (n := 6) (by decide) with hb | ⟨i, hi, rfl⟩
  · obtain ⟨c1, c2⟩ := cSlot_bad hb
    refine ok_thr hr (k := nI 1) (nI_ne (by decide) (by decide)) ⟨m, ?_, hc, FCq.rf⟩ (fun m h => ?_) hg
    · unfold fL_time fX5_time
      simp (disch := omega) only [z_nn2, z0, z1, z2, z3, z4, z5, z6, z7, z8, z9, z10, z11, z12, z13, z14, z15, z16, z17, z18, z19, z20, z23, z24, z28, z31, z32, z33, z45, z46, z47, z48, z52, z57, z60, z63, z65, z70, z80, z95, z100, z126, z127, z128, z200, z240, z255, z400, z480, z500, z840, z1023, z2000, z99999, z1073741824, z_nn, z_add, z_sub, z_mul, z_div, z_rem, z_cl, z_in, z_chk, z_chkp, z_bnd, z_bn2, z_wth, z_bxr, z_bxl, z_bx2r, z_bx2l, z_bz0, z_bz1, z_mx, z_mn, z_tb1, z_tb0, z_eq, z_le, z_lt, z_nn_lt, z_nn_le, z_nn_ge, z_nn_gt, z_nn_eq, z_nn_eq2, z_bit, z_wow, z_wo, z_or, z_shl, z_if, z_ifn, fbit, if_true, if_false, Nat.zero_add, Nat.add_zero, not_false_iff, not_true, c1, z_bx2l]
    · unfold fX6_time fX6_fails
      simp (disch := omega) only [z_nn2, z0, z1, z2, z3, z4, z5, z6, z7, z8, z9, z10, z11, z12, z13, z14, z15, z16, z17, z18, z19, z20, z23, z24, z28, z31, z32, z33, z45, z46, z47, z48, z52, z57, z60, z63, z65, z70, z80, z95, z100, z126, z127, z128, z200, z240, z255, z400, z480, z500, z840, z1023, z2000, z99999, z1073741824, z_nn, z_add, z_sub, z_mul, z_div, z_rem, z_cl, z_in, z_chk, z_chkp, z_bnd, z_bn2, z_wth, z_bxr, z_bxl, z_bx2r, z_bx2l, z_bz0, z_bz1, z_mx, z_mn, z_tb1, z_tb0, z_eq, z_le, z_lt, z_nn_lt, z_nn_le, z_nn_ge, z_nn_gt, z_nn_eq, z_nn_eq2, z_bit, z_wow, z_wo, z_or, z_shl, z_if, z_ifn, fbit, if_true, if_false, Nat.zero_add, Nat.add_zero, not_false_iff, not_true, c2]
      exact xthr h
  · obtain ⟨c1, c2⟩ := cSlot_ok hi
    rcases ixZ x2 (n := 21) (by decide) with hb | ⟨v, hv, rfl⟩
    · obtain ⟨d1, d2⟩ := cTime_bad hb
      refine ok_thr hr (k := nI 2) (nI_ne (by decide) (by decide)) ⟨m, ?_, hc, FCq.rf⟩ (fun m h => ?_) hg
      · unfold fL_time fX5_time
        simp (disch := omega) only [z_nn2, z0, z1, z2, z3, z4, z5, z6, z7, z8, z9, z10, z11, z12, z13, z14, z15, z16, z17, z18, z19, z20, z23, z24, z28, z31, z32, z33, z45, z46, z47, z48, z52, z57, z60, z63, z65, z70, z80, z95, z100, z126, z127, z128, z200, z240, z255, z400, z480, z500, z840, z1023, z2000, z99999, z1073741824, z_nn, z_add, z_sub, z_mul, z_div, z_rem, z_cl, z_in, z_chk, z_chkp, z_bnd, z_bn2, z_wth, z_bxr, z_bxl, z_bx2r, z_bx2l, z_bz0, z_bz1, z_mx, z_mn, z_tb1, z_tb0, z_eq, z_le, z_lt, z_nn_lt, z_nn_le, z_nn_ge, z_nn_gt, z_nn_eq, z_nn_eq2, z_bit, z_wow, z_wo, z_or, z_shl, z_if, z_ifn, fbit, if_true, if_false, Nat.zero_add, Nat.add_zero, not_false_iff, not_true, c1, d1, z_bx2l]
        rfl
      · unfold fX6_time fX6_fails
        simp (disch := omega) only [z_nn2, z0, z1, z2, z3, z4, z5, z6, z7, z8, z9, z10, z11, z12, z13, z14, z15, z16, z17, z18, z19, z20, z23, z24, z28, z31, z32, z33, z45, z46, z47, z48, z52, z57, z60, z63, z65, z70, z80, z95, z100, z126, z127, z128, z200, z240, z255, z400, z480, z500, z840, z1023, z2000, z99999, z1073741824, z_nn, z_add, z_sub, z_mul, z_div, z_rem, z_cl, z_in, z_chk, z_chkp, z_bnd, z_bn2, z_wth, z_bxr, z_bxl, z_bx2r, z_bx2l, z_bz0, z_bz1, z_mx, z_mn, z_tb1, z_tb0, z_eq, z_le, z_lt, z_nn_lt, z_nn_le, z_nn_ge, z_nn_gt, z_nn_eq, z_nn_eq2, z_bit, z_wow, z_wo, z_or, z_shl, z_if, z_ifn, fbit, if_true, if_false, Nat.zero_add, Nat.add_zero, not_false_iff, not_true, c2, d2]
        exact xthr h
    · obtain ⟨d1, d2⟩ := cTime_ok hv
      have w := hg.1
      have w1 := WF_up (WF_time w hi (show v ≤ 20 by omega)) (k := 6) (v := 0) (Or.inr (Or.inr (Or.inl ⟨rfl, by decide⟩)))
      have wp1 : WP (upq (upq A (10 + 4 * i) v) 6 0) := Or.inl (up_eq rfl)
      refine ok_ret hr (r := nI (A (10 + 4 * i))) ?_ (fun m h => ?_) (GV_push hg w1 wp1)
      · obtain ⟨m1, a1, a2, a3, -, -, a4⟩ := save_mod hc hg.2.2.1 hg.2.2.2.1
        have cd : CS 0 (upq (upq A (10 + 4 * i) v) 6 0) (si (si m1 3 0 i (nI v)) 0 0 8 (nI 0)) := CS_num (CS_time a2 hi) (k := 6) (by decide) (by decide)
        obtain ⟨b1, b2⟩ := a4 _ _ ((Frq.si rfl).tr (Frq.si rfl)) cd
        refine ⟨_, ?_, b1, b2⟩
        unfold fL_time fX5_time
        simp (disch := omega) only [z_nn2, z0, z1, z2, z3, z4, z5, z6, z7, z8, z9, z10, z11, z12, z13, z14, z15, z16, z17, z18, z19, z20, z23, z24, z28, z31, z32, z33, z45, z46, z47, z48, z52, z57, z60, z63, z65, z70, z80, z95, z100, z126, z127, z128, z200, z240, z255, z400, z480, z500, z840, z1023, z2000, z99999, z1073741824, z_nn, z_add, z_sub, z_mul, z_div, z_rem, z_cl, z_in, z_chk, z_chkp, z_bnd, z_bn2, z_wth, z_bxr, z_bxl, z_bx2r, z_bx2l, z_bz0, z_bz1, z_mx, z_mn, z_tb1, z_tb0, z_eq, z_le, z_lt, z_nn_lt, z_nn_le, z_nn_ge, z_nn_gt, z_nn_eq, z_nn_eq2, z_bit, z_wow, z_wo, z_or, z_shl, z_if, z_ifn, fbit, if_true, if_false, Nat.zero_add, Nat.add_zero, not_false_iff, not_true, c1, d1, a1, a2.time]
      · obtain ⟨m1, a1, a2, a3, a4, a5, a6⟩ := saves_mod (h.th (v := nI 0)) hg.2.2.1
        have rm : RMq (upq (upq A (10 + 4 * i) v) 6 0) (si (si m1 22 0 (10 + 4 * i) (nI v)) 22 0 6 (nI 0)) := RM_up (RM_up a2)
        refine ⟨_, ?_, a6 _ _ (fun c j _ _ hne => by rw [gi_si, if_neg (fun z => hne z.1), gi_si, if_neg (fun z => hne z.1)]) rm, (((FRe.si (by decide)).tr a3).tr (FRe.si (by decide))).tr (FRe.si (by decide)), ?_⟩
        · unfold fX6_time fX6_lay
          simp (disch := omega) only [z_nn2, z0, z1, z2, z3, z4, z5, z6, z7, z8, z9, z10, z11, z12, z13, z14, z15, z16, z17, z18, z19, z20, z23, z24, z28, z31, z32, z33, z45, z46, z47, z48, z52, z57, z60, z63, z65, z70, z80, z95, z100, z126, z127, z128, z200, z240, z255, z400, z480, z500, z840, z1023, z2000, z99999, z1073741824, z_nn, z_add, z_sub, z_mul, z_div, z_rem, z_cl, z_in, z_chk, z_chkp, z_bnd, z_bn2, z_wth, z_bxr, z_bxl, z_bx2r, z_bx2l, z_bz0, z_bz1, z_mx, z_mn, z_tb1, z_tb0, z_eq, z_le, z_lt, z_nn_lt, z_nn_le, z_nn_ge, z_nn_gt, z_nn_eq, z_nn_eq2, z_bit, z_wow, z_wo, z_or, z_shl, z_if, z_ifn, fbit, if_true, if_false, Nat.zero_add, Nat.add_zero, not_false_iff, not_true, c2, d2, a1, fof a2, show 8 + 4 * i + 2 = 10 + 4 * i by omega]
        · rw [gi_si, if_neg (fun z => by omega), gi_si, if_neg (fun z => by omega), a4 0 (by decide), gi_si, if_pos ⟨rfl, rfl, rfl⟩]
theorem op_set {x1 x2 : Int32} {m : gM} (hi : HIq m) : Okq (fL_set x1 x2 m) (fX6_set x1 x2) := by
  obtain ⟨A, n, p, Sv, Sn, K, B, L, hg, hc, hr⟩ := hi
  rcases ixZ x1 (n := 4) (by decide) with hb | ⟨i, hi, rfl⟩
  · obtain ⟨c1, c2⟩ := cSet_bad hb
    refine ok_thr hr (k := nI 1) (nI_ne (by decide) (by decide)) ⟨m, ?_, hc, FCq.rf⟩ (fun m h => ?_) hg
    · unfold fL_set fX5_set
      simp (disch := omega) only [z_nn2, z0, z1, z2, z3, z4, z5, z6, z7, z8, z9, z10, z11, z12, z13, z14, z15, z16, z17, z18, z19, z20, z23, z24, z28, z31, z32, z33, z45, z46, z47, z48, z52, z57, z60, z63, z65, z70, z80, z95, z100, z126, z127, z128, z200, z240, z255, z400, z480, z500, z840, z1023, z2000, z99999, z1073741824, z_nn, z_add, z_sub, z_mul, z_div, z_rem, z_cl, z_in, z_chk, z_chkp, z_bnd, z_bn2, z_wth, z_bxr, z_bxl, z_bx2r, z_bx2l, z_bz0, z_bz1, z_mx, z_mn, z_tb1, z_tb0, z_eq, z_le, z_lt, z_nn_lt, z_nn_le, z_nn_ge, z_nn_gt, z_nn_eq, z_nn_eq2, z_bit, z_wow, z_wo, z_or, z_shl, z_if, z_ifn, fbit, if_true, if_false, Nat.zero_add, Nat.add_zero, not_false_iff, not_true, c1, z_bx2l]
    · unfold fX6_set fX6_fails
      simp (disch := omega) only [z_nn2, z0, z1, z2, z3, z4, z5, z6, z7, z8, z9, z10, z11, z12, z13, z14, z15, z16, z17, z18, z19, z20, z23, z24, z28, z31, z32, z33, z45, z46, z47, z48, z52, z57, z60, z63, z65, z70, z80, z95, z100, z126, z127, z128, z200, z240, z255, z400, z480, z500, z840, z1023, z2000, z99999, z1073741824, z_nn, z_add, z_sub, z_mul, z_div, z_rem, z_cl, z_in, z_chk, z_chkp, z_bnd, z_bn2, z_wth, z_bxr, z_bxl, z_bx2r, z_bx2l, z_bz0, z_bz1, z_mx, z_mn, z_tb1, z_tb0, z_eq, z_le, z_lt, z_nn_lt, z_nn_le, z_nn_ge, z_nn_gt, z_nn_eq, z_nn_eq2, z_bit, z_wow, z_wo, z_or, z_shl, z_if, z_ifn, fbit, if_true, if_false, Nat.zero_add, Nat.add_zero, not_false_iff, not_true, c2]
      exact xthr h
  · obtain ⟨c1, c2⟩ := cSet_ok hi
    have main : ∀ lo hi2 : Nat, lo ≤ 1 → hi2 ≤ 2000 → tS2 i = nI lo → tS3 i = nI hi2 → (∀ v, lo ≤ v → v ≤ hi2 → WF (upq A i v)) → (∀ m, fX6_set (nI i) x2 m = wth (si m 21 0 0 0) (fun m1 => jX6_set_63 (nI i) x2 (nI hi2) x2 (nI lo) m1)) → Okq (fL_set (nI i) x2 m) (fX6_set (nI i) x2) := by
      intro lo hi2 hlo hhi t2 t3 hw h6
      by_cases cb : x2.toInt < (lo : Int) ∨ (hi2 : Int) < x2.toInt
      · have e2 := in_bad (x := x2) (a := lo) (b := hi2) (by omega) (by omega) cb
        refine ok_thr hr (k := nI 2) (nI_ne (by decide) (by decide)) ⟨m, ?_, hc, FCq.rf⟩ (fun m h => ?_) hg
        · unfold fL_set fX5_set jX5_set_22
          by_cases cb2 : x2.toInt < (lo : Int)
          · simp (disch := omega) only [z_nn2, z0, z1, z2, z3, z4, z5, z6, z7, z8, z9, z10, z11, z12, z13, z14, z15, z16, z17, z18, z19, z20, z23, z24, z28, z31, z32, z33, z45, z46, z47, z48, z52, z57, z60, z63, z65, z70, z80, z95, z100, z126, z127, z128, z200, z240, z255, z400, z480, z500, z840, z1023, z2000, z99999, z1073741824, z_nn, z_add, z_sub, z_mul, z_div, z_rem, z_cl, z_in, z_chk, z_chkp, z_bnd, z_bn2, z_wth, z_bxr, z_bxl, z_bx2r, z_bx2l, z_bz0, z_bz1, z_mx, z_mn, z_tb1, z_tb0, z_eq, z_le, z_lt, z_nn_lt, z_nn_le, z_nn_ge, z_nn_gt, z_nn_eq, z_nn_eq2, z_bit, z_wow, z_wo, z_or, z_shl, z_if, z_ifn, fbit, if_true, if_false, Nat.zero_add, Nat.add_zero, not_false_iff, not_true, c1, t2, t3, zx_lt1, zx_le1]
            rfl
          · have cb3 : (hi2 : Int) < x2.toInt := by omega
            simp (disch := omega) only [z_nn2, z0, z1, z2, z3, z4, z5, z6, z7, z8, z9, z10, z11, z12, z13, z14, z15, z16, z17, z18, z19, z20, z23, z24, z28, z31, z32, z33, z45, z46, z47, z48, z52, z57, z60, z63, z65, z70, z80, z95, z100, z126, z127, z128, z200, z240, z255, z400, z480, z500, z840, z1023, z2000, z99999, z1073741824, z_nn, z_add, z_sub, z_mul, z_div, z_rem, z_cl, z_in, z_chk, z_chkp, z_bnd, z_bn2, z_wth, z_bxr, z_bxl, z_bx2r, z_bx2l, z_bz0, z_bz1, z_mx, z_mn, z_tb1, z_tb0, z_eq, z_le, z_lt, z_nn_lt, z_nn_le, z_nn_ge, z_nn_gt, z_nn_eq, z_nn_eq2, z_bit, z_wow, z_wo, z_or, z_shl, z_if, z_ifn, fbit, if_true, if_false, Nat.zero_add, Nat.add_zero, not_false_iff, not_true, c1, t2, t3, zx_lt1, zx_le1]
            rfl
        · rw [h6]
          unfold jX6_set_63 fX6_fails
          simp (disch := omega) only [z_nn2, z0, z1, z2, z3, z4, z5, z6, z7, z8, z9, z10, z11, z12, z13, z14, z15, z16, z17, z18, z19, z20, z23, z24, z28, z31, z32, z33, z45, z46, z47, z48, z52, z57, z60, z63, z65, z70, z80, z95, z100, z126, z127, z128, z200, z240, z255, z400, z480, z500, z840, z1023, z2000, z99999, z1073741824, z_nn, z_add, z_sub, z_mul, z_div, z_rem, z_cl, z_in, z_chk, z_chkp, z_bnd, z_bn2, z_wth, z_bxr, z_bxl, z_bx2r, z_bx2l, z_bz0, z_bz1, z_mx, z_mn, z_tb1, z_tb0, z_eq, z_le, z_lt, z_nn_lt, z_nn_le, z_nn_ge, z_nn_gt, z_nn_eq, z_nn_eq2, z_bit, z_wow, z_wo, z_or, z_shl, z_if, z_ifn, fbit, if_true, if_false, Nat.zero_add, Nat.add_zero, not_false_iff, not_true, e2]
          exact xthr h
      · have e2 := in_ok (x := x2) (a := lo) (b := hi2) (by omega) (by omega) (by omega) (by omega)
        obtain ⟨v, hv, rfl⟩ : ∃ v, v < 2001 ∧ x2 = nI v := by
          rcases ixZ x2 (n := 2001) (by decide) with z | z
          · exfalso
            have h1 : (0 : Int) ≤ lo := Int.natCast_nonneg _
            omega
          · exact z
        rw [nI_toInt (by omega)] at cb
        have w := hg.1
        have w1 := WF_up (hw v (by omega) (by omega)) (k := 6) (v := 0) (Or.inr (Or.inr (Or.inl ⟨rfl, by decide⟩)))
        have wp1 : WP (upq (upq A i v) 6 0) := Or.inl (up_eq rfl)
        refine ok_ret hr (r := nI (A i)) ?_ (fun m h => ?_) (GV_push hg w1 wp1)
        · obtain ⟨m1, a1, a2, a3, -, -, a4⟩ := save_mod hc hg.2.2.1 hg.2.2.2.1
          have cd : CS 0 (upq (upq A i v) 6 0) (si (si m1 5 0 i (nI v)) 0 0 8 (nI 0)) := CS_num (CS_set a2 hi) (k := 6) (by decide) (by decide)
          obtain ⟨b1, b2⟩ := a4 _ _ ((Frq.si rfl).tr (Frq.si rfl)) cd
          refine ⟨_, ?_, b1, b2⟩
          unfold fL_set fX5_set
          simp (disch := omega) only [z_nn2, z0, z1, z2, z3, z4, z5, z6, z7, z8, z9, z10, z11, z12, z13, z14, z15, z16, z17, z18, z19, z20, z23, z24, z28, z31, z32, z33, z45, z46, z47, z48, z52, z57, z60, z63, z65, z70, z80, z95, z100, z126, z127, z128, z200, z240, z255, z400, z480, z500, z840, z1023, z2000, z99999, z1073741824, z_nn, z_add, z_sub, z_mul, z_div, z_rem, z_cl, z_in, z_chk, z_chkp, z_bnd, z_bn2, z_wth, z_bxr, z_bxl, z_bx2r, z_bx2l, z_bz0, z_bz1, z_mx, z_mn, z_tb1, z_tb0, z_eq, z_le, z_lt, z_nn_lt, z_nn_le, z_nn_ge, z_nn_gt, z_nn_eq, z_nn_eq2, z_bit, z_wow, z_wo, z_or, z_shl, z_if, z_ifn, fbit, if_true, if_false, Nat.zero_add, Nat.add_zero, not_false_iff, not_true, c1, a1, a2.set, t2, t3]
        · obtain ⟨m1, a1, a2, a3, a4, a5, a6⟩ := saves_mod (h.th (v := nI 0)) hg.2.2.1
          have rm : RMq (upq (upq A i v) 6 0) (si (si m1 22 0 i (nI v)) 22 0 6 (nI 0)) := RM_up (RM_up a2)
          refine ⟨_, ?_, a6 _ _ (fun c j _ _ hne => by rw [gi_si, if_neg (fun z => hne z.1), gi_si, if_neg (fun z => hne z.1)]) rm, (((FRe.si (by decide)).tr a3).tr (FRe.si (by decide))).tr (FRe.si (by decide)), ?_⟩
          · rw [h6]
            unfold jX6_set_63
            simp (disch := omega) only [z_nn2, z0, z1, z2, z3, z4, z5, z6, z7, z8, z9, z10, z11, z12, z13, z14, z15, z16, z17, z18, z19, z20, z23, z24, z28, z31, z32, z33, z45, z46, z47, z48, z52, z57, z60, z63, z65, z70, z80, z95, z100, z126, z127, z128, z200, z240, z255, z400, z480, z500, z840, z1023, z2000, z99999, z1073741824, z_nn, z_add, z_sub, z_mul, z_div, z_rem, z_cl, z_in, z_chk, z_chkp, z_bnd, z_bn2, z_wth, z_bxr, z_bxl, z_bx2r, z_bx2l, z_bz0, z_bz1, z_mx, z_mn, z_tb1, z_tb0, z_eq, z_le, z_lt, z_nn_lt, z_nn_le, z_nn_ge, z_nn_gt, z_nn_eq, z_nn_eq2, z_bit, z_wow, z_wo, z_or, z_shl, z_if, z_ifn, fbit, if_true, if_false, Nat.zero_add, Nat.add_zero, not_false_iff, not_true, e2, a1, a2 i]
          · rw [gi_si, if_neg (fun z => by omega), gi_si, if_neg (fun z => by omega), a4 0 (by decide), gi_si, if_pos ⟨rfl, rfl, rfl⟩]
    have w := hg.1
    rcases (show i = 0 ∨ i = 1 ∨ i = 2 ∨ i = 3 by omega) with rfl | rfl | rfl | rfl
    · exact main 0 3 (by decide) (by decide) (by decide) (by decide) (fun v h1 h2 => WF_up w (by omega)) (fun m => by unfold fX6_set jX6_set_52; simp (disch := omega) only [z_nn2, z0, z1, z2, z3, z4, z5, z6, z7, z8, z9, z10, z11, z12, z13, z14, z15, z16, z17, z18, z19, z20, z23, z24, z28, z31, z32, z33, z45, z46, z47, z48, z52, z57, z60, z63, z65, z70, z80, z95, z100, z126, z127, z128, z200, z240, z255, z400, z480, z500, z840, z1023, z2000, z99999, z1073741824, z_nn, z_add, z_sub, z_mul, z_div, z_rem, z_cl, z_in, z_chk, z_chkp, z_bnd, z_bn2, z_wth, z_bxr, z_bxl, z_bx2r, z_bx2l, z_bz0, z_bz1, z_mx, z_mn, z_tb1, z_tb0, z_eq, z_le, z_lt, z_nn_lt, z_nn_le, z_nn_ge, z_nn_gt, z_nn_eq, z_nn_eq2, z_bit, z_wow, z_wo, z_or, z_shl, z_if, z_ifn, fbit, if_true, if_false, Nat.zero_add, Nat.add_zero, not_false_iff, not_true, c2])
    · exact main 1 2000 (by decide) (by decide) (by decide) (by decide) (fun v h1 h2 => WF_up w (by omega)) (fun m => by unfold fX6_set jX6_set_52; simp (disch := omega) only [z_nn2, z0, z1, z2, z3, z4, z5, z6, z7, z8, z9, z10, z11, z12, z13, z14, z15, z16, z17, z18, z19, z20, z23, z24, z28, z31, z32, z33, z45, z46, z47, z48, z52, z57, z60, z63, z65, z70, z80, z95, z100, z126, z127, z128, z200, z240, z255, z400, z480, z500, z840, z1023, z2000, z99999, z1073741824, z_nn, z_add, z_sub, z_mul, z_div, z_rem, z_cl, z_in, z_chk, z_chkp, z_bnd, z_bn2, z_wth, z_bxr, z_bxl, z_bx2r, z_bx2l, z_bz0, z_bz1, z_mx, z_mn, z_tb1, z_tb0, z_eq, z_le, z_lt, z_nn_lt, z_nn_le, z_nn_ge, z_nn_gt, z_nn_eq, z_nn_eq2, z_bit, z_wow, z_wo, z_or, z_shl, z_if, z_ifn, fbit, if_true, if_false, Nat.zero_add, Nat.add_zero, not_false_iff, not_true, c2])
    · exact main 1 16 (by decide) (by decide) (by decide) (by decide) (fun v h1 h2 => WF_up w (by omega)) (fun m => by unfold fX6_set jX6_set_52; simp (disch := omega) only [z_nn2, z0, z1, z2, z3, z4, z5, z6, z7, z8, z9, z10, z11, z12, z13, z14, z15, z16, z17, z18, z19, z20, z23, z24, z28, z31, z32, z33, z45, z46, z47, z48, z52, z57, z60, z63, z65, z70, z80, z95, z100, z126, z127, z128, z200, z240, z255, z400, z480, z500, z840, z1023, z2000, z99999, z1073741824, z_nn, z_add, z_sub, z_mul, z_div, z_rem, z_cl, z_in, z_chk, z_chkp, z_bnd, z_bn2, z_wth, z_bxr, z_bxl, z_bx2r, z_bx2l, z_bz0, z_bz1, z_mx, z_mn, z_tb1, z_tb0, z_eq, z_le, z_lt, z_nn_lt, z_nn_le, z_nn_ge, z_nn_gt, z_nn_eq, z_nn_eq2, z_bit, z_wow, z_wo, z_or, z_shl, z_if, z_ifn, fbit, if_true, if_false, Nat.zero_add, Nat.add_zero, not_false_iff, not_true, c2])
    · exact main 1 500 (by decide) (by decide) (by decide) (by decide) (fun v h1 h2 => WF_up w (by omega)) (fun m => by unfold fX6_set jX6_set_52; simp (disch := omega) only [z_nn2, z0, z1, z2, z3, z4, z5, z6, z7, z8, z9, z10, z11, z12, z13, z14, z15, z16, z17, z18, z19, z20, z23, z24, z28, z31, z32, z33, z45, z46, z47, z48, z52, z57, z60, z63, z65, z70, z80, z95, z100, z126, z127, z128, z200, z240, z255, z400, z480, z500, z840, z1023, z2000, z99999, z1073741824, z_nn, z_add, z_sub, z_mul, z_div, z_rem, z_cl, z_in, z_chk, z_chkp, z_bnd, z_bn2, z_wth, z_bxr, z_bxl, z_bx2r, z_bx2l, z_bz0, z_bz1, z_mx, z_mn, z_tb1, z_tb0, z_eq, z_le, z_lt, z_nn_lt, z_nn_le, z_nn_ge, z_nn_gt, z_nn_eq, z_nn_eq2, z_bit, z_wow, z_wo, z_or, z_shl, z_if, z_ifn, fbit, if_true, if_false, Nat.zero_add, Nat.add_zero, not_false_iff, not_true, c2])
