/-! TEXTS: the calls -/
theorem op_append {x1 : Int32} {m : gM} (hi : HIq m) : Okq (fL_append x1 m) (fX6_append x1) := by
  obtain ⟨A, n, p, Sv, Sn, K, B, L, hg, hc, hr⟩ := hi
  have hL : L ≤ 12 := hg.2.2.2.2.2.2.1
  have hB := hg.2.2.2.2.2.2.2
  by_cases cb : x1.toInt < 33 ∨ 126 < x1.toInt
  · have d2 := in_bad (x := x1) (a := 33) (b := 126) (by decide) (by decide) cb
    refine ok_thr hr (k := nI 1) (nI_ne (by decide) (by decide)) ⟨m, ?_, hc, FCq.rf⟩ (fun m h => ?_) hg
    · unfold fL_append fX5_append jX5_append_12
      by_cases c1 : x1.toInt < 33
      · simp (disch := omega) only [z_nn2, z0, z1, z2, z3, z4, z5, z6, z7, z8, z9, z10, z11, z12, z13, z14, z15, z16, z17, z18, z19, z20, z23, z24, z28, z31, z32, z33, z45, z46, z47, z48, z52, z57, z60, z63, z65, z70, z80, z95, z100, z126, z127, z128, z200, z240, z255, z400, z480, z500, z840, z1023, z2000, z99999, z1073741824, z_nn, z_add, z_sub, z_mul, z_div, z_rem, z_cl, z_in, z_chk, z_chkp, z_bnd, z_bn2, z_wth, z_bxr, z_bxl, z_bx2r, z_bx2l, z_bz0, z_bz1, z_mx, z_mn, z_tb1, z_tb0, z_eq, z_le, z_lt, z_nn_lt, z_nn_le, z_nn_ge, z_nn_gt, z_nn_eq, z_nn_eq2, z_bit, z_wow, z_wo, z_or, z_shl, z_if, z_ifn, fbit, if_true, if_false, Nat.zero_add, Nat.add_zero, not_false_iff, not_true, zx_lt1, zx_le1, z_bx2l]
      · have c2 : 126 < x1.toInt := by omega
        simp (disch := omega) only [z_nn2, z0, z1, z2, z3, z4, z5, z6, z7, z8, z9, z10, z11, z12, z13, z14, z15, z16, z17, z18, z19, z20, z23, z24, z28, z31, z32, z33, z45, z46, z47, z48, z52, z57, z60, z63, z65, z70, z80, z95, z100, z126, z127, z128, z200, z240, z255, z400, z480, z500, z840, z1023, z2000, z99999, z1073741824, z_nn, z_add, z_sub, z_mul, z_div, z_rem, z_cl, z_in, z_chk, z_chkp, z_bnd, z_bn2, z_wth, z_bxr, z_bxl, z_bx2r, z_bx2l, z_bz0, z_bz1, z_mx, z_mn, z_tb1, z_tb0, z_eq, z_le, z_lt, z_nn_lt, z_nn_le, z_nn_ge, z_nn_gt, z_nn_eq, z_nn_eq2, z_bit, z_wow, z_wo, z_or, z_shl, z_if, z_ifn, fbit, if_true, if_false, Nat.zero_add, Nat.add_zero, not_false_iff, not_true, zx_lt1, zx_le1, z_bx2l]
    · unfold fX6_append fX6_fails
      simp (disch := omega) only [z_nn2, z0, z1, z2, z3, z4, z5, z6, z7, z8, z9, z10, z11, z12, z13, z14, z15, z16, z17, z18, z19, z20, z23, z24, z28, z31, z32, z33, z45, z46, z47, z48, z52, z57, z60, z63, z65, z70, z80, z95, z100, z126, z127, z128, z200, z240, z255, z400, z480, z500, z840, z1023, z2000, z99999, z1073741824, z_nn, z_add, z_sub, z_mul, z_div, z_rem, z_cl, z_in, z_chk, z_chkp, z_bnd, z_bn2, z_wth, z_bxr, z_bxl, z_bx2r, z_bx2l, z_bz0, z_bz1, z_mx, z_mn, z_tb1, z_tb0, z_eq, z_le, z_lt, z_nn_lt, z_nn_le, z_nn_ge, z_nn_gt, z_nn_eq, z_nn_eq2, z_bit, z_wow, z_wo, z_or, z_shl, z_if, z_ifn, fbit, if_true, if_false, Nat.zero_add, Nat.add_zero, not_false_iff, not_true, d2]
      exact xthr h
  · obtain ⟨v, hv, rfl⟩ : ∃ v, v < 127 ∧ x1 = nI v := by
      rcases ixZ x1 (n := 127) (by decide) with z | z
      · exfalso
        omega
      · exact z
    have d2 := in_ok (x := nI v) (a := 33) (b := 126) (by decide) (by decide) (by omega) (by omega)
    rw [nI_toInt (by omega)] at cb
    have k16 := hc.2.2.2.2.1
    by_cases c12 : L = 12
    · refine ok_thr hr (k := nI 2) (nI_ne (by decide) (by decide)) ⟨m, ?_, hc, FCq.rf⟩ (fun m h => ?_) hg
      · unfold fL_append fX5_append
        simp (disch := omega) only [z_nn2, z0, z1, z2, z3, z4, z5, z6, z7, z8, z9, z10, z11, z12, z13, z14, z15, z16, z17, z18, z19, z20, z23, z24, z28, z31, z32, z33, z45, z46, z47, z48, z52, z57, z60, z63, z65, z70, z80, z95, z100, z126, z127, z128, z200, z240, z255, z400, z480, z500, z840, z1023, z2000, z99999, z1073741824, z_nn, z_add, z_sub, z_mul, z_div, z_rem, z_cl, z_in, z_chk, z_chkp, z_bnd, z_bn2, z_wth, z_bxr, z_bxl, z_bx2r, z_bx2l, z_bz0, z_bz1, z_mx, z_mn, z_tb1, z_tb0, z_eq, z_le, z_lt, z_nn_lt, z_nn_le, z_nn_ge, z_nn_gt, z_nn_eq, z_nn_eq2, z_bit, z_wow, z_wo, z_or, z_shl, z_if, z_ifn, fbit, if_true, if_false, Nat.zero_add, Nat.add_zero, not_false_iff, not_true, k16, z_bx2l]
        rfl
      · have k7 : gi (si m 21 0 0 (nI 0)) 21 0 7 = nI L := by rw [gi_si, if_neg (fun z => by omega)]; exact h.2.2.2.1
        unfold fX6_append fX6_fails
        simp (disch := omega) only [z_nn2, z0, z1, z2, z3, z4, z5, z6, z7, z8, z9, z10, z11, z12, z13, z14, z15, z16, z17, z18, z19, z20, z23, z24, z28, z31, z32, z33, z45, z46, z47, z48, z52, z57, z60, z63, z65, z70, z80, z95, z100, z126, z127, z128, z200, z240, z255, z400, z480, z500, z840, z1023, z2000, z99999, z1073741824, z_nn, z_add, z_sub, z_mul, z_div, z_rem, z_cl, z_in, z_chk, z_chkp, z_bnd, z_bn2, z_wth, z_bxr, z_bxl, z_bx2r, z_bx2l, z_bz0, z_bz1, z_mx, z_mn, z_tb1, z_tb0, z_eq, z_le, z_lt, z_nn_lt, z_nn_le, z_nn_ge, z_nn_gt, z_nn_eq, z_nn_eq2, z_bit, z_wow, z_wo, z_or, z_shl, z_if, z_ifn, fbit, if_true, if_false, Nat.zero_add, Nat.add_zero, not_false_iff, not_true, d2, k7]
        exact xthr h
    · have hB1 : ∀ i, i < L + 1 → 33 ≤ upq B L v i ∧ upq B L v i ≤ 126 := fun i hi => by
        unfold upq
        by_cases c : i = L
        · rw [if_pos c]; omega
        · rw [if_neg c]; exact hB i (by omega)
      refine ok_ret hr (A1 := A) (n1 := n) (p1 := p) (Sv1 := Sv) (Sn1 := Sn) (K1 := K) (B1 := upq B L v) (L1 := L + 1) (r := nI (L + 1)) ?_ (fun m h => ?_) ⟨hg.1, hg.2.1, hg.2.2.1, hg.2.2.2.1, hg.2.2.2.2.1, hg.2.2.2.2.2.1, by omega, hB1⟩
      · obtain ⟨h1, h2, h3, h4, h5⟩ := hc
        obtain ⟨m2, hm2⟩ : ∃ q, q = si m 17 0 L (nI v) := ⟨_, rfl⟩
        have a16 : gi m2 16 0 1 = nI L := by rw [hm2, gi_si, if_neg (fun z => by omega)]; exact h5.1
        obtain ⟨m3, hm3⟩ : ∃ q, q = si m2 16 0 1 (nI (L + 1)) := ⟨_, rfl⟩
        have b16 : gi m3 16 0 1 = nI (L + 1) := by rw [hm3, gi_si, if_pos ⟨rfl, rfl, rfl⟩]
        have same : ∀ c t i, c ≠ 16 → c ≠ 17 → gi m3 c t i = gi m c t i := fun c t i ha hb => by rw [hm3, gi_si, if_neg (fun z => ha z.1), hm2, gi_si, if_neg (fun z => hb z.1)]
        refine ⟨m3, ?_, ⟨h1.eqv (fun c i hc => same _ _ _ (by omega) (by omega)), h2.eqv (fun c i ha hb => same _ _ _ (by omega) (by omega)), h3.eqv (fun c t i ha hb => same _ _ _ (by omega) (by omega)) (same _ _ _ (by decide) (by decide)) (same _ _ _ (by decide) (by decide)), h4.eqv (fun c t i ha hb _ => same _ _ _ (by omega) (by omega)) (fun i => same _ _ _ (by decide) (by decide)), b16, fun i hi => ?_⟩, fun c t i hc => same _ _ _ (by omega) (by omega)⟩
        · unfold fL_append fX5_append fX3_put
          simp (disch := omega) only [z_nn2, z0, z1, z2, z3, z4, z5, z6, z7, z8, z9, z10, z11, z12, z13, z14, z15, z16, z17, z18, z19, z20, z23, z24, z28, z31, z32, z33, z45, z46, z47, z48, z52, z57, z60, z63, z65, z70, z80, z95, z100, z126, z127, z128, z200, z240, z255, z400, z480, z500, z840, z1023, z2000, z99999, z1073741824, z_nn, z_add, z_sub, z_mul, z_div, z_rem, z_cl, z_in, z_chk, z_chkp, z_bnd, z_bn2, z_wth, z_bxr, z_bxl, z_bx2r, z_bx2l, z_bz0, z_bz1, z_mx, z_mn, z_tb1, z_tb0, z_eq, z_le, z_lt, z_nn_lt, z_nn_le, z_nn_ge, z_nn_gt, z_nn_eq, z_nn_eq2, z_bit, z_wow, z_wo, z_or, z_shl, z_if, z_ifn, fbit, if_true, if_false, Nat.zero_add, Nat.add_zero, not_false_iff, not_true, k16, z_i2c, z_narc]
          rw [← hm2]
          simp (disch := omega) only [z_nn2, z0, z1, z2, z3, z4, z5, z6, z7, z8, z9, z10, z11, z12, z13, z14, z15, z16, z17, z18, z19, z20, z23, z24, z28, z31, z32, z33, z45, z46, z47, z48, z52, z57, z60, z63, z65, z70, z80, z95, z100, z126, z127, z128, z200, z240, z255, z400, z480, z500, z840, z1023, z2000, z99999, z1073741824, z_nn, z_add, z_sub, z_mul, z_div, z_rem, z_cl, z_in, z_chk, z_chkp, z_bnd, z_bn2, z_wth, z_bxr, z_bxl, z_bx2r, z_bx2l, z_bz0, z_bz1, z_mx, z_mn, z_tb1, z_tb0, z_eq, z_le, z_lt, z_nn_lt, z_nn_le, z_nn_ge, z_nn_gt, z_nn_eq, z_nn_eq2, z_bit, z_wow, z_wo, z_or, z_shl, z_if, z_ifn, fbit, if_true, if_false, Nat.zero_add, Nat.add_zero, not_false_iff, not_true, a16]
          rw [← hm3]
          simp only [z_bx2r, z_bnd, b16]
        · rw [hm3, gi_si, if_neg (fun z => by omega), hm2, gi_si]
          unfold upq
          by_cases c : i = L
          · rw [if_pos c, if_pos ⟨rfl, rfl, c⟩]
          · rw [if_neg c, if_neg (fun z => c z.2.2)]
            exact h5.2 i (by omega)
      · obtain ⟨h1, h2, h3, h4⟩ := h
        have k7 : gi (si m 21 0 0 (nI 0)) 21 0 7 = nI L := by rw [gi_si, if_neg (fun z => by omega)]; exact h4.1
        obtain ⟨m2, hm2⟩ : ∃ q, q = si (si m 21 0 0 (nI 0)) 26 0 L (nI v) := ⟨_, rfl⟩
        have a7 : gi m2 21 0 7 = nI L := by rw [hm2, gi_si, if_neg (fun z => by omega)]; exact k7
        obtain ⟨m3, hm3⟩ : ∃ q, q = si m2 21 0 7 (nI (L + 1)) := ⟨_, rfl⟩
        have b7 : gi m3 21 0 7 = nI (L + 1) := by rw [hm3, gi_si, if_pos ⟨rfl, rfl, rfl⟩]
        have same : ∀ c t i, ¬ (c = 21 ∧ (i = 0 ∨ i = 7)) → c ≠ 26 → gi m3 c t i = gi m c t i := fun c t i ha hb => by rw [hm3, gi_si, if_neg (fun z => by omega), hm2, gi_si, if_neg (fun z => by omega), gi_si, if_neg (fun z => by omega)]
        refine ⟨m3, ?_, ⟨fun i hi => (same _ _ _ (by omega) (by decide)).trans (h1 i hi), h2.eqv (same _ _ _ (by omega) (by decide)) (fun i => same _ _ _ (by omega) (by decide)), h3.eqv (fun i => same _ _ _ (by omega) (by decide)) (fun i => same _ _ _ (by omega) (by decide)), b7, fun i hi => ?_⟩, ⟨fun c t i hc => same _ _ _ (by omega) (by omega), by rw [hm3, hm2]; rfl⟩, ?_⟩
        · unfold fX6_append
          simp (disch := omega) only [z_nn2, z0, z1, z2, z3, z4, z5, z6, z7, z8, z9, z10, z11, z12, z13, z14, z15, z16, z17, z18, z19, z20, z23, z24, z28, z31, z32, z33, z45, z46, z47, z48, z52, z57, z60, z63, z65, z70, z80, z95, z100, z126, z127, z128, z200, z240, z255, z400, z480, z500, z840, z1023, z2000, z99999, z1073741824, z_nn, z_add, z_sub, z_mul, z_div, z_rem, z_cl, z_in, z_chk, z_chkp, z_bnd, z_bn2, z_wth, z_bxr, z_bxl, z_bx2r, z_bx2l, z_bz0, z_bz1, z_mx, z_mn, z_tb1, z_tb0, z_eq, z_le, z_lt, z_nn_lt, z_nn_le, z_nn_ge, z_nn_gt, z_nn_eq, z_nn_eq2, z_bit, z_wow, z_wo, z_or, z_shl, z_if, z_ifn, fbit, if_true, if_false, Nat.zero_add, Nat.add_zero, not_false_iff, not_true, d2, k7]
          rw [← hm2]
          simp (disch := omega) only [z_nn2, z0, z1, z2, z3, z4, z5, z6, z7, z8, z9, z10, z11, z12, z13, z14, z15, z16, z17, z18, z19, z20, z23, z24, z28, z31, z32, z33, z45, z46, z47, z48, z52, z57, z60, z63, z65, z70, z80, z95, z100, z126, z127, z128, z200, z240, z255, z400, z480, z500, z840, z1023, z2000, z99999, z1073741824, z_nn, z_add, z_sub, z_mul, z_div, z_rem, z_cl, z_in, z_chk, z_chkp, z_bnd, z_bn2, z_wth, z_bxr, z_bxl, z_bx2r, z_bx2l, z_bz0, z_bz1, z_mx, z_mn, z_tb1, z_tb0, z_eq, z_le, z_lt, z_nn_lt, z_nn_le, z_nn_ge, z_nn_gt, z_nn_eq, z_nn_eq2, z_bit, z_wow, z_wo, z_or, z_shl, z_if, z_ifn, fbit, if_true, if_false, Nat.zero_add, Nat.add_zero, not_false_iff, not_true, a7]
          rw [← hm3, b7]
        · rw [hm3, gi_si, if_neg (fun z => by omega), hm2, gi_si]
          unfold upq
          by_cases c : i = L
          · rw [if_pos c, if_pos ⟨rfl, rfl, c⟩]
          · rw [if_neg c, if_neg (fun z => c z.2.2), gi_si, if_neg (fun z => by omega)]
            exact h4.2 i (by omega)
        · rw [hm3, gi_si, if_neg (fun z => by omega), hm2, gi_si, if_neg (fun z => by omega), gi_si, if_pos ⟨rfl, rfl, rfl⟩]
theorem GV_buf {A : Nat → Nat} {n p : Nat} {Sv Sn : Nat → Nat → Nat} {K B B1 : Nat → Nat} {L L1 : Nat} (h : GVq A n p Sv Sn K B L) (hL : L1 ≤ 12) (hB : ∀ i, i < L1 → 33 ≤ B1 i ∧ B1 i ≤ 126) : GVq A n p Sv Sn K B1 L1 := ⟨h.1, h.2.1, h.2.2.1, h.2.2.2.1, h.2.2.2.2.1, h.2.2.2.2.2.1, hL, hB⟩
theorem ICq.len {A : Nat → Nat} {n p : Nat} {Sv Sn : Nat → Nat → Nat} {K B : Nat → Nat} {L : Nat} {m : gM} (h : ICq A n p Sv Sn K B L m) : ICq A n p Sv Sn K B 0 (si m 16 0 1 (nI 0)) := by
  obtain ⟨h1, h2, h3, h4, h5⟩ := h
  have same : ∀ c t i, c ≠ 16 → gi (si m 16 0 1 (nI 0)) c t i = gi m c t i := fun c t i ha => by rw [gi_si, if_neg (fun z => ha z.1)]
  exact ⟨h1.eqv (fun c i hc => same _ _ _ (by omega)), h2.eqv (fun c i ha hb => same _ _ _ (by omega)), h3.eqv (fun c t i ha hb => same _ _ _ (by omega)) (same _ _ _ (by decide)) (same _ _ _ (by decide)), h4.eqv (fun c t i ha hb _ => same _ _ _ (by omega)) (fun i => same _ _ _ (by decide)), by rw [gi_si, if_pos ⟨rfl, rfl, rfl⟩], fun i hi => absurd hi (Nat.not_lt_zero i)⟩
theorem IR.len {A : Nat → Nat} {n : Nat} {Sv Sn : Nat → Nat → Nat} {K B : Nat → Nat} {L : Nat} {m : gM} (h : IR A n Sv Sn K B L m) : IR A n Sv Sn K B 0 (si m 21 0 7 (nI 0)) := by
  obtain ⟨h1, h2, h3, h4⟩ := h
  exact ⟨RM_si (by decide) h1, h2.eqv (by rw [gi_si, if_neg (fun z => by omega)]) (fun i => by rw [gi_si, if_neg (fun z => by omega)]), h3.eqv (fun i => by rw [gi_si, if_neg (fun z => by omega)]) (fun i => by rw [gi_si, if_neg (fun z => by omega)]), by rw [gi_si, if_pos ⟨rfl, rfl, rfl⟩], fun i hi => absurd hi (Nat.not_lt_zero i)⟩
theorem op_clear {m : gM} (hi : HIq m) : ∃ r m1 m2, fX5_clearBuffer m = some (r, m1) ∧ fX6_clearBuffer m1 = some (r, m2) ∧ HIq m2 := by
  obtain ⟨A, n, p, Sv, Sn, K, B, L, hg, hc, hr⟩ := hi
  have k16 := hc.2.2.2.2.1
  have hr1 : IR A n Sv Sn K B L (si m 16 0 1 (nI 0)) := hr.fc (fun c t i h => by rw [gi_si, if_neg (fun z => by omega)])
  have k7 : gi (si (si m 16 0 1 (nI 0)) 21 0 0 (nI 0)) 21 0 7 = nI L := by rw [gi_si, if_neg (fun z => by omega)]; exact hr1.2.2.2.1
  refine ⟨nI L, si m 16 0 1 (nI 0), si (si (si m 16 0 1 (nI 0)) 21 0 0 (nI 0)) 21 0 7 (nI 0), ?_, ?_, A, n, p, Sv, Sn, K, B, 0, GV_buf hg (by decide) (fun i hi => absurd hi (Nat.not_lt_zero i)), hc.len.re ((FRe.si (by decide)).tr (FRe.si (by decide))), hr1.th.len⟩
  · unfold fX5_clearBuffer
    simp only [z_wth, z0, k16]
  · unfold fX6_clearBuffer
    simp only [z_wth, z0, k7]
theorem FT.fre {m m1 : gM} (h : FT m m1) : FRe m m1 := ⟨fun c t i hc => h.1 c t i (by omega) (by omega) (by omega), h.2 34 0⟩
theorem IR.ft {A : Nat → Nat} {n : Nat} {Sv Sn : Nat → Nat → Nat} {K B : Nat → Nat} {L : Nat} {m m1 : gM} (h : IR A n Sv Sn K B L m) (hf : FT m m1) : IR A n Sv Sn K B L m1 := by
  obtain ⟨h1, h2, h3, h4⟩ := h
  exact ⟨fun i hi => (hf.1 22 0 i (by decide) (by decide) (by omega)).trans (h1 i hi), h2.eqv (hf.1 _ _ _ (by decide) (by decide) (by omega)) (fun i => hf.1 _ _ _ (by decide) (by decide) (by omega)), h3.eqv (fun i => hf.1 _ _ _ (by decide) (by decide) (by omega)) (fun i => hf.1 _ _ _ (by decide) (by decide) (by omega)), h4.ft hf⟩
theorem op_first {m : gM} (hi : HIq m) : ∃ r m2, fX5_firstError m = some r ∧ fX6_firstError m = some (r, m2) ∧ HIq m2 := by
  obtain ⟨A, n, p, Sv, Sn, K, B, L, hg, hc, hr⟩ := hi
  have hL : L ≤ 12 := hg.2.2.2.2.2.2.1
  have hB := hg.2.2.2.2.2.2.2
  obtain ⟨m1, e1, f1, r1, -⟩ := freads (hr.th (v := nI 0)).2.2.2 hL hB
  refine ⟨nI (psq B L (JJ B L)), m1, ?_, ?_, A, n, p, Sv, Sn, K, B, L, hg, hc.re ((FRe.si (by decide)).tr f1.fre), hr.th.ft f1⟩
  · unfold fX5_firstError
    rw [ferr hc.2.2.2.2 hL hB]
    rfl
  · unfold fX6_firstError
    simp only [z_wth, z0, e1, z_bnd, r1.1]
/-- a state that shows the first a signs and b dots of a text -/
def ld (A B : Nat → Nat) (L a b : Nat) : Nat → Nat := fun q => if 8 ≤ q ∧ q < 32 ∧ q % 4 = 0 then (if (q - 8) / 4 < a then sgnq (B (psq B L ((q - 8) / 4))) else 17) else if 8 ≤ q ∧ q < 32 ∧ q % 4 = 1 then (if (q - 9) / 4 < b then dt B L ((q - 9) / 4) else 0) else A q
theorem ld_sign {A B : Nat → Nat} {L a b s : Nat} (hs : s < 6) : ld A B L a b (8 + 4 * s) = if s < a then sgnq (B (psq B L s)) else 17 := by
  unfold ld
  rw [if_pos (by omega), show (8 + 4 * s - 8) / 4 = s by omega]
theorem ld_dot {A B : Nat → Nat} {L a b s : Nat} (hs : s < 6) : ld A B L a b (9 + 4 * s) = if s < b then dt B L s else 0 := by
  unfold ld
  rw [if_neg (by omega), if_pos (by omega), show (9 + 4 * s - 9) / 4 = s by omega]
theorem ld_else {A B : Nat → Nat} {L a b q : Nat} (h1 : ∀ s, s < 6 → q ≠ 8 + 4 * s) (h2 : ∀ s, s < 6 → q ≠ 9 + 4 * s) : ld A B L a b q = A q := by
  have a0 := h1 0 (by decide); have a1 := h1 1 (by decide); have a2 := h1 2 (by decide); have a3 := h1 3 (by decide); have a4 := h1 4 (by decide); have a5 := h1 5 (by decide)
  have b0 := h2 0 (by decide); have b1 := h2 1 (by decide); have b2 := h2 2 (by decide); have b3 := h2 3 (by decide); have b4 := h2 4 (by decide); have b5 := h2 5 (by decide)
  unfold ld
  rw [if_neg (by omega), if_neg (by omega)]
theorem ld_cases (q : Nat) : (∃ s, s < 6 ∧ q = 8 + 4 * s) ∨ (∃ s, s < 6 ∧ q = 9 + 4 * s) ∨ ((∀ s, s < 6 → q ≠ 8 + 4 * s) ∧ ∀ s, s < 6 → q ≠ 9 + 4 * s) := by
  by_cases c1 : 8 ≤ q ∧ q < 32 ∧ q % 4 = 0
  · exact Or.inl ⟨(q - 8) / 4, by omega, by omega⟩
  · by_cases c2 : 8 ≤ q ∧ q < 32 ∧ q % 4 = 1
    · exact Or.inr (Or.inl ⟨(q - 9) / 4, by omega, by omega⟩)
    · exact Or.inr (Or.inr ⟨fun s hs z => c1 (by omega), fun s hs z => c2 (by omega)⟩)
theorem ld_up1 {A B : Nat → Nat} {L a b : Nat} (ha : a < 6) : upq (ld A B L a b) (8 + 4 * a) (sgnq (B (psq B L a))) = ld A B L (a + 1) b := by
  funext q
  rcases ld_cases q with ⟨s, hs, rfl⟩ | ⟨s, hs, rfl⟩ | ⟨h1, h2⟩
  · rw [ld_sign hs]
    by_cases c : s = a
    · subst c
      rw [up_eq rfl, if_pos (Nat.lt_succ_self _)]
    · rw [up_ne (by omega), ld_sign hs]
      by_cases c2 : s < a
      · rw [if_pos c2, if_pos (by omega)]
      · rw [if_neg c2, if_neg (by omega)]
  · rw [up_ne (by omega), ld_dot hs, ld_dot hs]
  · rw [up_ne (h1 a ha), ld_else h1 h2, ld_else h1 h2]
theorem ld_up2 {A B : Nat → Nat} {L a b : Nat} (hb : b < 6) : upq (ld A B L a b) (9 + 4 * b) (dt B L b) = ld A B L a (b + 1) := by
  funext q
  rcases ld_cases q with ⟨s, hs, rfl⟩ | ⟨s, hs, rfl⟩ | ⟨h1, h2⟩
  · rw [up_ne (by omega), ld_sign hs, ld_sign hs]
  · rw [ld_dot hs]
    by_cases c : s = b
    · subst c
      rw [up_eq rfl, if_pos (Nat.lt_succ_self _)]
    · rw [up_ne (by omega), ld_dot hs]
      by_cases c2 : s < b
      · rw [if_pos c2, if_pos (by omega)]
      · rw [if_neg c2, if_neg (by omega)]
  · rw [up_ne (h2 b hb), ld_else h1 h2, ld_else h1 h2]
theorem ld_WF {A B : Nat → Nat} {L a b : Nat} (w : WF A) (ha : ∀ s, s < a → s < 6 → sgnq (B (psq B L s)) ≠ 18) : WF (ld A B L a b) := by
  obtain ⟨h0, h1, h2, h3, h4, h5, h6, h7, h8, h9, h10, g1, g2, g3, g4, g5⟩ := w
  have lo : ∀ q, q < 8 → ld A B L a b q = A q := fun q hq => ld_else (fun s _ z => by omega) (fun s _ z => by omega)
  refine ⟨?_, ?_, ?_, ?_, ?_, ?_, ?_, ?_, ?_, ?_, ?_, fun j hj => ?_, fun j hj => ?_, fun j hj => ?_, fun j hj => ?_, fun k hk => ?_⟩
  iterate 11 (rw [lo _ (by decide)]; assumption)
  · rw [ld_sign hj]
    split
    · rename_i c
      have e1 := sgn_le (B (psq B L j))
      have e2 := ha j c hj
      omega
    · omega
  · rw [ld_dot hj]
    split
    · exact dt_le B L j
    · omega
  · rw [ld_else (fun s _ z => by omega) (fun s _ z => by omega)]; exact g3 j hj
  · rw [ld_else (fun s _ z => by omega) (fun s _ z => by omega)]; exact g4 j hj
  · rw [ld_else (fun s _ z => by omega) (fun s _ z => by omega)]; exact g5 k hk
theorem ld_WP {A B : Nat → Nat} {L a b : Nat} (h : WP A) : WP (ld A B L a b) := WP_cg h (ld_else (fun s _ z => by omega) (fun s _ z => by omega)) (ld_else (fun s _ z => by omega) (fun s _ z => by omega)) (fun i hi => ld_else (fun s _ z => by omega) (fun s _ z => by omega))
theorem dm_or {A : Nat → Nat} (w : WF A) {i : Nat} (hi : i < 6) (w1 : WF (upq A (9 + 4 * i) 1)) : dm A ||| 2 ^ i = dm (upq A (9 + 4 * i) 1) := by
  have h2 : 2 ^ i < 2 ^ 6 := Nat.pow_lt_pow_right (by decide) hi
  have h1 := dm_lt w
  refine tb_inj (Nat.or_lt_two_pow (n := 6) h1 h2) (dm_lt w1) (fun j hj => ?_)
  rw [dm_tb w1 hj, tb_bit, Nat.testBit_or, Nat.testBit_two_pow]
  unfold upq
  by_cases c : i = j
  · subst c
    rw [if_pos rfl, decide_eq_true rfl, Bool.or_true]
    rfl
  · rw [if_neg (by omega), decide_eq_false c, Bool.or_false, ← tb_bit, dm_tb w hj]
theorem fput0 {A B : Nat → Nat} {L : Nat} {m : gM} (h : CS 0 A m) : ∃ m1, fX3_putOn 0 m = jX3_putOn_27 0 m1 ∧ CS 0 (ld A B L 0 0) m1 ∧ Frq P0s m m1 := by
  unfold fX3_putOn
  simp only [z_wth, z0]
  have e0 : dm (fun q => if 8 ≤ q ∧ q < 32 ∧ q % 4 = 1 then 0 else A q) = 0 := by
    unfold dm
    simp
  have c0 := CS_dots (B := fun q => if 8 ≤ q ∧ q < 32 ∧ q % 4 = 1 then 0 else A q) h (fun j hj => if_neg (fun z => hj ((j - 9) / 4) (by omega) (by omega)))
  rw [e0] at c0
  refine loop_ex (fun n x m2 => lX3_putOn_7 0 n (nI x) m2) (fun x m2 => Frq P0s m m2 ∧ CS 0 (fun q => if 8 ≤ q ∧ q < 8 + 4 * x ∧ q % 4 = 0 then 17 else if 8 ≤ q ∧ q < 32 ∧ q % 4 = 1 then 0 else A q) m2) (fun o => ∃ m1, o = jX3_putOn_27 0 m1 ∧ CS 0 (ld A B L 0 0) m1 ∧ Frq P0s m m1) 6 (fun n x m2 hx hI => ?_) (fun n m2 hI => ?_) FU 0 _ (by decide) (by decide) ⟨Frq.si rfl, ?_⟩
  · obtain ⟨f1, c1⟩ := hI
    have cs := CS_sign (v := 17) c1 hx
    have e : upq (fun q => if 8 ≤ q ∧ q < 8 + 4 * x ∧ q % 4 = 0 then 17 else if 8 ≤ q ∧ q < 32 ∧ q % 4 = 1 then 0 else A q) (8 + 4 * x) 17 = fun q => if 8 ≤ q ∧ q < 8 + 4 * (x + 1) ∧ q % 4 = 0 then 17 else if 8 ≤ q ∧ q < 32 ∧ q % 4 = 1 then 0 else A q := by
      funext q
      unfold upq
      by_cases c : q = 8 + 4 * x
      · rw [if_pos c, if_pos (by omega)]
      · rw [if_neg c]
        dsimp only
        by_cases c2 : 8 ≤ q ∧ q < 8 + 4 * x ∧ q % 4 = 0
        · rw [if_pos c2, if_pos (by omega)]
        · rw [if_neg c2, if_neg (show ¬ (8 ≤ q ∧ q < 8 + 4 * (x + 1) ∧ q % 4 = 0) by omega)]
    rw [e] at cs
    refine ⟨_, ⟨f1.tr (Frq.si (i := x) (v := nI 17) rfl), cs⟩, ?_⟩
    rw [lX3_putOn_7_s]
    simp (disch := omega) only [z_nn2, z0, z1, z2, z3, z4, z5, z6, z7, z8, z9, z10, z11, z12, z13, z14, z15, z16, z17, z18, z19, z20, z23, z24, z28, z31, z32, z33, z45, z46, z47, z48, z52, z57, z60, z63, z65, z70, z80, z95, z100, z126, z127, z128, z200, z240, z255, z400, z480, z500, z840, z1023, z2000, z99999, z1073741824, z_nn, z_add, z_sub, z_mul, z_div, z_rem, z_cl, z_in, z_chk, z_chkp, z_bnd, z_bn2, z_wth, z_bxr, z_bxl, z_bx2r, z_bx2l, z_bz0, z_bz1, z_mx, z_mn, z_tb1, z_tb0, z_eq, z_le, z_lt, z_nn_lt, z_nn_le, z_nn_ge, z_nn_gt, z_nn_eq, z_nn_eq2, z_bit, z_wow, z_wo, z_or, z_shl, z_if, z_ifn, fbit, if_true, if_false, Nat.zero_add, Nat.add_zero, not_false_iff, not_true]
  · obtain ⟨f1, c1⟩ := hI
    rw [lX3_putOn_7_s]
    simp (disch := omega) only [z_nn2, z0, z1, z2, z3, z4, z5, z6, z7, z8, z9, z10, z11, z12, z13, z14, z15, z16, z17, z18, z19, z20, z23, z24, z28, z31, z32, z33, z45, z46, z47, z48, z52, z57, z60, z63, z65, z70, z80, z95, z100, z126, z127, z128, z200, z240, z255, z400, z480, z500, z840, z1023, z2000, z99999, z1073741824, z_nn, z_add, z_sub, z_mul, z_div, z_rem, z_cl, z_in, z_chk, z_chkp, z_bnd, z_bn2, z_wth, z_bxr, z_bxl, z_bx2r, z_bx2l, z_bz0, z_bz1, z_mx, z_mn, z_tb1, z_tb0, z_eq, z_le, z_lt, z_nn_lt, z_nn_le, z_nn_ge, z_nn_gt, z_nn_eq, z_nn_eq2, z_bit, z_wow, z_wo, z_or, z_shl, z_if, z_ifn, fbit, if_true, if_false, Nat.zero_add, Nat.add_zero, not_false_iff, not_true]
    refine ⟨m2, rfl, c1.cg (fun j hj => ?_), f1⟩
    unfold ld
    by_cases c2 : 8 ≤ j ∧ j < 32 ∧ j % 4 = 0
    · rw [if_pos c2, if_pos (show 8 ≤ j ∧ j < 8 + 4 * 6 ∧ j % 4 = 0 by omega), if_neg (Nat.not_lt_zero _)]
    · rw [if_neg c2, if_neg (show ¬ (8 ≤ j ∧ j < 8 + 4 * 6 ∧ j % 4 = 0) by omega)]
      by_cases c3 : 8 ≤ j ∧ j < 32 ∧ j % 4 = 1
      · rw [if_pos c3, if_pos c3, if_neg (Nat.not_lt_zero _)]
      · rw [if_neg c3, if_neg c3]
  · refine c0.cg (fun j hj => ?_)
    rw [if_neg (by omega)]
theorem fputOn {A B : Nat → Nat} {L : Nat} {m : gM} (h : CS 0 A m) (w : WF A) (h4 : IC4 B L m) (hL : L ≤ 12) (hB : ∀ i, i < L → 33 ≤ B i ∧ B i ≤ 126) (hwell : L ≤ psq B L (JJ B L)) : ∃ m1, fX3_putOn 0 m = some (nI (JJ B L), m1) ∧ CS 0 (ld A B L (JJ B L) (JJ B L)) m1 ∧ Frq P0s m m1 := by
  have hJ6 := JJ_le B L
  have hJL := JJ_ps B L
  obtain ⟨m1, e1, c1, f1⟩ := fput0 (B := B) (L := L) h
  rw [e1]
  have key : ∀ q j n m, j + q = JJ B L → IC4 B L m → CS 0 (ld A B L j j) m → 13 < n + psq B L j → ∃ m1, lX3_putOn_31 0 n (nI j) (nI (psq B L j)) m = some (nI (JJ B L), m1) ∧ CS 0 (ld A B L (JJ B L) (JJ B L)) m1 ∧ Frq P0s m m1 := by
    intro q
    induction q with
    | zero =>
      intro j n m hj h4 hc hn
      have hj : j = JJ B L := by omega
      subst hj
      obtain ⟨n2, rfl⟩ : ∃ n2, n = n2 + 1 := ⟨n - 1, by omega⟩
      rw [lX3_putOn_31_s]
      have e : psq B L (JJ B L) = L := by omega
      rw [e]
      by_cases c12 : 12 ≤ L
      · simp (disch := omega) only [z_nn2, z0, z1, z2, z3, z4, z5, z6, z7, z8, z9, z10, z11, z12, z13, z14, z15, z16, z17, z18, z19, z20, z23, z24, z28, z31, z32, z33, z45, z46, z47, z48, z52, z57, z60, z63, z65, z70, z80, z95, z100, z126, z127, z128, z200, z240, z255, z400, z480, z500, z840, z1023, z2000, z99999, z1073741824, z_nn, z_add, z_sub, z_mul, z_div, z_rem, z_cl, z_in, z_chk, z_chkp, z_bnd, z_bn2, z_wth, z_bxr, z_bxl, z_bx2r, z_bx2l, z_bz0, z_bz1, z_mx, z_mn, z_tb1, z_tb0, z_eq, z_le, z_lt, z_nn_lt, z_nn_le, z_nn_ge, z_nn_gt, z_nn_eq, z_nn_eq2, z_bit, z_wow, z_wo, z_or, z_shl, z_if, z_ifn, fbit, if_true, if_false, Nat.zero_add, Nat.add_zero, not_false_iff, not_true, jX3_putOn_109, h4.1]
        exact ⟨m, rfl, hc, Frq.rf⟩
      · simp (disch := omega) only [z_nn2, z0, z1, z2, z3, z4, z5, z6, z7, z8, z9, z10, z11, z12, z13, z14, z15, z16, z17, z18, z19, z20, z23, z24, z28, z31, z32, z33, z45, z46, z47, z48, z52, z57, z60, z63, z65, z70, z80, z95, z100, z126, z127, z128, z200, z240, z255, z400, z480, z500, z840, z1023, z2000, z99999, z1073741824, z_nn, z_add, z_sub, z_mul, z_div, z_rem, z_cl, z_in, z_chk, z_chkp, z_bnd, z_bn2, z_wth, z_bxr, z_bxl, z_bx2r, z_bx2l, z_bz0, z_bz1, z_mx, z_mn, z_tb1, z_tb0, z_eq, z_le, z_lt, z_nn_lt, z_nn_le, z_nn_ge, z_nn_gt, z_nn_eq, z_nn_eq2, z_bit, z_wow, z_wo, z_or, z_shl, z_if, z_ifn, fbit, if_true, if_false, Nat.zero_add, Nat.add_zero, not_false_iff, not_true, jX3_putOn_109, h4.1]
        exact ⟨m, rfl, hc, Frq.rf⟩
    | succ q ih =>
      intro j n m hj h4 hc hn
      have hpj : psq B L j ≤ L := ps_le j (fun k hk => (JJ_in (B := B) (L := L) (k := k) (by omega)).1)
      obtain ⟨n2, rfl⟩ : ∃ n2, n = n2 + 1 := ⟨n - 1, by omega⟩
      obtain ⟨k1, k2, k3⟩ := JJ_in (B := B) (L := L) (k := j) (by omega)
      have hb := hB (psq B L j) k1
      have hs := sgn_le (B (psq B L j))
      have hne : B (psq B L j) ≠ 46 := by
        intro z
        rw [z] at k2
        exact k2 (by decide)
      have e1 : rI (sgnq (B (psq B L j))) = nI (sgnq (B (psq B L j))) := if_neg k2
      have cs := CS_sign (v := sgnq (B (psq B L j))) hc k3
      rw [ld_up1 k3] at cs
      obtain ⟨m2, hm2⟩ : ∃ q, q = si m 1 0 j (nI (sgnq (B (psq B L j)))) := ⟨_, rfl⟩
      rw [← hm2] at cs
      have f2 : Frq P0s m m2 := by rw [hm2]; exact Frq.si rfl
      have h42 : IC4 B L m2 := h4.eqv (f2.1 _ _ _ rfl) (fun i => f2.1 _ _ _ rfl)
      rw [lX3_putOn_31_s]
      simp (disch := omega) only [z_nn2, z0, z1, z2, z3, z4, z5, z6, z7, z8, z9, z10, z11, z12, z13, z14, z15, z16, z17, z18, z19, z20, z23, z24, z28, z31, z32, z33, z45, z46, z47, z48, z52, z57, z60, z63, z65, z70, z80, z95, z100, z126, z127, z128, z200, z240, z255, z400, z480, z500, z840, z1023, z2000, z99999, z1073741824, z_nn, z_add, z_sub, z_mul, z_div, z_rem, z_cl, z_in, z_chk, z_chkp, z_bnd, z_bn2, z_wth, z_bxr, z_bxl, z_bx2r, z_bx2l, z_bz0, z_bz1, z_mx, z_mn, z_tb1, z_tb0, z_eq, z_le, z_lt, z_nn_lt, z_nn_le, z_nn_ge, z_nn_gt, z_nn_eq, z_nn_eq2, z_bit, z_wow, z_wo, z_or, z_shl, z_if, z_ifn, fbit, if_true, if_false, Nat.zero_add, Nat.add_zero, not_false_iff, not_true, h4.1, h4.2, findex, e1, jX3_putOn_103]
      rw [← hm2]
      have wl : WF (ld A B L (j + 1) j) := ld_WF w (fun s h1 h2 => (JJ_in (B := B) (L := L) (k := s) (by omega)).2.1)
      have wl1 : WF (ld A B L (j + 1) (j + 1)) := ld_WF w (fun s h1 h2 => (JJ_in (B := B) (L := L) (k := s) (by omega)).2.1)
      by_cases cd2 : psq B L j + 1 < L ∧ B (psq B L j + 1) = 46
      · have ed : dt B L j = 1 := if_pos cd2
        have eu := ld_up2 (A := A) (B := B) (L := L) (a := j + 1) k3
        rw [ed] at eu
        have hn2 : 0 < n2 := by omega
        obtain ⟨n3, rfl⟩ : ∃ n3, n2 = n3 + 1 := ⟨n2 - 1, by omega⟩
        have hx : nI (dm (ld A B L (j + 1) j)) ||| nI (2 ^ j) = nI (dm (ld A B L (j + 1) (j + 1))) := by
          rw [z_or, dm_or wl k3 (by rw [eu]; exact wl1), eu]
        have cd3 := CS_dots (B := ld A B L (j + 1) (j + 1)) cs (fun q hq => by
          rw [← eu, up_ne (hq j k3)])
        obtain ⟨m3, hm3⟩ : ∃ q, q = si m2 0 0 5 (nI (dm (ld A B L (j + 1) (j + 1)))) := ⟨_, rfl⟩
        rw [← hm3] at cd3
        have f3 : Frq P0s m2 m3 := by rw [hm3]; exact Frq.si rfl
        obtain ⟨m4, g1, g2, g3⟩ := ih (j + 1) n3 m3 (by omega) (h42.eqv (f3.1 _ _ _ rfl) (fun i => f3.1 _ _ _ rfl)) cd3 (by rw [ps_s, ed]; omega)
        rw [ps_s, ed] at g1
        refine ⟨m4, ?_, g2, (f2.tr f3).tr g3⟩
        rw [lX3_putOn_31_s]
        have hsh : nI 1 <<< (nI (j + 1 - 1) &&& nI 31) = nI (2 ^ j) := by rw [show j + 1 - 1 = j by omega, z_shl (by omega)]
        simp (disch := omega) only [z_nn2, z0, z1, z2, z3, z4, z5, z6, z7, z8, z12, z46, z31, z_nn, z_add, z_sub, z_cl, z_in, z_chk, z_chkp, z_bnd, z_wth, z_eq, z_le, z_lt, z_if, z_ifn, h42.1, h42.2, cd2.2, jX3_putOn_85, jX3_putOn_103, hsh, cs.dots, hx]
        rw [← hm3]
        exact g1
      · have ed : dt B L j = 0 := if_neg cd2
        have eu : ld A B L (j + 1) j = ld A B L (j + 1) (j + 1) := by
          rw [← ld_up2 (A := A) (B := B) (L := L) (a := j + 1) k3, ed]
          funext q
          unfold upq
          by_cases c : q = 9 + 4 * j
          · rw [if_pos c, c, ld_dot k3, if_neg (Nat.lt_irrefl j)]
          · rw [if_neg c]
        rw [eu] at cs
        obtain ⟨m4, g1, g2, g3⟩ := ih (j + 1) n2 m2 (by omega) h42 cs (by rw [ps_s, ed]; omega)
        rw [ps_s, ed] at g1
        exact ⟨m4, g1, g2, f2.tr g3⟩
  obtain ⟨m2, g1, g2, g3⟩ := key (JJ B L) 0 FU m1 (Nat.zero_add _) (h4.eqv (f1.1 _ _ _ rfl) (fun i => f1.1 _ _ _ rfl)) c1 (by show 13 < 4096 + 0; omega)
  refine ⟨m2, ?_, g2, f1.tr g3⟩
  unfold jX3_putOn_27
  rw [z0]
  exact g1
theorem op_load {m : gM} (hi : HIq m) : Okq (fL_load m) fX6_load := by
  obtain ⟨A, n, p, Sv, Sn, K, B, L, hg, hc, hr⟩ := hi
  have hL : L ≤ 12 := hg.2.2.2.2.2.2.1
  have hB := hg.2.2.2.2.2.2.2
  have w := hg.1
  have k16 := hc.2.2.2.2.1
  have hJ6 := JJ_le B L
  have hJL := JJ_ps B L
  by_cases c : 0 < JJ B L ∧ L ≤ psq B L (JJ B L)
  · have hL0 : 0 < L := Nat.lt_of_le_of_lt (Nat.zero_le _) (JJ_in (B := B) (L := L) (k := 0) c.1).1
    have hw1 : WF (ld A B L (JJ B L) (JJ B L)) := ld_WF w (fun s h1 h2 => (JJ_in h1).2.1)
    refine ok_ret hr (A1 := ld A B L (JJ B L) (JJ B L)) (n1 := min (n + 1) 6) (p1 := if p < 5 then p + 1 else 0) (Sv1 := psh A Sv) (Sn1 := Sn) (K1 := K) (B1 := B) (L1 := 0) (r := nI (JJ B L)) ?_ (fun m h => ?_) (GV_buf (GV_push hg hw1 (ld_WP hg.2.1)) (by decide) (fun i hi => absurd hi (Nat.not_lt_zero i)))
    · obtain ⟨m1, a1, a2, a3, ic, fc, a4⟩ := save_mod hc hg.2.2.1 hg.2.2.2.1
      obtain ⟨m2, e2, c2, f2⟩ := fputOn a2 w ic.2.2.2.2 hL hB c.2
      obtain ⟨b1, b2⟩ := a4 _ m2 f2 c2
      refine ⟨si m2 16 0 1 (nI 0), ?_, b1.len, b2.tr (fun cc t i h => by rw [gi_si, if_neg (fun z => by omega)])⟩
      unfold fL_load fX5_load
      simp (disch := omega) only [z_nn2, z0, z1, z2, z3, z4, z5, z6, z7, z8, z9, z10, z11, z12, z13, z14, z15, z16, z17, z18, z19, z20, z23, z24, z28, z31, z32, z33, z45, z46, z47, z48, z52, z57, z60, z63, z65, z70, z80, z95, z100, z126, z127, z128, z200, z240, z255, z400, z480, z500, z840, z1023, z2000, z99999, z1073741824, z_nn, z_add, z_sub, z_mul, z_div, z_rem, z_cl, z_in, z_chk, z_chkp, z_bnd, z_bn2, z_wth, z_bxr, z_bxl, z_bx2r, z_bx2l, z_bz0, z_bz1, z_mx, z_mn, z_tb1, z_tb0, z_eq, z_le, z_lt, z_nn_lt, z_nn_le, z_nn_ge, z_nn_gt, z_nn_eq, z_nn_eq2, z_bit, z_wow, z_wo, z_or, z_shl, z_if, z_ifn, fbit, if_true, if_false, Nat.zero_add, Nat.add_zero, not_false_iff, not_true, k16, ferr hc.2.2.2.2 hL hB, a1, e2]
    · obtain ⟨m1, e1, f1, r1, w1⟩ := freads (h.th (v := nI 0)).2.2.2 hL hB
      rw [if_pos c] at w1
      obtain ⟨m2, a1, a2, a3, a4, a5, a6⟩ := saves_mod (h.th.ft f1) hg.2.2.1
      unfold fX6_load
      simp (disch := omega) only [z_nn2, z0, z1, z2, z3, z4, z5, z6, z7, z8, z9, z10, z11, z12, z13, z14, z15, z16, z17, z18, z19, z20, z23, z24, z28, z31, z32, z33, z45, z46, z47, z48, z52, z57, z60, z63, z65, z70, z80, z95, z100, z126, z127, z128, z200, z240, z255, z400, z480, z500, z840, z1023, z2000, z99999, z1073741824, z_nn, z_add, z_sub, z_mul, z_div, z_rem, z_cl, z_in, z_chk, z_chkp, z_bnd, z_bn2, z_wth, z_bxr, z_bxl, z_bx2r, z_bx2l, z_bz0, z_bz1, z_mx, z_mn, z_tb1, z_tb0, z_eq, z_le, z_lt, z_nn_lt, z_nn_le, z_nn_ge, z_nn_gt, z_nn_eq, z_nn_eq2, z_bit, z_wow, z_wo, z_or, z_shl, z_if, z_ifn, fbit, if_true, if_false, Nat.zero_add, Nat.add_zero, not_false_iff, not_true, e1, w1, a1]
      obtain ⟨m3, hm3⟩ : ∃ q, q = si m2 21 0 7 (nI 0) := ⟨_, rfl⟩
      rw [← hm3]
      have g3 : ∀ cc t i, ¬ (cc = 21 ∧ i = 7) → gi m3 cc t i = gi m2 cc t i := fun cc t i hc => by rw [hm3, gi_si, if_neg (fun z => hc ⟨z.1, z.2.2⟩)]
      have g12 : gi m3 21 0 12 = nI (JJ B L) := by rw [g3 _ _ _ (by omega), a4 12 (by decide)]; exact r1.2.1
      have g27 : ∀ k, k < JJ B L → gi m3 27 0 k = nI (sgnq (B (psq B L k))) ∧ gi m3 28 0 k = nI (dt B L k) := fun k hk => by
        rw [g3 _ _ _ (by omega), g3 _ _ _ (by omega), a5 27 0 k (by decide), a5 28 0 k (by decide)]
        exact r1.2.2 k hk
      have rm3 : RMq A m3 := fun i hi => (g3 22 0 i (by omega)).trans (a2 i hi)
      refine loop_ex (fun fu x m4 => lX6_load_33 fu (nI x) m4) (fun x m4 => Frq (fun c _ => c == 22) m3 m4 ∧ RMq (fun q => if q < 8 + 4 * x then ld A B L (JJ B L) (JJ B L) q else A q) m4) (fun o => ∃ m4, o = some (nI (JJ B L), m4) ∧ IR (ld A B L (JJ B L) (JJ B L)) (min (n + 1) 6) (psh A Sv) Sn K B 0 m4 ∧ FRe m m4 ∧ gi m4 21 0 0 = nI 0) 6 (fun fu x m4 hx hI => ?_) (fun fu m4 hI => ?_) FU 0 m3 (by decide) (by decide) ⟨Frq.rf, ?_⟩
      · obtain ⟨b1, b2⟩ := hI
        have h12 : gi m4 21 0 12 = nI (JJ B L) := by rw [b1.1 21 0 12 rfl]; exact g12
        have h27 : ∀ k, k < JJ B L → gi m4 27 0 k = nI (sgnq (B (psq B L k))) ∧ gi m4 28 0 k = nI (dt B L k) := fun k hk => by
          rw [b1.1 27 0 k rfl, b1.1 28 0 k rfl]; exact g27 k hk
        have u1 := RM_up (k := 8 + 4 * x) (v := if x < JJ B L then sgnq (B (psq B L x)) else 17) b2
        have u2 := RM_up (k := 9 + 4 * x) (v := if x < JJ B L then dt B L x else 0) u1
        have eu : ∀ q, upq (upq (fun q => if q < 8 + 4 * x then ld A B L (JJ B L) (JJ B L) q else A q) (8 + 4 * x) (if x < JJ B L then sgnq (B (psq B L x)) else 17)) (9 + 4 * x) (if x < JJ B L then dt B L x else 0) q = if q < 8 + 4 * (x + 1) then ld A B L (JJ B L) (JJ B L) q else A q := by
          intro q
          by_cases q9 : q = 9 + 4 * x
          · rw [up_eq q9, if_pos (show q < 8 + 4 * (x + 1) by omega), q9, ld_dot hx]
          · rw [up_ne q9]
            by_cases q8 : q = 8 + 4 * x
            · rw [up_eq q8, if_pos (show q < 8 + 4 * (x + 1) by omega), q8, ld_sign hx]
            · rw [up_ne q8]
              by_cases ql : q < 8 + 4 * x
              · rw [if_pos ql, if_pos (by omega)]
              · rw [if_neg ql]
                by_cases ql2 : q < 8 + 4 * (x + 1)
                · rw [if_pos ql2, ld_else (fun s hs z => by omega) (fun s hs z => by omega)]
                · rw [if_neg ql2]
        refine ⟨si (si m4 22 0 (8 + 4 * x) (nI (if x < JJ B L then sgnq (B (psq B L x)) else 17))) 22 0 (9 + 4 * x) (nI (if x < JJ B L then dt B L x else 0)), ⟨(b1.tr (Frq.si (i := 8 + 4 * x) (v := nI (if x < JJ B L then sgnq (B (psq B L x)) else 17)) rfl)).tr (Frq.si (i := 9 + 4 * x) (v := nI (if x < JJ B L then dt B L x else 0)) rfl), fun q hq => (u2 q hq).trans (congrArg nI (eu q))⟩, ?_⟩
        rw [lX6_load_33_s]
        unfold jX6_load_61 jX6_load_85 fX6_lay
        have h12b : gi (si m4 22 0 (8 + 4 * x) (nI (if x < JJ B L then sgnq (B (psq B L x)) else 17))) 21 0 12 = nI (JJ B L) := by rw [gi_si, if_neg (fun z => by omega)]; exact h12
        by_cases cx : x < JJ B L
        · obtain ⟨y1, y2⟩ := h27 x cx
          have y3 : gi (si m4 22 0 (8 + 4 * x) (nI (sgnq (B (psq B L x))))) 28 0 x = nI (dt B L x) := by rw [gi_si, if_neg (fun z => by omega)]; exact y2
          rw [if_pos cx] at h12b
          rw [if_pos cx, if_pos cx]
          simp (disch := omega) only [z_nn2, z0, z1, z2, z3, z4, z5, z6, z7, z8, z9, z10, z11, z12, z13, z14, z15, z16, z17, z18, z19, z20, z23, z24, z28, z31, z32, z33, z45, z46, z47, z48, z52, z57, z60, z63, z65, z70, z80, z95, z100, z126, z127, z128, z200, z240, z255, z400, z480, z500, z840, z1023, z2000, z99999, z1073741824, z_nn, z_add, z_sub, z_mul, z_div, z_rem, z_cl, z_in, z_chk, z_chkp, z_bnd, z_bn2, z_wth, z_bxr, z_bxl, z_bx2r, z_bx2l, z_bz0, z_bz1, z_mx, z_mn, z_tb1, z_tb0, z_eq, z_le, z_lt, z_nn_lt, z_nn_le, z_nn_ge, z_nn_gt, z_nn_eq, z_nn_eq2, z_bit, z_wow, z_wo, z_or, z_shl, z_if, z_ifn, fbit, if_true, if_false, Nat.zero_add, Nat.add_zero, not_false_iff, not_true, h12, y1, h12b, y3, show 8 + 4 * x + 1 = 9 + 4 * x by omega]
        · rw [if_neg cx] at h12b
          rw [if_neg cx, if_neg cx]
          simp (disch := omega) only [z_nn2, z0, z1, z2, z3, z4, z5, z6, z7, z8, z9, z10, z11, z12, z13, z14, z15, z16, z17, z18, z19, z20, z23, z24, z28, z31, z32, z33, z45, z46, z47, z48, z52, z57, z60, z63, z65, z70, z80, z95, z100, z126, z127, z128, z200, z240, z255, z400, z480, z500, z840, z1023, z2000, z99999, z1073741824, z_nn, z_add, z_sub, z_mul, z_div, z_rem, z_cl, z_in, z_chk, z_chkp, z_bnd, z_bn2, z_wth, z_bxr, z_bxl, z_bx2r, z_bx2l, z_bz0, z_bz1, z_mx, z_mn, z_tb1, z_tb0, z_eq, z_le, z_lt, z_nn_lt, z_nn_le, z_nn_ge, z_nn_gt, z_nn_eq, z_nn_eq2, z_bit, z_wow, z_wo, z_or, z_shl, z_if, z_ifn, fbit, if_true, if_false, Nat.zero_add, Nat.add_zero, not_false_iff, not_true, h12, h12b, show 8 + 4 * x + 1 = 9 + 4 * x by omega]
      · obtain ⟨b1, b2⟩ := hI
        have h12 : gi m4 21 0 12 = nI (JJ B L) := by rw [b1.1 21 0 12 rfl]; exact g12
        rw [lX6_load_33_s]
        simp (disch := omega) only [z_nn2, z0, z1, z2, z3, z4, z5, z6, z7, z8, z9, z10, z11, z12, z13, z14, z15, z16, z17, z18, z19, z20, z23, z24, z28, z31, z32, z33, z45, z46, z47, z48, z52, z57, z60, z63, z65, z70, z80, z95, z100, z126, z127, z128, z200, z240, z255, z400, z480, z500, z840, z1023, z2000, z99999, z1073741824, z_nn, z_add, z_sub, z_mul, z_div, z_rem, z_cl, z_in, z_chk, z_chkp, z_bnd, z_bn2, z_wth, z_bxr, z_bxl, z_bx2r, z_bx2l, z_bz0, z_bz1, z_mx, z_mn, z_tb1, z_tb0, z_eq, z_le, z_lt, z_nn_lt, z_nn_le, z_nn_ge, z_nn_gt, z_nn_eq, z_nn_eq2, z_bit, z_wow, z_wo, z_or, z_shl, z_if, z_ifn, fbit, if_true, if_false, Nat.zero_add, Nat.add_zero, not_false_iff, not_true, h12]
        have rmF : RMq (ld A B L (JJ B L) (JJ B L)) m4 := fun q hq => by
          refine (b2 q hq).trans (congrArg nI ?_)
          dsimp only
          by_cases ql : q < 8 + 4 * 6
          · rw [if_pos ql]
          · rw [if_neg ql, ld_else (fun s hs z => by omega) (fun s hs z => by omega)]
        have pre := a6 (ld A B L (JJ B L) (JJ B L)) (fun cc t i => if cc = 22 then gi m4 cc t i else gi m2 cc t i, m4.2) (fun cc i h1 h2 h3 => if_neg h3) (fun q hq => by show (if (22 : Nat) = 22 then gi m4 22 0 q else gi m2 22 0 q) = _; rw [if_pos rfl]; exact rmF q hq)
        obtain ⟨-, p2, p3, p4⟩ := pre
        have s4 : ∀ cc t i, cc ≠ 22 → ¬ (cc = 21 ∧ i = 7) → gi m4 cc t i = gi m2 cc t i := fun cc t i h1 h2 => (b1.1 cc t i (by simp; exact h1)).trans (g3 cc t i h2)
        have s5 : ∀ cc i, cc ≠ 22 → ¬ (cc = 21 ∧ i = 7) → gi m4 cc 0 i = gi ((fun cc t i => if cc = 22 then gi m4 cc t i else gi m2 cc t i, m4.2) : gM) cc 0 i := fun cc i h1 h2 => (s4 cc 0 i h1 h2).trans (if_neg h1).symm
        refine ⟨m4, rfl, ⟨rmF, p2.eqv (s5 21 3 (by decide) (by omega)) (fun i => s5 23 i (by decide) (by omega)), p3.eqv (fun i => s5 25 i (by decide) (by omega)) (fun i => s5 24 i (by decide) (by omega)), ?_, fun i hi => absurd hi (Nat.not_lt_zero i)⟩, ⟨fun cc t i hcc => ?_, ?_⟩, ?_⟩
        · rw [b1.1 21 0 7 rfl, hm3, gi_si, if_pos ⟨rfl, rfl, rfl⟩]
        · rw [s4 cc t i (by omega) (by omega), a3.1 cc t i hcc, f1.fre.1 cc t i hcc, gi_si, if_neg (fun z => by omega)]
        · rw [b1.2 34 0, hm3]
          show gl m2 34 0 = _
          rw [a3.2, f1.2 34 0]
          rfl
        · rw [s4 21 0 0 (by decide) (by omega), a4 0 (by decide), f1.1 21 0 0 (by decide) (by decide) (by omega), gi_si, if_pos ⟨rfl, rfl, rfl⟩]
      · intro q hq
        refine (rm3 q hq).trans (congrArg nI ?_)
        dsimp only
        by_cases ql : q < 8 + 4 * 0
        · rw [if_pos ql, ld_else (fun s hs z => by omega) (fun s hs z => by omega)]
        · rw [if_neg ql]
  · refine ok_thr hr (k := nI 1) (nI_ne (by decide) (by decide)) ⟨m, ?_, hc, FCq.rf⟩ (fun m h => ?_) hg
    · unfold fL_load fX5_load jX5_load_27
      by_cases c0 : L = 0
      · simp (disch := omega) only [z_nn2, z0, z1, z2, z3, z4, z5, z6, z7, z8, z9, z10, z11, z12, z13, z14, z15, z16, z17, z18, z19, z20, z23, z24, z28, z31, z32, z33, z45, z46, z47, z48, z52, z57, z60, z63, z65, z70, z80, z95, z100, z126, z127, z128, z200, z240, z255, z400, z480, z500, z840, z1023, z2000, z99999, z1073741824, z_nn, z_add, z_sub, z_mul, z_div, z_rem, z_cl, z_in, z_chk, z_chkp, z_bnd, z_bn2, z_wth, z_bxr, z_bxl, z_bx2r, z_bx2l, z_bz0, z_bz1, z_mx, z_mn, z_tb1, z_tb0, z_eq, z_le, z_lt, z_nn_lt, z_nn_le, z_nn_ge, z_nn_gt, z_nn_eq, z_nn_eq2, z_bit, z_wow, z_wo, z_or, z_shl, z_if, z_ifn, fbit, if_true, if_false, Nat.zero_add, Nat.add_zero, not_false_iff, not_true, k16, z_bx2l]
      · have hlt : psq B L (JJ B L) < L := by
          by_cases z : 0 < JJ B L
          · exact Nat.lt_of_not_le (fun y => c ⟨z, y⟩)
          · have : JJ B L = 0 := by omega
            rw [this]
            show 0 < L
            omega
        simp (disch := omega) only [z_nn2, z0, z1, z2, z3, z4, z5, z6, z7, z8, z9, z10, z11, z12, z13, z14, z15, z16, z17, z18, z19, z20, z23, z24, z28, z31, z32, z33, z45, z46, z47, z48, z52, z57, z60, z63, z65, z70, z80, z95, z100, z126, z127, z128, z200, z240, z255, z400, z480, z500, z840, z1023, z2000, z99999, z1073741824, z_nn, z_add, z_sub, z_mul, z_div, z_rem, z_cl, z_in, z_chk, z_chkp, z_bnd, z_bn2, z_wth, z_bxr, z_bxl, z_bx2r, z_bx2l, z_bz0, z_bz1, z_mx, z_mn, z_tb1, z_tb0, z_eq, z_le, z_lt, z_nn_lt, z_nn_le, z_nn_ge, z_nn_gt, z_nn_eq, z_nn_eq2, z_bit, z_wow, z_wo, z_or, z_shl, z_if, z_ifn, fbit, if_true, if_false, Nat.zero_add, Nat.add_zero, not_false_iff, not_true, k16, ferr hc.2.2.2.2 hL hB, z_bx2l]
    · obtain ⟨m1, e1, f1, r1, w1⟩ := freads (h.th (v := nI 0)).2.2.2 hL hB
      rw [if_neg c] at w1
      unfold fX6_load fX6_fails
      simp (disch := omega) only [z_nn2, z0, z1, z2, z3, z4, z5, z6, z7, z8, z9, z10, z11, z12, z13, z14, z15, z16, z17, z18, z19, z20, z23, z24, z28, z31, z32, z33, z45, z46, z47, z48, z52, z57, z60, z63, z65, z70, z80, z95, z100, z126, z127, z128, z200, z240, z255, z400, z480, z500, z840, z1023, z2000, z99999, z1073741824, z_nn, z_add, z_sub, z_mul, z_div, z_rem, z_cl, z_in, z_chk, z_chkp, z_bnd, z_bn2, z_wth, z_bxr, z_bxl, z_bx2r, z_bx2l, z_bz0, z_bz1, z_mx, z_mn, z_tb1, z_tb0, z_eq, z_le, z_lt, z_nn_lt, z_nn_le, z_nn_ge, z_nn_gt, z_nn_eq, z_nn_eq2, z_bit, z_wow, z_wo, z_or, z_shl, z_if, z_ifn, fbit, if_true, if_false, Nat.zero_add, Nat.add_zero, not_false_iff, not_true, e1, w1]
      exact ⟨_, _, rfl, (h.th.ft f1).th, ((FRe.si (by decide)).tr f1.fre).tr (FRe.si (by decide)), by rw [gi_si, if_pos ⟨rfl, rfl, rfl⟩]⟩
