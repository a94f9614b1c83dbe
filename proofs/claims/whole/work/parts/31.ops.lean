/-! SNAPSHOTS, undo, looks, what would be -/
theorem ICq.lk {P : Nat → Nat → Bool} {A : Nat → Nat} {n p : Nat} {Sv Sn : Nat → Nat → Nat} {K B : Nat → Nat} {L : Nat} {m m1 : gM} (h : ICq A n p Sv Sn K B L m) (hf : Frq P m m1) (hp : ∀ c t, c < 6 → t ≠ 1 → P c t = false) (hp2 : ∀ c, (c = 12 ∨ c = 16 ∨ c = 17 ∨ c = 19) → P c 0 = false) (he : ECq 0 A m1) (hp3 : ∀ c t, 21 ≤ c → P c t = false) : ICq A n p Sv Sn K B L m1 ∧ FCq m m1 := by
  obtain ⟨h1, h2, h3, h4, h5⟩ := h
  refine ⟨⟨h1.eqv (fun c i hc => hf.1 c 0 i (hp c 0 hc (by decide))), he, h3.eqv (fun c t i hc ht => hf.1 c t i (hp c t hc (by omega))) (hf.1 _ _ _ (hp2 12 (by omega))) (hf.1 _ _ _ (hp2 12 (by omega))), h4.eqv (fun c t i hc ht _ => hf.1 c t i (hp c t hc (by omega))) (fun i => hf.1 _ _ _ (hp2 19 (by omega))), h5.eqv (hf.1 _ _ _ (hp2 16 (by omega))) (fun i => hf.1 _ _ _ (hp2 17 (by omega)))⟩, hf.fc hp3⟩
theorem ICq.pe {A : Nat → Nat} {n p : Nat} {Sv Sn : Nat → Nat → Nat} {K B : Nat → Nat} {L : Nat} {m m1 : gM} (h : ICq A n p Sv Sn K B L m) (hf : Frq (PEq 0) m m1) (he : ECq 0 A m1) : ICq A n p Sv Sn K B L m1 ∧ FCq m m1 := h.lk hf (fun c t hc _ => PE_cs c t hc) (fun c hc => by unfold PEq; simp; omega) he (fun c t hc => by unfold PEq; simp; omega)
theorem ICq.pb {A : Nat → Nat} {n p : Nat} {Sv Sn : Nat → Nat → Nat} {K B : Nat → Nat} {L : Nat} {m m1 : gM} (h : ICq A n p Sv Sn K B L m) (hf : Frq PBq m m1) : ICq A n p Sv Sn K B L m1 ∧ FCq m m1 := h.lk hf (fun c t hc _ => by unfold PBq; simp; omega) (fun c hc => by unfold PBq; simp; omega) (h.2.1.eqv (fun c i h1 h2 => hf.1 c 0 i (by unfold PBq; simp; omega))) (fun c t hc => by unfold PBq; simp; omega)
theorem ICq.p1 {A : Nat → Nat} {n p : Nat} {Sv Sn : Nat → Nat → Nat} {K B : Nat → Nat} {L : Nat} {m m1 : gM} (h : ICq A n p Sv Sn K B L m) (hf : Frq P1t m m1) : ICq A n p Sv Sn K B L m1 ∧ FCq m m1 := h.lk hf (fun c t hc ht => by unfold P1t; simp; omega) (fun c hc => by unfold P1t; simp) (h.2.1.eqv (fun c i h1 h2 => hf.1 c 0 i (by unfold P1t; simp))) (fun c t hc => by unfold P1t; simp; omega)
theorem op_keep {x1 : Int32} {m : gM} (hi : HIq m) : Okq (fL_keep x1 m) (fX6_keep x1) := by
  obtain ⟨A, n, p, Sv, Sn, K, B, L, hg, hc, hr⟩ := hi
  rcases ixZ x1 (n := 2) (by decide) with hb | ⟨i, hi, rfl⟩
  · obtain ⟨c1, c2⟩ := cSnap_bad hb
    refine ok_thr hr (k := nI 1) (nI_ne (by decide) (by decide)) ⟨m, ?_, hc, FCq.rf⟩ (fun m h => ?_) hg
    · unfold fL_keep fX5_keep
      simp (disch := omega) only [z_nn2, z0, z1, z2, z3, z4, z5, z6, z7, z8, z9, z10, z11, z12, z13, z14, z15, z16, z17, z18, z19, z20, z23, z24, z28, z31, z32, z33, z45, z46, z47, z48, z52, z57, z60, z63, z65, z70, z80, z95, z100, z126, z127, z128, z200, z240, z255, z400, z480, z500, z840, z1023, z2000, z99999, z1073741824, z_nn, z_add, z_sub, z_mul, z_div, z_rem, z_cl, z_in, z_chk, z_chkp, z_bnd, z_bn2, z_wth, z_bxr, z_bxl, z_bx2r, z_bx2l, z_bz0, z_bz1, z_mx, z_mn, z_tb1, z_tb0, z_eq, z_le, z_lt, z_nn_lt, z_nn_le, z_nn_ge, z_nn_gt, z_nn_eq, z_nn_eq2, z_bit, z_wow, z_wo, z_or, z_shl, z_if, z_ifn, fbit, if_true, if_false, Nat.zero_add, Nat.add_zero, not_false_iff, not_true, c1, z_bx2l]
    · unfold fX6_keep fX6_fails
      simp (disch := omega) only [z_nn2, z0, z1, z2, z3, z4, z5, z6, z7, z8, z9, z10, z11, z12, z13, z14, z15, z16, z17, z18, z19, z20, z23, z24, z28, z31, z32, z33, z45, z46, z47, z48, z52, z57, z60, z63, z65, z70, z80, z95, z100, z126, z127, z128, z200, z240, z255, z400, z480, z500, z840, z1023, z2000, z99999, z1073741824, z_nn, z_add, z_sub, z_mul, z_div, z_rem, z_cl, z_in, z_chk, z_chkp, z_bnd, z_bn2, z_wth, z_bxr, z_bxl, z_bx2r, z_bx2l, z_bz0, z_bz1, z_mx, z_mn, z_tb1, z_tb0, z_eq, z_le, z_lt, z_nn_lt, z_nn_le, z_nn_ge, z_nn_gt, z_nn_eq, z_nn_eq2, z_bit, z_wow, z_wo, z_or, z_shl, z_if, z_ifn, fbit, if_true, if_false, Nat.zero_add, Nat.add_zero, not_false_iff, not_true, c2]
      exact xthr h
  · obtain ⟨d1, d2⟩ := cSnap_ok hi
    obtain ⟨w, wp, hn, hp, hsv, hsn, hL, hB⟩ := hg
    refine ok_ret hr (A1 := A) (n1 := n) (p1 := p) (Sv1 := Sv) (Sn1 := fun q => if q = i then A else Sn q) (K1 := upq K i 1) (B1 := B) (L1 := L) (r := nI (A 5)) ?_ (fun m h => ?_) ⟨w, wp, hn, hp, hsv, fun q hq => ?_, hL, hB⟩
    · obtain ⟨h1, h2, h3, h4, h5⟩ := hc
      obtain ⟨m2, e2, c2, f2⟩ := fcopy (t0 := 2 + i) h1 (by omega)
      have f3 : Frq (fun c t => (decide (c < 6) && t == 2 + i) || c == 19) m (si m2 19 0 i (nI 1)) := (f2.mono (fun c t hc => by
        unfold PC2
        simp at hc ⊢
        omega)).tr (Frq.si (by simp))
      have c3 : CS 0 A (si m2 19 0 i (nI 1)) := h1.eqv (fun c j hc => f3.1 c 0 j (by simp; omega))
      refine ⟨_, ?_, ⟨c3, h2.eqv (fun c j ha hb => f3.1 c 0 j (by simp; omega)), h3.eqv (fun c t j ha hb => f3.1 c t j (by simp; omega)) (f3.1 _ _ _ (by simp)) (f3.1 _ _ _ (by simp)), ⟨fun q hq => ?_, fun q hq hk => ?_⟩, h5.eqv (f3.1 _ _ _ (by simp)) (fun j => f3.1 _ _ _ (by simp))⟩, f3.fc (fun c t hc => by simp; omega)⟩
      · unfold fL_keep fX5_keep
        simp (disch := omega) only [z_nn2, z0, z1, z2, z3, z4, z5, z6, z7, z8, z9, z10, z11, z12, z13, z14, z15, z16, z17, z18, z19, z20, z23, z24, z28, z31, z32, z33, z45, z46, z47, z48, z52, z57, z60, z63, z65, z70, z80, z95, z100, z126, z127, z128, z200, z240, z255, z400, z480, z500, z840, z1023, z2000, z99999, z1073741824, z_nn, z_add, z_sub, z_mul, z_div, z_rem, z_cl, z_in, z_chk, z_chkp, z_bnd, z_bn2, z_wth, z_bxr, z_bxl, z_bx2r, z_bx2l, z_bz0, z_bz1, z_mx, z_mn, z_tb1, z_tb0, z_eq, z_le, z_lt, z_nn_lt, z_nn_le, z_nn_ge, z_nn_gt, z_nn_eq, z_nn_eq2, z_bit, z_wow, z_wo, z_or, z_shl, z_if, z_ifn, fbit, if_true, if_false, Nat.zero_add, Nat.add_zero, not_false_iff, not_true, d1, e2, z_nar1, c3.ticks]
      · unfold upq
        by_cases c : q = i
        · rw [if_pos c, gi_si, if_pos ⟨rfl, rfl, c⟩]
        · rw [if_neg c, gi_si, if_neg (fun z => c z.2.2), f2.1 19 0 q (by unfold PC2; simp)]
          exact h4.1 q hq
      · by_cases c : q = i
        · subst c
          dsimp only
          rw [if_pos rfl]
          exact CS_si (by decide) c2
        · dsimp only
          rw [if_neg c]
          rw [up_ne c] at hk
          exact (h4.2 q hq hk).eqv (fun c2 j ha => f3.1 _ _ _ (by simp; omega))
    · obtain ⟨h1, h2, h3, h4⟩ := h
      unfold fX6_keep
      simp (disch := omega) only [z_nn2, z0, z1, z2, z3, z4, z5, z6, z7, z8, z9, z10, z11, z12, z13, z14, z15, z16, z17, z18, z19, z20, z23, z24, z28, z31, z32, z33, z45, z46, z47, z48, z52, z57, z60, z63, z65, z70, z80, z95, z100, z126, z127, z128, z200, z240, z255, z400, z480, z500, z840, z1023, z2000, z99999, z1073741824, z_nn, z_add, z_sub, z_mul, z_div, z_rem, z_cl, z_in, z_chk, z_chkp, z_bnd, z_bn2, z_wth, z_bxr, z_bxl, z_bx2r, z_bx2l, z_bz0, z_bz1, z_mx, z_mn, z_tb1, z_tb0, z_eq, z_le, z_lt, z_nn_lt, z_nn_le, z_nn_ge, z_nn_gt, z_nn_eq, z_nn_eq2, z_bit, z_wow, z_wo, z_or, z_shl, z_if, z_ifn, fbit, if_true, if_false, Nat.zero_add, Nat.add_zero, not_false_iff, not_true, d2]
      refine loop_ex (fun fu x m2 => lX6_keep_22 fu (nI i) (nI x) m2) (fun x m2 => (∀ c t j, c ≠ 24 → gi m2 c t j = gi (si m 21 0 0 (nI 0)) c t j) ∧ (∀ k, k < x → gi m2 24 0 (80 * i + k) = nI (A k)) ∧ (∀ q, q < 80 * i ∨ 80 * i + 80 ≤ q → gi m2 24 0 q = gi m 24 0 q) ∧ gl m2 34 0 = gl m 34 0) (fun o => ∃ m2, o = some (nI (A 5), m2) ∧ IR A n Sv (fun q => if q = i then A else Sn q) (upq K i 1) B L m2 ∧ FRe m m2 ∧ gi m2 21 0 0 = nI 0) 80 (fun fu x m2 hx hI => ?_) (fun fu m2 hI => ?_) FU 0 _ (by decide) (by decide) ⟨fun _ _ _ _ => rfl, fun k hk => absurd hk (Nat.not_lt_zero k), fun q _ => by rw [gi_si, if_neg (fun z => by omega)], rfl⟩
      · obtain ⟨a1, a2, a3, a4⟩ := hI
        have hx22 : gi m2 22 0 x = nI (A x) := by rw [a1 22 0 x (by decide), gi_si, if_neg (fun z => by omega)]; exact h1 x hx
        refine ⟨si m2 24 0 (80 * i + x) (nI (A x)), ⟨fun c t j hc => ?_, fun k hk => ?_, fun q hq => ?_, a4⟩, ?_⟩
        · rw [gi_si, if_neg (fun z => hc z.1)]
          exact a1 c t j hc
        · by_cases c : k = x
          · subst c
            rw [gi_si, if_pos ⟨rfl, rfl, rfl⟩]
          · rw [gi_si, if_neg (fun z => by omega)]
            exact a2 k (by omega)
        · rw [gi_si, if_neg (fun z => by omega)]
          exact a3 q hq
        · rw [lX6_keep_22_s]
          simp (disch := omega) only [z_nn2, z0, z1, z2, z3, z4, z5, z6, z7, z8, z9, z10, z11, z12, z13, z14, z15, z16, z17, z18, z19, z20, z23, z24, z28, z31, z32, z33, z45, z46, z47, z48, z52, z57, z60, z63, z65, z70, z80, z95, z100, z126, z127, z128, z200, z240, z255, z400, z480, z500, z840, z1023, z2000, z99999, z1073741824, z_nn, z_add, z_sub, z_mul, z_div, z_rem, z_cl, z_in, z_chk, z_chkp, z_bnd, z_bn2, z_wth, z_bxr, z_bxl, z_bx2r, z_bx2l, z_bz0, z_bz1, z_mx, z_mn, z_tb1, z_tb0, z_eq, z_le, z_lt, z_nn_lt, z_nn_le, z_nn_ge, z_nn_gt, z_nn_eq, z_nn_eq2, z_bit, z_wow, z_wo, z_or, z_shl, z_if, z_ifn, fbit, if_true, if_false, Nat.zero_add, Nat.add_zero, not_false_iff, not_true, hx22]
      · obtain ⟨a1, a2, a3, a4⟩ := hI
        have e5 : gi (si m2 25 0 i (nI 1)) 22 0 5 = nI (A 5) := by rw [gi_si, if_neg (fun z => by omega), a1 22 0 5 (by decide), gi_si, if_neg (fun z => by omega)]; exact h1 5 (by decide)
        rw [lX6_keep_22_s]
        simp (disch := omega) only [z_nn2, z0, z1, z2, z3, z4, z5, z6, z7, z8, z9, z10, z11, z12, z13, z14, z15, z16, z17, z18, z19, z20, z23, z24, z28, z31, z32, z33, z45, z46, z47, z48, z52, z57, z60, z63, z65, z70, z80, z95, z100, z126, z127, z128, z200, z240, z255, z400, z480, z500, z840, z1023, z2000, z99999, z1073741824, z_nn, z_add, z_sub, z_mul, z_div, z_rem, z_cl, z_in, z_chk, z_chkp, z_bnd, z_bn2, z_wth, z_bxr, z_bxl, z_bx2r, z_bx2l, z_bz0, z_bz1, z_mx, z_mn, z_tb1, z_tb0, z_eq, z_le, z_lt, z_nn_lt, z_nn_le, z_nn_ge, z_nn_gt, z_nn_eq, z_nn_eq2, z_bit, z_wow, z_wo, z_or, z_shl, z_if, z_ifn, fbit, if_true, if_false, Nat.zero_add, Nat.add_zero, not_false_iff, not_true, jX6_keep_51, z_nar1, e5]
        have ne : ∀ c j, c ≠ 24 → c ≠ 25 → ¬ (c = 21 ∧ j = 0) → gi (si m2 25 0 i (nI 1)) c 0 j = gi m c 0 j := fun c j ha hb hd => by
          rw [gi_si, if_neg (fun z => hb z.1), a1 c 0 j ha, gi_si, if_neg (fun z => hd ⟨z.1, z.2.2⟩)]
        refine ⟨_, rfl, ⟨fun k hk => ?_, ⟨?_, fun j k hj hk => ?_⟩, ⟨fun q hq => ?_, fun q k hq hk hk2 => ?_⟩, ⟨?_, fun j hj => ?_⟩⟩, ⟨fun c t j hc => ?_, a4⟩, ?_⟩
        · rw [ne 22 k (by decide) (by decide) (by omega)]; exact h1 k hk
        · rw [ne 21 3 (by decide) (by decide) (by omega)]; exact h2.1
        · rw [ne 23 _ (by decide) (by decide) (by omega)]; exact h2.2 j k hj hk
        · unfold upq
          by_cases c : q = i
          · rw [if_pos c, gi_si, if_pos ⟨rfl, rfl, c⟩]
          · rw [if_neg c, gi_si, if_neg (fun z => c z.2.2), a1 25 0 q (by decide), gi_si, if_neg (fun z => by omega)]
            exact h3.1 q hq
        · by_cases c : q = i
          · subst c
            dsimp only
            rw [if_pos rfl, gi_si, if_neg (fun z => by omega)]
            exact a2 k hk2
          · dsimp only
            rw [if_neg c, gi_si, if_neg (fun z => by omega), a3 _ (by omega)]
            rw [up_ne c] at hk
            exact h3.2 q k hq hk hk2
        · rw [ne 21 7 (by decide) (by decide) (by omega)]; exact h4.1
        · rw [ne 26 j (by decide) (by decide) (by omega)]; exact h4.2 j hj
        · rw [gi_si, if_neg (fun z => by omega), a1 c t j (by omega), gi_si, if_neg (fun z => by omega)]
        · rw [gi_si, if_neg (fun z => by omega), a1 21 0 0 (by decide), gi_si, if_pos ⟨rfl, rfl, rfl⟩]
    · by_cases c : q = i
      · subst c
        refine ⟨by rw [up_eq rfl]; exact Nat.le_refl 1, fun _ => ?_⟩
        dsimp only
        rw [if_pos rfl]
        exact ⟨w, wp⟩
      · dsimp only
        rw [up_ne c, if_neg c]
        exact hsn q hq
theorem op_goBack {x1 : Int32} {m : gM} (hi : HIq m) : Okq (fL_goBack x1 m) (fX6_goBack x1) := by
  obtain ⟨A, n, p, Sv, Sn, K, B, L, hg, hc, hr⟩ := hi
  rcases ixZ x1 (n := 2) (by decide) with hb | ⟨i, hi, rfl⟩
  · obtain ⟨c1, c2⟩ := cSnap_bad hb
    refine ok_thr hr (k := nI 1) (nI_ne (by decide) (by decide)) ⟨m, ?_, hc, FCq.rf⟩ (fun m h => ?_) hg
    · unfold fL_goBack fX5_goBack
      simp (disch := omega) only [z_nn2, z0, z1, z2, z3, z4, z5, z6, z7, z8, z9, z10, z11, z12, z13, z14, z15, z16, z17, z18, z19, z20, z23, z24, z28, z31, z32, z33, z45, z46, z47, z48, z52, z57, z60, z63, z65, z70, z80, z95, z100, z126, z127, z128, z200, z240, z255, z400, z480, z500, z840, z1023, z2000, z99999, z1073741824, z_nn, z_add, z_sub, z_mul, z_div, z_rem, z_cl, z_in, z_chk, z_chkp, z_bnd, z_bn2, z_wth, z_bxr, z_bxl, z_bx2r, z_bx2l, z_bz0, z_bz1, z_mx, z_mn, z_tb1, z_tb0, z_eq, z_le, z_lt, z_nn_lt, z_nn_le, z_nn_ge, z_nn_gt, z_nn_eq, z_nn_eq2, z_bit, z_wow, z_wo, z_or, z_shl, z_if, z_ifn, fbit, if_true, if_false, Nat.zero_add, Nat.add_zero, not_false_iff, not_true, c1, z_bx2l]
    · unfold fX6_goBack fX6_fails
      simp (disch := omega) only [z_nn2, z0, z1, z2, z3, z4, z5, z6, z7, z8, z9, z10, z11, z12, z13, z14, z15, z16, z17, z18, z19, z20, z23, z24, z28, z31, z32, z33, z45, z46, z47, z48, z52, z57, z60, z63, z65, z70, z80, z95, z100, z126, z127, z128, z200, z240, z255, z400, z480, z500, z840, z1023, z2000, z99999, z1073741824, z_nn, z_add, z_sub, z_mul, z_div, z_rem, z_cl, z_in, z_chk, z_chkp, z_bnd, z_bn2, z_wth, z_bxr, z_bxl, z_bx2r, z_bx2l, z_bz0, z_bz1, z_mx, z_mn, z_tb1, z_tb0, z_eq, z_le, z_lt, z_nn_lt, z_nn_le, z_nn_ge, z_nn_gt, z_nn_eq, z_nn_eq2, z_bit, z_wow, z_wo, z_or, z_shl, z_if, z_ifn, fbit, if_true, if_false, Nat.zero_add, Nat.add_zero, not_false_iff, not_true, c2]
      exact xthr h
  · obtain ⟨d1, d2⟩ := cSnap_ok hi
    have hK := (hg.2.2.2.2.2.1 i hi)
    have k19 := hc.2.2.2.1.1 i hi
    by_cases c : K i = 1
    · have hS := hK.2 c
      refine ok_ret hr (r := nI (Sn i 5)) ?_ (fun m h => ?_) (GV_push hg hS.1 hS.2)
      · obtain ⟨m1, a1, a2, a3, ic, fc, a4⟩ := save_mod hc hg.2.2.1 hg.2.2.2.1
        have cs := ic.2.2.2.1.2 i hi c
        obtain ⟨m2, e2, c2, f2⟩ := fcopy (t0 := 0) cs (by omega)
        obtain ⟨b1, b2⟩ := a4 _ m2 (f2.mono (fun c t hc => by
          unfold P0s at hc
          unfold PC2
          simp at hc ⊢
          omega)) c2
        refine ⟨_, ?_, b1, b2⟩
        unfold fL_goBack fX5_goBack
        simp (disch := omega) only [z_nn2, z0, z1, z2, z3, z4, z5, z6, z7, z8, z9, z10, z11, z12, z13, z14, z15, z16, z17, z18, z19, z20, z23, z24, z28, z31, z32, z33, z45, z46, z47, z48, z52, z57, z60, z63, z65, z70, z80, z95, z100, z126, z127, z128, z200, z240, z255, z400, z480, z500, z840, z1023, z2000, z99999, z1073741824, z_nn, z_add, z_sub, z_mul, z_div, z_rem, z_cl, z_in, z_chk, z_chkp, z_bnd, z_bn2, z_wth, z_bxr, z_bxl, z_bx2r, z_bx2l, z_bz0, z_bz1, z_mx, z_mn, z_tb1, z_tb0, z_eq, z_le, z_lt, z_nn_lt, z_nn_le, z_nn_ge, z_nn_gt, z_nn_eq, z_nn_eq2, z_bit, z_wow, z_wo, z_or, z_shl, z_if, z_ifn, fbit, if_true, if_false, Nat.zero_add, Nat.add_zero, not_false_iff, not_true, d1, a1, k19, e2, c2.ticks]
      · have k25 := h.2.2.1.1 i hi
        have k24 := h.2.2.1.2 i
        obtain ⟨m1, a1, a2, a3, a4, a5, a6⟩ := saves_mod (h.th (v := nI 0)) hg.2.2.1
        have k25' : gi (si m 21 0 0 (nI 0)) 25 0 i = nI (K i) := by rw [gi_si, if_neg (fun z => by omega)]; exact k25
        unfold fX6_goBack
        simp (disch := omega) only [z_nn2, z0, z1, z2, z3, z4, z5, z6, z7, z8, z9, z10, z11, z12, z13, z14, z15, z16, z17, z18, z19, z20, z23, z24, z28, z31, z32, z33, z45, z46, z47, z48, z52, z57, z60, z63, z65, z70, z80, z95, z100, z126, z127, z128, z200, z240, z255, z400, z480, z500, z840, z1023, z2000, z99999, z1073741824, z_nn, z_add, z_sub, z_mul, z_div, z_rem, z_cl, z_in, z_chk, z_chkp, z_bnd, z_bn2, z_wth, z_bxr, z_bxl, z_bx2r, z_bx2l, z_bz0, z_bz1, z_mx, z_mn, z_tb1, z_tb0, z_eq, z_le, z_lt, z_nn_lt, z_nn_le, z_nn_ge, z_nn_gt, z_nn_eq, z_nn_eq2, z_bit, z_wow, z_wo, z_or, z_shl, z_if, z_ifn, fbit, if_true, if_false, Nat.zero_add, Nat.add_zero, not_false_iff, not_true, d2, k25', a1]
        refine loop_ex (fun fu x m2 => lX6_goBack_41 fu (nI i) (nI x) m2) (fun x m2 => (∀ c t j, c ≠ 22 → gi m2 c t j = gi m1 c t j) ∧ (∀ k, k < x → gi m2 22 0 k = nI (Sn i k)) ∧ gl m2 34 0 = gl m1 34 0) (fun o => ∃ m2, o = some (nI (Sn i 5), m2) ∧ IR (Sn i) (min (n + 1) 6) (psh A Sv) Sn K B L m2 ∧ FRe m m2 ∧ gi m2 21 0 0 = nI 0) 80 (fun fu x m2 hx hI => ?_) (fun fu m2 hI => ?_) FU 0 m1 (by decide) (by decide) ⟨fun _ _ _ _ => rfl, fun k hk => absurd hk (Nat.not_lt_zero k), rfl⟩
        · obtain ⟨b1, b2, b3⟩ := hI
          have e24 : gi m2 24 0 (80 * i + x) = nI (Sn i x) := by
            rw [b1 24 0 _ (by decide), a5 24 0 _ (by decide), gi_si, if_neg (fun z => by omega)]
            exact k24 x hi c hx
          refine ⟨si m2 22 0 x (nI (Sn i x)), ⟨fun c t j hc => ?_, fun k hk => ?_, b3⟩, ?_⟩
          · rw [gi_si, if_neg (fun z => hc z.1)]
            exact b1 c t j hc
          · by_cases ck : k = x
            · subst ck
              rw [gi_si, if_pos ⟨rfl, rfl, rfl⟩]
            · rw [gi_si, if_neg (fun z => ck z.2.2)]
              exact b2 k (by omega)
          · rw [lX6_goBack_41_s]
            simp (disch := omega) only [z_nn2, z0, z1, z2, z3, z4, z5, z6, z7, z8, z9, z10, z11, z12, z13, z14, z15, z16, z17, z18, z19, z20, z23, z24, z28, z31, z32, z33, z45, z46, z47, z48, z52, z57, z60, z63, z65, z70, z80, z95, z100, z126, z127, z128, z200, z240, z255, z400, z480, z500, z840, z1023, z2000, z99999, z1073741824, z_nn, z_add, z_sub, z_mul, z_div, z_rem, z_cl, z_in, z_chk, z_chkp, z_bnd, z_bn2, z_wth, z_bxr, z_bxl, z_bx2r, z_bx2l, z_bz0, z_bz1, z_mx, z_mn, z_tb1, z_tb0, z_eq, z_le, z_lt, z_nn_lt, z_nn_le, z_nn_ge, z_nn_gt, z_nn_eq, z_nn_eq2, z_bit, z_wow, z_wo, z_or, z_shl, z_if, z_ifn, fbit, if_true, if_false, Nat.zero_add, Nat.add_zero, not_false_iff, not_true, e24]
        · obtain ⟨b1, b2, b3⟩ := hI
          rw [lX6_goBack_41_s]
          simp (disch := omega) only [z_nn2, z0, z1, z2, z3, z4, z5, z6, z7, z8, z9, z10, z11, z12, z13, z14, z15, z16, z17, z18, z19, z20, z23, z24, z28, z31, z32, z33, z45, z46, z47, z48, z52, z57, z60, z63, z65, z70, z80, z95, z100, z126, z127, z128, z200, z240, z255, z400, z480, z500, z840, z1023, z2000, z99999, z1073741824, z_nn, z_add, z_sub, z_mul, z_div, z_rem, z_cl, z_in, z_chk, z_chkp, z_bnd, z_bn2, z_wth, z_bxr, z_bxl, z_bx2r, z_bx2l, z_bz0, z_bz1, z_mx, z_mn, z_tb1, z_tb0, z_eq, z_le, z_lt, z_nn_lt, z_nn_le, z_nn_ge, z_nn_gt, z_nn_eq, z_nn_eq2, z_bit, z_wow, z_wo, z_or, z_shl, z_if, z_ifn, fbit, if_true, if_false, Nat.zero_add, Nat.add_zero, not_false_iff, not_true, jX6_goBack_70, b2]
          refine ⟨m2, rfl, a6 _ _ (fun c j _ _ hne => b1 c 0 j hne) b2, ⟨fun c t j hc => ?_, ?_⟩, ?_⟩
          · rw [b1 c t j (by omega), a3.1 c t j hc, gi_si, if_neg (fun z => by omega)]
          · rw [b3, a3.2]; rfl
          · rw [b1 21 0 0 (by decide), a4 0 (by decide), gi_si, if_pos ⟨rfl, rfl, rfl⟩]
    · have c0 : K i = 0 := by omega
      rw [c0] at k19
      refine ok_thr hr (k := nI 2) (nI_ne (by decide) (by decide)) ⟨m, ?_, hc, FCq.rf⟩ (fun m h => ?_) hg
      · unfold fL_goBack fX5_goBack
        simp (disch := omega) only [z_nn2, z0, z1, z2, z3, z4, z5, z6, z7, z8, z9, z10, z11, z12, z13, z14, z15, z16, z17, z18, z19, z20, z23, z24, z28, z31, z32, z33, z45, z46, z47, z48, z52, z57, z60, z63, z65, z70, z80, z95, z100, z126, z127, z128, z200, z240, z255, z400, z480, z500, z840, z1023, z2000, z99999, z1073741824, z_nn, z_add, z_sub, z_mul, z_div, z_rem, z_cl, z_in, z_chk, z_chkp, z_bnd, z_bn2, z_wth, z_bxr, z_bxl, z_bx2r, z_bx2l, z_bz0, z_bz1, z_mx, z_mn, z_tb1, z_tb0, z_eq, z_le, z_lt, z_nn_lt, z_nn_le, z_nn_ge, z_nn_gt, z_nn_eq, z_nn_eq2, z_bit, z_wow, z_wo, z_or, z_shl, z_if, z_ifn, fbit, if_true, if_false, Nat.zero_add, Nat.add_zero, not_false_iff, not_true, d1, k19, z_bx2l]
        rfl
      · have k25 := h.2.2.1.1 i hi
        rw [c0] at k25
        have k25' : gi (si m 21 0 0 (nI 0)) 25 0 i = nI 0 := by rw [gi_si, if_neg (fun z => by omega)]; exact k25
        unfold fX6_goBack fX6_fails
        simp (disch := omega) only [z_nn2, z0, z1, z2, z3, z4, z5, z6, z7, z8, z9, z10, z11, z12, z13, z14, z15, z16, z17, z18, z19, z20, z23, z24, z28, z31, z32, z33, z45, z46, z47, z48, z52, z57, z60, z63, z65, z70, z80, z95, z100, z126, z127, z128, z200, z240, z255, z400, z480, z500, z840, z1023, z2000, z99999, z1073741824, z_nn, z_add, z_sub, z_mul, z_div, z_rem, z_cl, z_in, z_chk, z_chkp, z_bnd, z_bn2, z_wth, z_bxr, z_bxl, z_bx2r, z_bx2l, z_bz0, z_bz1, z_mx, z_mn, z_tb1, z_tb0, z_eq, z_le, z_lt, z_nn_lt, z_nn_le, z_nn_ge, z_nn_gt, z_nn_eq, z_nn_eq2, z_bit, z_wow, z_wo, z_or, z_shl, z_if, z_ifn, fbit, if_true, if_false, Nat.zero_add, Nat.add_zero, not_false_iff, not_true, d2, k25']
        exact xthr h
theorem op_undo {m : gM} (hi : HIq m) : Okq (fL_undo m) fX6_undo := by
  obtain ⟨A, n, p, Sv, Sn, K, B, L, hg, hc, hr⟩ := hi
  have k9 := hc.2.2.1.1
  have k10 := hc.2.2.1.2.1
  have hn := hg.2.2.1
  have hp := hg.2.2.2.1
  by_cases c : n = 0
  · subst c
    refine ok_thr hr (k := nI 1) (nI_ne (by decide) (by decide)) ⟨m, ?_, hc, FCq.rf⟩ (fun m h => ?_) hg
    · unfold fL_undo fX5_undo
      simp (disch := omega) only [z_nn2, z0, z1, z2, z3, z4, z5, z6, z7, z8, z9, z10, z11, z12, z13, z14, z15, z16, z17, z18, z19, z20, z23, z24, z28, z31, z32, z33, z45, z46, z47, z48, z52, z57, z60, z63, z65, z70, z80, z95, z100, z126, z127, z128, z200, z240, z255, z400, z480, z500, z840, z1023, z2000, z99999, z1073741824, z_nn, z_add, z_sub, z_mul, z_div, z_rem, z_cl, z_in, z_chk, z_chkp, z_bnd, z_bn2, z_wth, z_bxr, z_bxl, z_bx2r, z_bx2l, z_bz0, z_bz1, z_mx, z_mn, z_tb1, z_tb0, z_eq, z_le, z_lt, z_nn_lt, z_nn_le, z_nn_ge, z_nn_gt, z_nn_eq, z_nn_eq2, z_bit, z_wow, z_wo, z_or, z_shl, z_if, z_ifn, fbit, if_true, if_false, Nat.zero_add, Nat.add_zero, not_false_iff, not_true, k9, z_bx2l]
    · have k3 : gi (si m 21 0 0 (nI 0)) 21 0 3 = nI 0 := by rw [gi_si, if_neg (fun z => by omega)]; exact h.2.1.1
      unfold fX6_undo fX6_fails
      simp (disch := omega) only [z_nn2, z0, z1, z2, z3, z4, z5, z6, z7, z8, z9, z10, z11, z12, z13, z14, z15, z16, z17, z18, z19, z20, z23, z24, z28, z31, z32, z33, z45, z46, z47, z48, z52, z57, z60, z63, z65, z70, z80, z95, z100, z126, z127, z128, z200, z240, z255, z400, z480, z500, z840, z1023, z2000, z99999, z1073741824, z_nn, z_add, z_sub, z_mul, z_div, z_rem, z_cl, z_in, z_chk, z_chkp, z_bnd, z_bn2, z_wth, z_bxr, z_bxl, z_bx2r, z_bx2l, z_bz0, z_bz1, z_mx, z_mn, z_tb1, z_tb0, z_eq, z_le, z_lt, z_nn_lt, z_nn_le, z_nn_ge, z_nn_gt, z_nn_eq, z_nn_eq2, z_bit, z_wow, z_wo, z_or, z_shl, z_if, z_ifn, fbit, if_true, if_false, Nat.zero_add, Nat.add_zero, not_false_iff, not_true, k3]
      exact xthr h
  · have hS := hg.2.2.2.2.1 0 (by omega)
    refine ok_ret hr (A1 := Sv 0) (n1 := n - 1) (p1 := (p + 5) % 6) (Sv1 := fun j => Sv (j + 1)) (Sn1 := Sn) (K1 := K) (B1 := B) (L1 := L) (r := nI (n - 1)) ?_ (fun m h => ?_) ⟨hS.1, hS.2, by omega, by omega, fun j hj => hg.2.2.2.2.1 (j + 1) (by omega), hg.2.2.2.2.2⟩
    · obtain ⟨h1, h2, h3, h4, h5⟩ := hc
      obtain ⟨m3, hm3⟩ : ∃ q, q = si (si m 12 0 10 (nI ((p + 5) % 6))) 12 0 9 (nI (n - 1)) := ⟨_, rfl⟩
      have g3 : ∀ c t j, c ≠ 12 → gi m3 c t j = gi m c t j := fun c t j hc => by rw [hm3, gi_si, if_neg (fun z => hc z.1), gi_si, if_neg (fun z => hc z.1)]
      have g9 : gi m3 12 0 9 = nI (n - 1) := by rw [hm3, gi_si, if_pos ⟨rfl, rfl, rfl⟩]
      have g10 : gi m3 12 0 10 = nI ((p + 5) % 6) := by rw [hm3, gi_si, if_neg (fun z => by omega), gi_si, if_pos ⟨rfl, rfl, rfl⟩]
      have cs : CS (4 + (p + 5) % 6) (Sv 0) m3 := (h3.2.2 0 (by omega)).eqv (fun c j hc => g3 _ _ _ (by omega))
      obtain ⟨m4, e4, c4, f4⟩ := fcopy (t0 := 0) cs (by omega)
      obtain ⟨m5, e5, n5, f5⟩ := fforget 0 m4
      have g45 : ∀ c t j, ¬ (c < 6 ∧ t = 0) → c ≠ 10 → gi m5 c t j = gi m3 c t j := fun c t j ha hb => by
        rw [f5.1 c t j (by unfold P10; simp; omega), f4.1 c t j (by unfold PC2; simp; omega)]
      have g9b : gi m5 12 0 9 = nI (n - 1) := by rw [g45 _ _ _ (by omega) (by omega)]; exact g9
      have hj36 : jX5_undo_36 (nI ((p + 5) % 6)) m = some (.inr (nI (n - 1)), m5) := by
        unfold jX5_undo_36
        have e9 : gi (si m 12 0 10 (nI ((p + 5) % 6))) 12 0 9 = nI n := by rw [gi_si, if_neg (fun z => by omega)]; exact k9
        simp (disch := omega) only [z_nn2, z0, z1, z2, z3, z4, z5, z6, z7, z8, z9, z10, z11, z12, z13, z14, z15, z16, z17, z18, z19, z20, z23, z24, z28, z31, z32, z33, z45, z46, z47, z48, z52, z57, z60, z63, z65, z70, z80, z95, z100, z126, z127, z128, z200, z240, z255, z400, z480, z500, z840, z1023, z2000, z99999, z1073741824, z_nn, z_add, z_sub, z_mul, z_div, z_rem, z_cl, z_in, z_chk, z_chkp, z_bnd, z_bn2, z_wth, z_bxr, z_bxl, z_bx2r, z_bx2l, z_bz0, z_bz1, z_mx, z_mn, z_tb1, z_tb0, z_eq, z_le, z_lt, z_nn_lt, z_nn_le, z_nn_ge, z_nn_gt, z_nn_eq, z_nn_eq2, z_bit, z_wow, z_wo, z_or, z_shl, z_if, z_ifn, fbit, if_true, if_false, Nat.zero_add, Nat.add_zero, not_false_iff, not_true, e9]
        rw [← hm3]
        simp (disch := omega) only [z_nn2, z0, z1, z2, z3, z4, z5, z6, z7, z8, z9, z10, z11, z12, z13, z14, z15, z16, z17, z18, z19, z20, z23, z24, z28, z31, z32, z33, z45, z46, z47, z48, z52, z57, z60, z63, z65, z70, z80, z95, z100, z126, z127, z128, z200, z240, z255, z400, z480, z500, z840, z1023, z2000, z99999, z1073741824, z_nn, z_add, z_sub, z_mul, z_div, z_rem, z_cl, z_in, z_chk, z_chkp, z_bnd, z_bn2, z_wth, z_bxr, z_bxl, z_bx2r, z_bx2l, z_bz0, z_bz1, z_mx, z_mn, z_tb1, z_tb0, z_eq, z_le, z_lt, z_nn_lt, z_nn_le, z_nn_ge, z_nn_gt, z_nn_eq, z_nn_eq2, z_bit, z_wow, z_wo, z_or, z_shl, z_if, z_ifn, fbit, if_true, if_false, Nat.zero_add, Nat.add_zero, not_false_iff, not_true, g10, e4, e5, g9b]
      refine ⟨m5, ?_, ⟨c4.eqv (fun c j hc => f5.1 _ _ _ (by unfold P10; simp; omega)), n5.ec, ⟨g9b, ?_, fun j hj => ?_⟩, ?_, ?_⟩, fun c t j hc => ?_⟩
      · unfold fL_undo fX5_undo
        simp (disch := omega) only [z_nn2, z0, z1, z2, z3, z4, z5, z6, z7, z8, z9, z10, z11, z12, z13, z14, z15, z16, z17, z18, z19, z20, z23, z24, z28, z31, z32, z33, z45, z46, z47, z48, z52, z57, z60, z63, z65, z70, z80, z95, z100, z126, z127, z128, z200, z240, z255, z400, z480, z500, z840, z1023, z2000, z99999, z1073741824, z_nn, z_add, z_sub, z_mul, z_div, z_rem, z_cl, z_in, z_chk, z_chkp, z_bnd, z_bn2, z_wth, z_bxr, z_bxl, z_bx2r, z_bx2l, z_bz0, z_bz1, z_mx, z_mn, z_tb1, z_tb0, z_eq, z_le, z_lt, z_nn_lt, z_nn_le, z_nn_ge, z_nn_gt, z_nn_eq, z_nn_eq2, z_bit, z_wow, z_wo, z_or, z_shl, z_if, z_ifn, fbit, if_true, if_false, Nat.zero_add, Nat.add_zero, not_false_iff, not_true, k9, k10]
        by_cases cp : p ≤ 0
        · rw [if_pos cp]
          have : p = 0 := by omega
          subst this
          rw [show (0 + 5) % 6 = 5 from rfl] at hj36
          rw [hj36]
          simp only [z_bx2r]
        · rw [if_neg cp]
          rw [show (p + 5) % 6 = p - 1 by omega] at hj36
          rw [hj36]
          simp only [z_bx2r]
      · rw [g45 _ _ _ (by omega) (by omega)]; exact g10
      · have e : ((p + 5) % 6 + 5 - j) % 6 = (p + 5 - (j + 1)) % 6 := by omega
        rw [e]
        exact (h3.2.2 (j + 1) (by omega)).eqv (fun c i hc => (g45 _ _ _ (by omega) (by omega)).trans (g3 _ _ _ (by omega)))
      · exact h4.eqv (fun c t i ha hb _ => (g45 _ _ _ (by omega) (by omega)).trans (g3 _ _ _ (by omega))) (fun i => (g45 _ _ _ (by omega) (by omega)).trans (g3 _ _ _ (by omega)))
      · exact h5.eqv ((g45 _ _ _ (by omega) (by omega)).trans (g3 _ _ _ (by omega))) (fun i => (g45 _ _ _ (by omega) (by omega)).trans (g3 _ _ _ (by omega)))
      · exact (g45 _ _ _ (by omega) (by omega)).trans (g3 _ _ _ (by omega))
    · obtain ⟨h1, h2, h3, h4⟩ := h
      have k3 : gi (si m 21 0 0 (nI 0)) 21 0 3 = nI n := by rw [gi_si, if_neg (fun z => by omega)]; exact h2.1
      unfold fX6_undo
      simp (disch := omega) only [z_nn2, z0, z1, z2, z3, z4, z5, z6, z7, z8, z9, z10, z11, z12, z13, z14, z15, z16, z17, z18, z19, z20, z23, z24, z28, z31, z32, z33, z45, z46, z47, z48, z52, z57, z60, z63, z65, z70, z80, z95, z100, z126, z127, z128, z200, z240, z255, z400, z480, z500, z840, z1023, z2000, z99999, z1073741824, z_nn, z_add, z_sub, z_mul, z_div, z_rem, z_cl, z_in, z_chk, z_chkp, z_bnd, z_bn2, z_wth, z_bxr, z_bxl, z_bx2r, z_bx2l, z_bz0, z_bz1, z_mx, z_mn, z_tb1, z_tb0, z_eq, z_le, z_lt, z_nn_lt, z_nn_le, z_nn_ge, z_nn_gt, z_nn_eq, z_nn_eq2, z_bit, z_wow, z_wo, z_or, z_shl, z_if, z_ifn, fbit, if_true, if_false, Nat.zero_add, Nat.add_zero, not_false_iff, not_true, k3]
      obtain ⟨m1, hm1⟩ : ∃ q, q = si (si m 21 0 0 (nI 0)) 21 0 3 (nI (n - 1)) := ⟨_, rfl⟩
      rw [← hm1]
      have g1 : ∀ c t j, c ≠ 21 → gi m1 c t j = gi m c t j := fun c t j hc => by rw [hm1, gi_si, if_neg (fun z => hc z.1), gi_si, if_neg (fun z => hc z.1)]
      have g13 : gi m1 21 0 3 = nI (n - 1) := by rw [hm1, gi_si, if_pos ⟨rfl, rfl, rfl⟩]
      have g10 : gi m1 21 0 0 = nI 0 := by rw [hm1, gi_si, if_neg (fun z => by omega), gi_si, if_pos ⟨rfl, rfl, rfl⟩]
      have g17 : gi m1 21 0 7 = gi m 21 0 7 := by rw [hm1, gi_si, if_neg (fun z => by omega), gi_si, if_neg (fun z => by omega)]
      have gl1 : gl m1 34 0 = gl m 34 0 := by rw [hm1]; rfl
      refine loop_ex (fun fu x m2 => lX6_undo_30 fu (nI x) m2) (fun x m2 => (∀ c t j, c ≠ 22 → gi m2 c t j = gi m1 c t j) ∧ (∀ k, k < x → gi m2 22 0 k = nI (Sv 0 k)) ∧ gl m2 34 0 = gl m1 34 0) (fun o => ∃ m2, o = some (nI (n - 1), m2) ∧ IR (Sv 0) (n - 1) (fun j => Sv (j + 1)) Sn K B L m2 ∧ FRe m m2 ∧ gi m2 21 0 0 = nI 0) 80 (fun fu x m2 hx hI => ?_) (fun fu m2 hI => ?_) FU 0 m1 (by decide) (by decide) ⟨fun _ _ _ _ => rfl, fun k hk => absurd hk (Nat.not_lt_zero k), rfl⟩
      · obtain ⟨b1, b2, b3⟩ := hI
        have e3 : gi m2 21 0 3 = nI (n - 1) := by rw [b1 21 0 3 (by decide)]; exact g13
        have e23 : gi m2 23 0 (80 * (n - 1) + x) = nI (Sv 0 x) := by
          rw [b1 23 0 _ (by decide), g1 23 0 _ (by decide)]
          exact h2.2 0 x (by omega) hx
        refine ⟨si m2 22 0 x (nI (Sv 0 x)), ⟨fun c t j hc => ?_, fun k hk => ?_, b3⟩, ?_⟩
        · rw [gi_si, if_neg (fun z => hc z.1)]
          exact b1 c t j hc
        · by_cases ck : k = x
          · subst ck
            rw [gi_si, if_pos ⟨rfl, rfl, rfl⟩]
          · rw [gi_si, if_neg (fun z => ck z.2.2)]
            exact b2 k (by omega)
        · rw [lX6_undo_30_s]
          simp (disch := omega) only [z_nn2, z0, z1, z2, z3, z4, z5, z6, z7, z8, z9, z10, z11, z12, z13, z14, z15, z16, z17, z18, z19, z20, z23, z24, z28, z31, z32, z33, z45, z46, z47, z48, z52, z57, z60, z63, z65, z70, z80, z95, z100, z126, z127, z128, z200, z240, z255, z400, z480, z500, z840, z1023, z2000, z99999, z1073741824, z_nn, z_add, z_sub, z_mul, z_div, z_rem, z_cl, z_in, z_chk, z_chkp, z_bnd, z_bn2, z_wth, z_bxr, z_bxl, z_bx2r, z_bx2l, z_bz0, z_bz1, z_mx, z_mn, z_tb1, z_tb0, z_eq, z_le, z_lt, z_nn_lt, z_nn_le, z_nn_ge, z_nn_gt, z_nn_eq, z_nn_eq2, z_bit, z_wow, z_wo, z_or, z_shl, z_if, z_ifn, fbit, if_true, if_false, Nat.zero_add, Nat.add_zero, not_false_iff, not_true, e3, e23]
      · obtain ⟨b1, b2, b3⟩ := hI
        have e3 : gi m2 21 0 3 = nI (n - 1) := by rw [b1 21 0 3 (by decide)]; exact g13
        rw [lX6_undo_30_s]
        simp (disch := omega) only [z_nn2, z0, z1, z2, z3, z4, z5, z6, z7, z8, z9, z10, z11, z12, z13, z14, z15, z16, z17, z18, z19, z20, z23, z24, z28, z31, z32, z33, z45, z46, z47, z48, z52, z57, z60, z63, z65, z70, z80, z95, z100, z126, z127, z128, z200, z240, z255, z400, z480, z500, z840, z1023, z2000, z99999, z1073741824, z_nn, z_add, z_sub, z_mul, z_div, z_rem, z_cl, z_in, z_chk, z_chkp, z_bnd, z_bn2, z_wth, z_bxr, z_bxl, z_bx2r, z_bx2l, z_bz0, z_bz1, z_mx, z_mn, z_tb1, z_tb0, z_eq, z_le, z_lt, z_nn_lt, z_nn_le, z_nn_ge, z_nn_gt, z_nn_eq, z_nn_eq2, z_bit, z_wow, z_wo, z_or, z_shl, z_if, z_ifn, fbit, if_true, if_false, Nat.zero_add, Nat.add_zero, not_false_iff, not_true, e3]
        refine ⟨m2, rfl, ⟨b2, ⟨e3, fun j k hj hk => ?_⟩, h3.eqv (fun i => (b1 _ _ _ (by decide)).trans (g1 _ _ _ (by decide))) (fun i => (b1 _ _ _ (by decide)).trans (g1 _ _ _ (by decide))), h4.eqv ((b1 _ _ _ (by decide)).trans g17) (fun i => (b1 _ _ _ (by decide)).trans (g1 _ _ _ (by decide)))⟩, ⟨fun c t j hc => (b1 _ _ _ (by omega)).trans (g1 _ _ _ (by omega)), b3.trans gl1⟩, (b1 _ _ _ (by decide)).trans g10⟩
        rw [b1 23 0 _ (by decide), g1 23 0 _ (by decide), show 80 * (n - 1 - 1 - j) + k = 80 * (n - 1 - (j + 1)) + k by omega]
        exact h2.2 (j + 1) k (by omega) hk
