/-! WRITE: what is read, as a text -/
def cc (r : Nat) : Nat := if r < 18 then cd r else 63
theorem cc_lt {r : Nat} : 33 ≤ cc r ∧ cc r ≤ 126 := by
  unfold cc
  split
  · exact cd_lt r (by assumption)
  · omega
theorem fletterOf_all : ∀ r, r < 19 → fX6_letterOf (rI r) = some (nI (cc r)) := by decide +kernel
theorem cd_c : ∀ i, i < 18 → i2c (nI (cd i) &&& nI 255) = nI (cd i) := by decide +kernel
theorem fcodeOf {r : Nat} (hr : r ≤ 18) : fX5_codeOf (rI r) = some (nI (cc r)) := by
  unfold fX5_codeOf jX5_codeOf_20
  by_cases c : r = 18
  · subst c
    rw [show rI 18 = nn from rfl, show cc 18 = 63 from rfl, if_pos (show nn < 0 by decide)]
    simp (disch := omega) only [z_nn2, z0, z1, z2, z3, z4, z5, z6, z7, z8, z9, z10, z11, z12, z13, z14, z15, z16, z17, z18, z19, z20, z23, z24, z28, z31, z32, z33, z45, z46, z47, z48, z52, z57, z60, z63, z65, z70, z80, z95, z100, z126, z127, z128, z200, z240, z255, z400, z480, z500, z840, z1023, z2000, z99999, z1073741824, z_nn, z_add, z_sub, z_mul, z_div, z_rem, z_cl, z_in, z_chk, z_chkp, z_bnd, z_bn2, z_wth, z_bxr, z_bxl, z_bx2r, z_bx2l, z_bz0, z_bz1, z_mx, z_mn, z_tb1, z_tb0, z_eq, z_le, z_lt, z_nn_lt, z_nn_le, z_nn_ge, z_nn_gt, z_nn_eq, z_nn_eq2, z_bit, z_wow, z_wo, z_or, z_shl, z_if, z_ifn, fbit, if_true, if_false, Nat.zero_add, Nat.add_zero, not_false_iff, not_true, z_bc]
  · have h := cd_lt r (by omega)
    rw [show rI r = nI r from if_neg c, show cc r = cd r from if_pos (by omega)]
    unfold fJ0_charAt_5068e fJ0_isLatin1_aae02 jJ0_isLatin1_aae02_17 fJ1_charAt_3b067 fJ0_checkIndex_df160 fJ3_checkIndex_8e157
    simp (disch := omega) only [z_nn2, z0, z1, z2, z3, z4, z5, z6, z7, z8, z9, z10, z11, z12, z13, z14, z15, z16, z17, z18, z19, z20, z23, z24, z28, z31, z32, z33, z45, z46, z47, z48, z52, z57, z60, z63, z65, z70, z80, z95, z100, z126, z127, z128, z200, z240, z255, z400, z480, z500, z840, z1023, z2000, z99999, z1073741824, z_nn, z_add, z_sub, z_mul, z_div, z_rem, z_cl, z_in, z_chk, z_chkp, z_bnd, z_bn2, z_wth, z_bxr, z_bxl, z_bx2r, z_bx2l, z_bz0, z_bz1, z_mx, z_mn, z_tb1, z_tb0, z_eq, z_le, z_lt, z_nn_lt, z_nn_le, z_nn_ge, z_nn_gt, z_nn_eq, z_nn_eq2, z_bit, z_wow, z_wo, z_or, z_shl, z_if, z_ifn, fbit, if_true, if_false, Nat.zero_add, Nat.add_zero, not_false_iff, not_true, cd_all, cd_c, z_bc]
def wln (A : Nat → Nat) : Nat → Nat
  | 0 => 0
  | x + 1 => wln A x + 1 + tbq (sn A x) 7
theorem wln_s (A : Nat → Nat) (x : Nat) : wln A (x + 1) = wln A x + 1 + tbq (sn A x) 7 := rfl
theorem wln_le (A : Nat → Nat) : ∀ x, wln A x ≤ 2 * x
  | 0 => Nat.le_refl _
  | x + 1 => by
    have h1 := wln_le A x
    have h2 := tb_lt (sn A x) 7
    rw [wln_s]
    omega
def wbf (A : Nat → Nat) : Nat → Nat → Nat
  | 0 => fun _ => 0
  | x + 1 => if tbq (sn A x) 7 = 1 then upq (upq (wbf A x) (wln A x) (cc (rdq A x))) (wln A x + 1) 46 else upq (wbf A x) (wln A x) (cc (rdq A x))
theorem wbf_s (A : Nat → Nat) (x : Nat) : wbf A (x + 1) = if tbq (sn A x) 7 = 1 then upq (upq (wbf A x) (wln A x) (cc (rdq A x))) (wln A x + 1) 46 else upq (wbf A x) (wln A x) (cc (rdq A x)) := rfl
theorem wbf_in (A : Nat → Nat) : ∀ x i, i < wln A x → 33 ≤ wbf A x i ∧ wbf A x i ≤ 126
  | 0, i, h => absurd h (Nat.not_lt_zero i)
  | x + 1, i, h => by
    have h2 := tb_lt (sn A x) 7
    have h3 := cc_lt (r := rdq A x)
    rw [wln_s] at h
    rw [wbf_s]
    by_cases c : tbq (sn A x) 7 = 1
    · rw [if_pos c]
      by_cases c1 : i = wln A x + 1
      · rw [up_eq c1]; omega
      · rw [up_ne c1]
        by_cases c2 : i = wln A x
        · rw [up_eq c2]; exact h3
        · rw [up_ne c2]; exact wbf_in A x i (by omega)
    · rw [if_neg c]
      by_cases c2 : i = wln A x
      · rw [up_eq c2]; exact h3
      · rw [up_ne c2]; exact wbf_in A x i (by omega)
theorem fputc {B : Nat → Nat} {L c : Nat} {m : gM} (h : IC4 B L m) (hL : L < 12) (hc : c < 128) : ∃ m1, fX3_put (nI c) m = some m1 ∧ IC4 (upq B L c) (L + 1) m1 ∧ Frq (fun c _ => c == 16 || c == 17) m m1 := by
  obtain ⟨m2, hm2⟩ : ∃ q, q = si m 17 0 L (nI c) := ⟨_, rfl⟩
  have a16 : gi m2 16 0 1 = nI L := by rw [hm2, gi_si, if_neg (fun z => by omega)]; exact h.1
  have f2 : Frq (fun c _ => c == 16 || c == 17) m m2 := by rw [hm2]; exact Frq.si rfl
  refine ⟨si m2 16 0 1 (nI (L + 1)), ?_, ⟨by rw [gi_si, if_pos ⟨rfl, rfl, rfl⟩], fun i hi => ?_⟩, f2.tr (Frq.si rfl)⟩
  · unfold fX3_put
    simp (disch := omega) only [z_nn2, z0, z1, z2, z3, z4, z5, z6, z7, z8, z9, z10, z11, z12, z13, z14, z15, z16, z17, z18, z19, z20, z23, z24, z28, z31, z32, z33, z45, z46, z47, z48, z52, z57, z60, z63, z65, z70, z80, z95, z100, z126, z127, z128, z200, z240, z255, z400, z480, z500, z840, z1023, z2000, z99999, z1073741824, z_nn, z_add, z_sub, z_mul, z_div, z_rem, z_cl, z_in, z_chk, z_chkp, z_bnd, z_bn2, z_wth, z_bxr, z_bxl, z_bx2r, z_bx2l, z_bz0, z_bz1, z_mx, z_mn, z_tb1, z_tb0, z_eq, z_le, z_lt, z_nn_lt, z_nn_le, z_nn_ge, z_nn_gt, z_nn_eq, z_nn_eq2, z_bit, z_wow, z_wo, z_or, z_shl, z_if, z_ifn, fbit, if_true, if_false, Nat.zero_add, Nat.add_zero, not_false_iff, not_true, h.1, z_narc]
    rw [← hm2]
    simp (disch := omega) only [z_nn2, z0, z1, z2, z3, z4, z5, z6, z7, z8, z9, z10, z11, z12, z13, z14, z15, z16, z17, z18, z19, z20, z23, z24, z28, z31, z32, z33, z45, z46, z47, z48, z52, z57, z60, z63, z65, z70, z80, z95, z100, z126, z127, z128, z200, z240, z255, z400, z480, z500, z840, z1023, z2000, z99999, z1073741824, z_nn, z_add, z_sub, z_mul, z_div, z_rem, z_cl, z_in, z_chk, z_chkp, z_bnd, z_bn2, z_wth, z_bxr, z_bxl, z_bx2r, z_bx2l, z_bz0, z_bz1, z_mx, z_mn, z_tb1, z_tb0, z_eq, z_le, z_lt, z_nn_lt, z_nn_le, z_nn_ge, z_nn_gt, z_nn_eq, z_nn_eq2, z_bit, z_wow, z_wo, z_or, z_shl, z_if, z_ifn, fbit, if_true, if_false, Nat.zero_add, Nat.add_zero, not_false_iff, not_true, a16]
  · rw [gi_si, if_neg (fun z => by omega), hm2, gi_si]
    unfold upq
    by_cases e : i = L
    · rw [if_pos e, if_pos ⟨rfl, rfl, e⟩]
    · rw [if_neg e, if_neg (fun z => e z.2.2)]
      exact h.2 i (by omega)
theorem op_write {m : gM} (hi : HIq m) : ∃ r m1 m2, fX5_write m = some (r, m1) ∧ fX6_write m1 = some (r, m2) ∧ HIq m2 := by
  obtain ⟨A, n, p, Sv, Sn, K, B, L, hg, hc, hr⟩ := hi
  have w := hg.1
  have hcl : ∃ m1, fX5_write m = some (nI (wln A 6), m1) ∧ ICq A n p Sv Sn K (wbf A 6) (wln A 6) m1 ∧ FCq m m1 := by
    have h0 := hc.len
    unfold fX5_write
    simp only [z_wth, z0]
    refine loop_ex (fun fu x m2 => lX5_write_10 fu (nI x) m2) (fun x m2 => ICq A n p Sv Sn K (wbf A x) (wln A x) m2 ∧ FCq m m2) (fun o => ∃ m1, o = some (nI (wln A 6), m1) ∧ ICq A n p Sv Sn K (wbf A 6) (wln A 6) m1 ∧ FCq m m1) 6 (fun fu x m2 hx hI => ?_) (fun fu m2 hI => ?_) FU 0 _ (by decide) (by decide) ⟨⟨h0.1, h0.2.1, h0.2.2.1, h0.2.2.2.1, h0.2.2.2.2.1, fun i hi => absurd hi (Nat.not_lt_zero i)⟩, fun c t i h => by rw [gi_si, if_neg (fun z => by omega)]⟩
    · obtain ⟨i1, fc⟩ := hI
      have hwl := wln_le A x
      have hrd := rd_le A x
      have hcc := cc_lt (r := rdq A x)
      have hsn := sn_lt A x
      have htb := tb_lt (sn A x) 7
      obtain ⟨m3, e3, f3, g3, k3⟩ := flook i1.1 w i1.2.1 hx
      obtain ⟨i3, fc3⟩ := i1.pe f3 g3
      obtain ⟨m4, e4, b4, f4⟩ := fputc (c := cc (rdq A x)) i3.2.2.2.2 (by omega) (by omega)
      have same4 : ∀ c t i, c ≠ 16 → c ≠ 17 → gi m4 c t i = gi m3 c t i := fun c t i h1 h2 => f4.1 c t i (by simp; exact ⟨h1, h2⟩)
      have k4 : CKq 0 A x m4 := fun k hk => by
        obtain ⟨q1, q2, q3⟩ := k3 k hk
        exact ⟨(same4 _ _ _ (by decide) (by decide)).trans q1, (same4 _ _ _ (by decide) (by decide)).trans q2, (same4 _ _ _ (by decide) (by decide)).trans q3⟩
      have ic4 : ∀ B1 L1 m5, IC4 B1 L1 m5 → (∀ c t i, c ≠ 16 → c ≠ 17 → gi m5 c t i = gi m3 c t i) → ICq A n p Sv Sn K B1 L1 m5 ∧ FCq m m5 := fun B1 L1 m5 h4 hs => ⟨⟨i3.1.eqv (fun c i hc => hs _ _ _ (by omega) (by omega)), i3.2.1.eqv (fun c i ha hb => hs _ _ _ (by omega) (by omega)), i3.2.2.1.eqv (fun c t i ha hb => hs _ _ _ (by omega) (by omega)) (hs _ _ _ (by decide) (by decide)) (hs _ _ _ (by decide) (by decide)), i3.2.2.2.1.eqv (fun c t i ha hb _ => hs _ _ _ (by omega) (by omega)) (fun i => hs _ _ _ (by decide) (by decide)), h4⟩, (fc.tr fc3).tr (fun c t i hc => hs _ _ _ (by omega) (by omega))⟩
      have cs4 : CS 0 A m4 := (ic4 _ _ m4 b4 same4).1.1
      by_cases c7 : tbq (sn A x) 7 = 1
      · obtain ⟨m5, e5, b5, f5⟩ := fputc (c := 46) b4 (by omega) (by decide)
        refine ⟨m5, ?_, ?_⟩
        · rw [wbf_s, if_pos c7, wln_s, c7]
          exact ic4 _ _ m5 b5 (fun c t i h1 h2 => (f5.1 c t i (by simp; exact ⟨h1, h2⟩)).trans (same4 c t i h1 h2))
        · rw [lX5_write_10_s]
          simp (disch := omega) only [z_nn2, z0, z1, z2, z3, z4, z5, z6, z7, z8, z9, z10, z11, z12, z13, z14, z15, z16, z17, z18, z19, z20, z23, z24, z28, z31, z32, z33, z45, z46, z47, z48, z52, z57, z60, z63, z65, z70, z80, z95, z100, z126, z127, z128, z200, z240, z255, z400, z480, z500, z840, z1023, z2000, z99999, z1073741824, z_nn, z_add, z_sub, z_mul, z_div, z_rem, z_cl, z_in, z_chk, z_chkp, z_bnd, z_bn2, z_wth, z_bxr, z_bxl, z_bx2r, z_bx2l, z_bz0, z_bz1, z_mx, z_mn, z_tb1, z_tb0, z_eq, z_le, z_lt, z_nn_lt, z_nn_le, z_nn_ge, z_nn_gt, z_nn_eq, z_nn_eq2, z_bit, z_wow, z_wo, z_or, z_shl, z_if, z_ifn, fbit, if_true, if_false, Nat.zero_add, Nat.add_zero, not_false_iff, not_true, e3, fread (i3.1) w hx k3, fcodeOf hrd, e4, fseen cs4 w hx k4, c7, e5, jX5_write_68]
      · have c0 : tbq (sn A x) 7 = 0 := by omega
        refine ⟨m4, ?_, ?_⟩
        · rw [wbf_s, if_neg c7, wln_s, c0]
          exact ic4 _ _ m4 b4 same4
        · rw [lX5_write_10_s]
          simp (disch := omega) only [z_nn2, z0, z1, z2, z3, z4, z5, z6, z7, z8, z9, z10, z11, z12, z13, z14, z15, z16, z17, z18, z19, z20, z23, z24, z28, z31, z32, z33, z45, z46, z47, z48, z52, z57, z60, z63, z65, z70, z80, z95, z100, z126, z127, z128, z200, z240, z255, z400, z480, z500, z840, z1023, z2000, z99999, z1073741824, z_nn, z_add, z_sub, z_mul, z_div, z_rem, z_cl, z_in, z_chk, z_chkp, z_bnd, z_bn2, z_wth, z_bxr, z_bxl, z_bx2r, z_bx2l, z_bz0, z_bz1, z_mx, z_mn, z_tb1, z_tb0, z_eq, z_le, z_lt, z_nn_lt, z_nn_le, z_nn_ge, z_nn_gt, z_nn_eq, z_nn_eq2, z_bit, z_wow, z_wo, z_or, z_shl, z_if, z_ifn, fbit, if_true, if_false, Nat.zero_add, Nat.add_zero, not_false_iff, not_true, e3, fread (i3.1) w hx k3, fcodeOf hrd, e4, fseen cs4 w hx k4, c0, jX5_write_68]
    · obtain ⟨i1, fc⟩ := hI
      rw [lX5_write_10_s]
      simp (disch := omega) only [z_nn2, z0, z1, z2, z3, z4, z5, z6, z7, z8, z9, z10, z11, z12, z13, z14, z15, z16, z17, z18, z19, z20, z23, z24, z28, z31, z32, z33, z45, z46, z47, z48, z52, z57, z60, z63, z65, z70, z80, z95, z100, z126, z127, z128, z200, z240, z255, z400, z480, z500, z840, z1023, z2000, z99999, z1073741824, z_nn, z_add, z_sub, z_mul, z_div, z_rem, z_cl, z_in, z_chk, z_chkp, z_bnd, z_bn2, z_wth, z_bxr, z_bxl, z_bx2r, z_bx2l, z_bz0, z_bz1, z_mx, z_mn, z_tb1, z_tb0, z_eq, z_le, z_lt, z_nn_lt, z_nn_le, z_nn_ge, z_nn_gt, z_nn_eq, z_nn_eq2, z_bit, z_wow, z_wo, z_or, z_shl, z_if, z_ifn, fbit, if_true, if_false, Nat.zero_add, Nat.add_zero, not_false_iff, not_true, jX5_write_74, i1.2.2.2.2.1]
      exact ⟨m2, rfl, i1, fc⟩
  obtain ⟨m1, e1, i1, fc1⟩ := hcl
  have hr1 := hr.fc fc1
  have h6 : ∃ m2, fX6_write m1 = some (nI (wln A 6), m2) ∧ IR A n Sv Sn K (wbf A 6) (wln A 6) m2 ∧ FRe m1 m2 := by
    obtain ⟨m2, e2, f2, v2⟩ := fviews (hr1.th (v := nI 0)).1 w
    have r2 := (hr1.th (v := nI 0)).pv f2
    have fr2 : FRe m1 m2 := (FRe.si (by decide)).tr (PV_re f2)
    unfold fX6_write
    simp only [z_wth, z0, e2, z_bnd]
    have r3 := r2.len
    refine loop_ex (fun fu x m3 => lX6_write_16 fu (nI x) m3) (fun x m3 => Frq (fun c t => c == 26 || c == 21) m2 m3 ∧ gi m3 21 0 3 = gi m2 21 0 3 ∧ IR4 (wbf A x) (wln A x) m3) (fun o => ∃ m4, o = some (nI (wln A 6), m4) ∧ IR A n Sv Sn K (wbf A 6) (wln A 6) m4 ∧ FRe m1 m4) 6 (fun fu x m3 hx hI => ?_) (fun fu m3 hI => ?_) FU 0 _ (by decide) (by decide) ⟨Frq.si rfl, by rw [gi_si, if_neg (fun z => by omega)], r3.2.2.2.1, fun i hi => absurd hi (Nat.not_lt_zero i)⟩
    · obtain ⟨f3, k3, i7, i26⟩ := hI
      have hwl := wln_le A x
      have hrd := rd_le A x
      have hcc := cc_lt (r := rdq A x)
      have hsn := sn_lt A x
      have htb := tb_lt (sn A x) 7
      have ht7 := tb7 hsn
      have rm3 : RMq A m3 := r2.1.fr f3 rfl
      have vc : ∀ m5, (∀ c i, c ≠ 26 → c ≠ 21 → gi m5 c 0 i = gi m2 c 0 i) → RMq A m5 ∧ VCq A m5 := fun m5 hs => ⟨fun i hi => (hs 22 i (by decide) (by decide)).trans (r2.1 i hi), fun i k hi hk => by
        obtain ⟨q1, q2, q3⟩ := v2 i k hi hk
        exact ⟨(hs _ _ (by decide) (by decide)).trans q1, (hs _ _ (by decide) (by decide)).trans q2, (hs _ _ (by decide) (by decide)).trans q3⟩⟩
      have s3 : ∀ c i, c ≠ 26 → c ≠ 21 → gi m3 c 0 i = gi m2 c 0 i := fun c i h1 h2 => f3.1 c 0 i (by simp; exact ⟨h1, h2⟩)
      obtain ⟨m4, hm4⟩ : ∃ q, q = si m3 26 0 (wln A x) (nI (cc (rdq A x))) := ⟨_, rfl⟩
      have a7 : gi m4 21 0 7 = nI (wln A x) := by rw [hm4, gi_si, if_neg (fun z => by omega)]; exact i7
      obtain ⟨m5, hm5⟩ : ∃ q, q = si m4 21 0 7 (nI (wln A x + 1)) := ⟨_, rfl⟩
      have b7 : gi m5 21 0 7 = nI (wln A x + 1) := by rw [hm5, gi_si, if_pos ⟨rfl, rfl, rfl⟩]
      have s5 : ∀ c i, c ≠ 26 → c ≠ 21 → gi m5 c 0 i = gi m2 c 0 i := fun c i h1 h2 => by
        rw [hm5, gi_si, if_neg (fun z => h2 z.1), hm4, gi_si, if_neg (fun z => h1 z.1)]
        exact s3 c i h1 h2
      obtain ⟨rm5, vc5⟩ := vc m5 s5
      have f5 : Frq (fun c t => c == 26 || c == 21) m2 m5 := by
        rw [hm5, hm4]
        exact (f3.tr (Frq.si rfl)).tr (Frq.si rfl)
      have k5 : gi m5 21 0 3 = gi m2 21 0 3 := by rw [hm5, gi_si, if_neg (fun z => by omega), hm4, gi_si, if_neg (fun z => by omega)]; exact k3
      have b26 : ∀ i, i < wln A x + 1 → gi m5 26 0 i = nI (upq (wbf A x) (wln A x) (cc (rdq A x)) i) := fun i hi => by
        rw [hm5, gi_si, if_neg (fun z => by omega), hm4, gi_si]
        unfold upq
        by_cases e : i = wln A x
        · rw [if_pos e, if_pos ⟨rfl, rfl, e⟩]
        · rw [if_neg e, if_neg (fun z => e z.2.2)]
          exact i26 i (by omega)
      have hstep : lX6_write_16 (fu + 1) (nI x) m3 = (if sn A x ≤ 127 then jX6_write_80 (lX6_write_16 fu) (nI x) m5 else wth (si m5 26 0 (wln A x + 1) (nI 46)) (fun m19 => wth (si m19 21 0 7 ((gi m19 21 0 7) + 1)) (fun m20 => jX6_write_80 (lX6_write_16 fu) (nI x) m20))) := by
        rw [lX6_write_16_s]
        simp (disch := omega) only [z_nn2, z0, z1, z2, z3, z4, z5, z6, z7, z8, z9, z10, z11, z12, z13, z14, z15, z16, z17, z18, z19, z20, z23, z24, z28, z31, z32, z33, z45, z46, z47, z48, z52, z57, z60, z63, z65, z70, z80, z95, z100, z126, z127, z128, z200, z240, z255, z400, z480, z500, z840, z1023, z2000, z99999, z1073741824, z_nn, z_add, z_sub, z_mul, z_div, z_rem, z_cl, z_in, z_chk, z_chkp, z_bnd, z_bn2, z_wth, z_bxr, z_bxl, z_bx2r, z_bx2l, z_bz0, z_bz1, z_mx, z_mn, z_tb1, z_tb0, z_eq, z_le, z_lt, z_nn_lt, z_nn_le, z_nn_ge, z_nn_gt, z_nn_eq, z_nn_eq2, z_bit, z_wow, z_wo, z_or, z_shl, z_if, z_ifn, fbit, if_true, if_false, Nat.zero_add, Nat.add_zero, not_false_iff, not_true, fread6 rm3 w (vc m3 s3).2 hx, fletterOf_all, i7]
        rw [← hm4]
        simp (disch := omega) only [z_nn2, z0, z1, z2, z3, z4, z5, z6, z7, z8, z9, z10, z11, z12, z13, z14, z15, z16, z17, z18, z19, z20, z23, z24, z28, z31, z32, z33, z45, z46, z47, z48, z52, z57, z60, z63, z65, z70, z80, z95, z100, z126, z127, z128, z200, z240, z255, z400, z480, z500, z840, z1023, z2000, z99999, z1073741824, z_nn, z_add, z_sub, z_mul, z_div, z_rem, z_cl, z_in, z_chk, z_chkp, z_bnd, z_bn2, z_wth, z_bxr, z_bxl, z_bx2r, z_bx2l, z_bz0, z_bz1, z_mx, z_mn, z_tb1, z_tb0, z_eq, z_le, z_lt, z_nn_lt, z_nn_le, z_nn_ge, z_nn_gt, z_nn_eq, z_nn_eq2, z_bit, z_wow, z_wo, z_or, z_shl, z_if, z_ifn, fbit, if_true, if_false, Nat.zero_add, Nat.add_zero, not_false_iff, not_true, a7]
        rw [← hm5]
        simp (disch := omega) only [z_nn2, z0, z1, z2, z3, z4, z5, z6, z7, z8, z9, z10, z11, z12, z13, z14, z15, z16, z17, z18, z19, z20, z23, z24, z28, z31, z32, z33, z45, z46, z47, z48, z52, z57, z60, z63, z65, z70, z80, z95, z100, z126, z127, z128, z200, z240, z255, z400, z480, z500, z840, z1023, z2000, z99999, z1073741824, z_nn, z_add, z_sub, z_mul, z_div, z_rem, z_cl, z_in, z_chk, z_chkp, z_bnd, z_bn2, z_wth, z_bxr, z_bxl, z_bx2r, z_bx2l, z_bz0, z_bz1, z_mx, z_mn, z_tb1, z_tb0, z_eq, z_le, z_lt, z_nn_lt, z_nn_le, z_nn_ge, z_nn_gt, z_nn_eq, z_nn_eq2, z_bit, z_wow, z_wo, z_or, z_shl, z_if, z_ifn, fbit, if_true, if_false, Nat.zero_add, Nat.add_zero, not_false_iff, not_true, fseen6 rm5 w vc5 hx, b7]
      by_cases c7 : tbq (sn A x) 7 = 1
      · have hle : ¬ sn A x ≤ 127 := fun z => by rw [ht7, if_pos z] at c7; omega
        rw [if_neg hle] at hstep
        obtain ⟨m6, hm6⟩ : ∃ q, q = si m5 26 0 (wln A x + 1) (nI 46) := ⟨_, rfl⟩
        have c7b : gi m6 21 0 7 = nI (wln A x + 1) := by rw [hm6, gi_si, if_neg (fun z => by omega)]; exact b7
        refine ⟨si m6 21 0 7 (nI (wln A x + 1 + 1)), ⟨?_, ?_, ?_, fun i hi => ?_⟩, ?_⟩
        · rw [hm6]
          exact (f5.tr (Frq.si rfl)).tr (Frq.si rfl)
        · rw [gi_si, if_neg (fun z => by omega), hm6, gi_si, if_neg (fun z => by omega)]; exact k5
        · rw [gi_si, if_pos ⟨rfl, rfl, rfl⟩, wln_s, c7]
        · rw [wln_s, c7] at hi
          rw [gi_si, if_neg (fun z => by omega), hm6, gi_si, wbf_s, if_pos c7]
          by_cases e : i = wln A x + 1
          · rw [if_pos ⟨rfl, rfl, e⟩, up_eq e]
          · rw [if_neg (fun z => e z.2.2), up_ne e]
            exact b26 i (by omega)
        · refine hstep.trans ?_
          rw [← hm6]
          simp (disch := omega) only [z_nn2, z0, z1, z2, z3, z4, z5, z6, z7, z8, z9, z10, z11, z12, z13, z14, z15, z16, z17, z18, z19, z20, z23, z24, z28, z31, z32, z33, z45, z46, z47, z48, z52, z57, z60, z63, z65, z70, z80, z95, z100, z126, z127, z128, z200, z240, z255, z400, z480, z500, z840, z1023, z2000, z99999, z1073741824, z_nn, z_add, z_sub, z_mul, z_div, z_rem, z_cl, z_in, z_chk, z_chkp, z_bnd, z_bn2, z_wth, z_bxr, z_bxl, z_bx2r, z_bx2l, z_bz0, z_bz1, z_mx, z_mn, z_tb1, z_tb0, z_eq, z_le, z_lt, z_nn_lt, z_nn_le, z_nn_ge, z_nn_gt, z_nn_eq, z_nn_eq2, z_bit, z_wow, z_wo, z_or, z_shl, z_if, z_ifn, fbit, if_true, if_false, Nat.zero_add, Nat.add_zero, not_false_iff, not_true, c7b, jX6_write_80]
      · have hle : sn A x ≤ 127 := by
          rw [ht7] at c7
          by_cases z : sn A x ≤ 127
          · exact z
          · rw [if_neg z] at c7; exact absurd rfl c7
        have c0 : tbq (sn A x) 7 = 0 := by omega
        rw [if_pos hle] at hstep
        refine ⟨m5, ⟨f5, k5, ?_, fun i hi => ?_⟩, ?_⟩
        · rw [wln_s, c0]; exact b7
        · rw [wln_s, c0] at hi
          rw [wbf_s, if_neg c7]
          exact b26 i hi
        · refine hstep.trans ?_
          unfold jX6_write_80
          rw [z1, z_add]
    · obtain ⟨f3, k3, i7, i26⟩ := hI
      rw [lX6_write_16_s]
      simp (disch := omega) only [z_nn2, z0, z1, z2, z3, z4, z5, z6, z7, z8, z9, z10, z11, z12, z13, z14, z15, z16, z17, z18, z19, z20, z23, z24, z28, z31, z32, z33, z45, z46, z47, z48, z52, z57, z60, z63, z65, z70, z80, z95, z100, z126, z127, z128, z200, z240, z255, z400, z480, z500, z840, z1023, z2000, z99999, z1073741824, z_nn, z_add, z_sub, z_mul, z_div, z_rem, z_cl, z_in, z_chk, z_chkp, z_bnd, z_bn2, z_wth, z_bxr, z_bxl, z_bx2r, z_bx2l, z_bz0, z_bz1, z_mx, z_mn, z_tb1, z_tb0, z_eq, z_le, z_lt, z_nn_lt, z_nn_le, z_nn_ge, z_nn_gt, z_nn_eq, z_nn_eq2, z_bit, z_wow, z_wo, z_or, z_shl, z_if, z_ifn, fbit, if_true, if_false, Nat.zero_add, Nat.add_zero, not_false_iff, not_true, i7]
      refine ⟨m3, rfl, ⟨r2.1.fr f3 rfl, r2.2.1.eqv k3 (fun i => f3.1 _ _ _ rfl), r2.2.2.1.eqv (fun i => f3.1 _ _ _ rfl) (fun i => f3.1 _ _ _ rfl), i7, i26⟩, fr2.tr (f3.fre (fun c t hc => by simp; omega))⟩
  obtain ⟨m2, e2, i2, f2⟩ := h6
  exact ⟨_, m1, m2, e1, e2, A, n, p, Sv, Sn, K, wbf A 6, wln A 6, GV_buf hg (by have := wln_le A 6; omega) (fun i hi => wbf_in A 6 i hi), i1.re f2, i2⟩
