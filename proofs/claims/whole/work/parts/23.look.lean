/-! WHAT IS SEEN: the glows of eight rounds, told by place -/
def gI (A : Nat → Nat) (i k : Nat) : Nat → Nat
  | 0 => A (32 + (i * 8 + k))
  | n + 1 => gs A i k (n % rt A) (gI A i k n)
theorem gI_le {A : Nat → Nat} (w : WF A) {i k : Nat} (hi : i < 6) (hk : k < 8) : ∀ n, gI A i k n ≤ 2000
  | 0 => w.glow (by omega)
  | n + 1 => gs_le w (gI_le w hi hk n)
def su (f : Nat → Nat) (b : Nat) : Nat → Nat
  | 0 => 0
  | j + 1 => su f b j + f (b + j + 1)
def mo (f : Nat → Nat) (b : Nat) : Nat → Nat
  | 0 => 0
  | j + 1 => max (mo f b j) (f (b + j + 1))
def lo2 (f : Nat → Nat) (b : Nat) : Nat → Nat
  | 0 => 1073741824
  | j + 1 => min (lo2 f b j) (f (b + j + 1))
theorem su_le {f : Nat → Nat} {b : Nat} (h : ∀ n, f n ≤ 2000) : ∀ j, su f b j ≤ 2000 * j
  | 0 => Nat.le_refl _
  | j + 1 => by
    have h1 := su_le (b := b) h j
    have h2 := h (b + j + 1)
    show su f b j + f (b + j + 1) ≤ _
    omega
theorem mo_le {f : Nat → Nat} {b : Nat} (h : ∀ n, f n ≤ 2000) : ∀ j, mo f b j ≤ 2000
  | 0 => Nat.zero_le _
  | j + 1 => Nat.max_le.mpr ⟨mo_le h j, h _⟩
theorem lo2_le {f : Nat → Nat} {b : Nat} : ∀ j, lo2 f b j ≤ 1073741824
  | 0 => Nat.le_refl _
  | j + 1 => Nat.le_trans (Nat.min_le_left _ _) (lo2_le j)
theorem su_cg {f : Nat → Nat} {b c : Nat} (h : ∀ j, f (b + j) = f (c + j)) : ∀ j, su f b j = su f c j
  | 0 => rfl
  | j + 1 => by
    show su f b j + f (b + j + 1) = su f c j + f (c + j + 1)
    rw [su_cg h j, Nat.add_assoc, Nat.add_assoc, h]
theorem mo_cg {f : Nat → Nat} {b c : Nat} (h : ∀ j, f (b + j) = f (c + j)) : ∀ j, mo f b j = mo f c j
  | 0 => rfl
  | j + 1 => by
    show max (mo f b j) (f (b + j + 1)) = max (mo f c j) (f (c + j + 1))
    rw [mo_cg h j, Nat.add_assoc, Nat.add_assoc, h]
theorem lo2_cg {f : Nat → Nat} {b c : Nat} (h : ∀ j, f (b + j) = f (c + j)) : ∀ j, lo2 f b j = lo2 f c j
  | 0 => rfl
  | j + 1 => by
    show min (lo2 f b j) (f (b + j + 1)) = min (lo2 f c j) (f (c + j + 1))
    rw [lo2_cg h j, Nat.add_assoc, Nat.add_assoc, h]
theorem gI_sh {A : Nat → Nat} {i k a b : Nat} (h : gI A i k (a * rt A) = gI A i k (b * rt A)) : ∀ j, gI A i k (a * rt A + j) = gI A i k (b * rt A + j)
  | 0 => h
  | j + 1 => by
    show gs A i k ((a * rt A + j) % rt A) (gI A i k (a * rt A + j)) = gs A i k ((b * rt A + j) % rt A) (gI A i k (b * rt A + j))
    rw [gI_sh h j, Nat.mul_add_mod', Nat.mul_add_mod']
theorem gI_per {A : Nat → Nat} {i k r : Nat} (h : gI A i k ((r + 1) * rt A) = gI A i k (r * rt A)) : ∀ q, gI A i k ((r + q) * rt A) = gI A i k (r * rt A)
  | 0 => rfl
  | q + 1 => by
    have h1 := gI_sh (gI_per h q) (rt A)
    rw [← Nat.succ_mul, ← Nat.succ_mul] at h1
    exact h1.trans h
def br (A : Nat → Nat) (i k : Nat) : Nat := if rt A = 0 then 0 else su (gI A i k) (7 * rt A) (rt A) / rt A
def mq (A : Nat → Nat) (i k : Nat) : Nat := if rt A = 0 then 0 else mo (gI A i k) (7 * rt A) (rt A)
def lq (A : Nat → Nat) (i k : Nat) : Nat := if rt A = 0 then 0 else lo2 (gI A i k) (7 * rt A) (rt A)
theorem br_le {A : Nat → Nat} (w : WF A) {i k : Nat} (hi : i < 6) (hk : k < 8) : br A i k ≤ 2000 := by
  unfold br
  split
  · omega
  · refine Nat.div_le_of_le_mul ?_
    exact Nat.le_trans (su_le (gI_le w hi hk) _) (Nat.le_of_eq (Nat.mul_comm _ _))
theorem mq_le {A : Nat → Nat} (w : WF A) {i k : Nat} (hi : i < 6) (hk : k < 8) : mq A i k ≤ 2000 := by
  unfold mq
  split
  · omega
  · exact mo_le (gI_le w hi hk) _
theorem lo2_mo {A : Nat → Nat} {i k b : Nat} : ∀ j, 0 < j → lo2 (gI A i k) b j ≤ mo (gI A i k) b j
  | 0, h => absurd h (Nat.lt_irrefl 0)
  | j + 1, _ => Nat.le_trans (Nat.min_le_right _ _) (Nat.le_max_right _ _)
theorem lq_mq {A : Nat → Nat} (i k : Nat) : lq A i k ≤ mq A i k := by
  unfold lq mq
  by_cases h : rt A = 0
  · rw [if_pos h, if_pos h]; exact Nat.le_refl _
  · rw [if_neg h, if_neg h]; exact lo2_mo _ (by omega)
def LM (t p x y z : Nat) (mm : gM) : gM := si (si (si mm 7 t p (nI x)) 8 t p (nI y)) 9 t p (nI z)
theorem finner {t : Nat} {A : Nat → Nat} {mm : gM} (w : WF A) {i k r p : Nat} (hi : i < 6) (hk : k < 8) (hT : TSq t A i mm) (k31 : Int32 → Int32 → Int32 → Int32 → Int32 → Int32 → Int32 → Int32 → gM → Option (gM)) (x8 x9 : Int32) : lX1_lookAt_63 k31 t FU (nI p) (nI k) (nI (rt A)) (nI (gI A i k (r * rt A))) (nI 0) (nI 0) (nI 1073741824) x8 x9 (nI 0) mm = jX1_lookAt_114 k31 t (nI p) (nI k) (nI (rt A)) (nI (gI A i k (r * rt A + rt A))) (nI (su (gI A i k) (r * rt A) (rt A))) (nI (mo (gI A i k) (r * rt A) (rt A))) (nI (lo2 (gI A i k) (r * rt A) (rt A))) x8 x9 mm := by
  have hR := rt_le w
  refine loop_up (fun n j => lX1_lookAt_63 k31 t n (nI p) (nI k) (nI (rt A)) (nI (gI A i k (r * rt A + j))) (nI (su (gI A i k) (r * rt A) j)) (nI (mo (gI A i k) (r * rt A) j)) (nI (lo2 (gI A i k) (r * rt A) j)) x8 x9 (nI j) mm) _ (rt A) (fun n j hj => ?_) (fun n => ?_) FU 0 (Nat.zero_le _) (by unfold FU; omega)
  · have h1 := gI_le w hi hk (r * rt A + j)
    have h2 := su_le (b := r * rt A) (gI_le w hi hk) j
    have h3 := mo_le (b := r * rt A) (gI_le w hi hk) j
    have h4 := lo2_le (f := gI A i k) (b := r * rt A) j
    have h5 : gs A i k j (gI A i k (r * rt A + j)) = gI A i k (r * rt A + j + 1) := by
      show _ = gs A i k ((r * rt A + j) % rt A) (gI A i k (r * rt A + j))
      rw [Nat.mul_add_mod', Nat.mod_eq_of_lt hj]
    have h6 := gI_le w hi hk (r * rt A + j + 1)
    rw [lX1_lookAt_63_s]
    simp (disch := omega) only [z_nn2, z0, z1, z2, z3, z4, z5, z6, z7, z8, z9, z10, z11, z12, z13, z14, z15, z16, z17, z18, z19, z20, z23, z24, z28, z31, z32, z33, z45, z46, z47, z48, z52, z57, z60, z63, z65, z70, z80, z95, z100, z126, z127, z128, z200, z240, z255, z400, z480, z500, z840, z1023, z2000, z99999, z1073741824, z_nn, z_add, z_sub, z_mul, z_div, z_rem, z_cl, z_in, z_chk, z_chkp, z_bnd, z_bn2, z_wth, z_bxr, z_bxl, z_bx2r, z_bx2l, z_bz0, z_bz1, z_mx, z_mn, z_tb1, z_tb0, z_eq, z_le, z_lt, z_nn_lt, z_nn_le, z_nn_ge, z_nn_gt, z_nn_eq, z_nn_eq2, z_bit, z_wow, z_wo, z_or, z_shl, z_if, z_ifn, fbit, if_true, if_false, Nat.zero_add, Nat.add_zero, not_false_iff, not_true, fglow w hi hT hk, h5]
    rfl
  · rw [lX1_lookAt_63_s]
    simp (disch := omega) only [z_nn2, z0, z1, z2, z3, z4, z5, z6, z7, z8, z9, z10, z11, z12, z13, z14, z15, z16, z17, z18, z19, z20, z23, z24, z28, z31, z32, z33, z45, z46, z47, z48, z52, z57, z60, z63, z65, z70, z80, z95, z100, z126, z127, z128, z200, z240, z255, z400, z480, z500, z840, z1023, z2000, z99999, z1073741824, z_nn, z_add, z_sub, z_mul, z_div, z_rem, z_cl, z_in, z_chk, z_chkp, z_bnd, z_bn2, z_wth, z_bxr, z_bxl, z_bx2r, z_bx2l, z_bz0, z_bz1, z_mx, z_mn, z_tb1, z_tb0, z_eq, z_le, z_lt, z_nn_lt, z_nn_le, z_nn_ge, z_nn_gt, z_nn_eq, z_nn_eq2, z_bit, z_wow, z_wo, z_or, z_shl, z_if, z_ifn, fbit, if_true, if_false, Nat.zero_add, Nat.add_zero, not_false_iff, not_true]
theorem flookAt {t : Nat} {A : Nat → Nat} {mm : gM} (h : CS t A mm) (w : WF A) {i k : Nat} (hi : i < 6) (hk : k < 8) (hT : TSq t A i mm) : fX1_lookAt t (nI (i * 8 + k)) (nI k) mm = some (LM t (i * 8 + k) (br A i k) (mq A i k) (lq A i k) mm) := by
  have hR := rt_le w
  have hfin : ∀ s m l, s < 2147483648 → jX1_lookAt_130 t (nI (i * 8 + k)) (nI (rt A)) (nI s) (nI m) (nI l) mm = some (LM t (i * 8 + k) (if rt A = 0 then 0 else s / rt A) m l mm) := by
    intro s m l hs
    unfold jX1_lookAt_130 jX1_lookAt_147 LM
    by_cases e : rt A = 0
    · rw [e]
      simp (disch := omega) only [z_nn2, z0, z1, z2, z3, z4, z5, z6, z7, z8, z9, z10, z11, z12, z13, z14, z15, z16, z17, z18, z19, z20, z23, z24, z28, z31, z32, z33, z45, z46, z47, z48, z52, z57, z60, z63, z65, z70, z80, z95, z100, z126, z127, z128, z200, z240, z255, z400, z480, z500, z840, z1023, z2000, z99999, z1073741824, z_nn, z_add, z_sub, z_mul, z_div, z_rem, z_cl, z_in, z_chk, z_chkp, z_bnd, z_bn2, z_wth, z_bxr, z_bxl, z_bx2r, z_bx2l, z_bz0, z_bz1, z_mx, z_mn, z_tb1, z_tb0, z_eq, z_le, z_lt, z_nn_lt, z_nn_le, z_nn_ge, z_nn_gt, z_nn_eq, z_nn_eq2, z_bit, z_wow, z_wo, z_or, z_shl, z_if, z_ifn, fbit, if_true, if_false, Nat.zero_add, Nat.add_zero, not_false_iff, not_true]
    · rw [if_neg e]
      simp (disch := omega) only [z_nn2, z0, z1, z2, z3, z4, z5, z6, z7, z8, z9, z10, z11, z12, z13, z14, z15, z16, z17, z18, z19, z20, z23, z24, z28, z31, z32, z33, z45, z46, z47, z48, z52, z57, z60, z63, z65, z70, z80, z95, z100, z126, z127, z128, z200, z240, z255, z400, z480, z500, z840, z1023, z2000, z99999, z1073741824, z_nn, z_add, z_sub, z_mul, z_div, z_rem, z_cl, z_in, z_chk, z_chkp, z_bnd, z_bn2, z_wth, z_bxr, z_bxl, z_bx2r, z_bx2l, z_bz0, z_bz1, z_mx, z_mn, z_tb1, z_tb0, z_eq, z_le, z_lt, z_nn_lt, z_nn_le, z_nn_ge, z_nn_gt, z_nn_eq, z_nn_eq2, z_bit, z_wow, z_wo, z_or, z_shl, z_if, z_ifn, fbit, if_true, if_false, Nat.zero_add, Nat.add_zero, not_false_iff, not_true]
  have hG := gI_le w hi hk
  have hS := fun r => su_le (b := r * rt A) hG (rt A)
  unfold fX1_lookAt fX4_ticksOfRound
  rw [hT.1]
  simp (disch := omega) only [z_nn2, z0, z1, z2, z3, z4, z5, z6, z7, z8, z9, z10, z11, z12, z13, z14, z15, z16, z17, z18, z19, z20, z23, z24, z28, z31, z32, z33, z45, z46, z47, z48, z52, z57, z60, z63, z65, z70, z80, z95, z100, z126, z127, z128, z200, z240, z255, z400, z480, z500, z840, z1023, z2000, z99999, z1073741824, z_nn, z_add, z_sub, z_mul, z_div, z_rem, z_cl, z_in, z_chk, z_chkp, z_bnd, z_bn2, z_wth, z_bxr, z_bxl, z_bx2r, z_bx2l, z_bz0, z_bz1, z_mx, z_mn, z_tb1, z_tb0, z_eq, z_le, z_lt, z_nn_lt, z_nn_le, z_nn_ge, z_nn_gt, z_nn_eq, z_nn_eq2, z_bit, z_wow, z_wo, z_or, z_shl, z_if, z_ifn, fbit, if_true, if_false, Nat.zero_add, Nat.add_zero, not_false_iff, not_true, h.glow]
  by_cases e : rt A = 0
  · rw [show FU = 4095 + 1 from rfl, lX1_lookAt_31_s]
    have hb : br A i k = 0 := if_pos e
    have hm : mq A i k = 0 := if_pos e
    have hl : lq A i k = 0 := if_pos e
    rw [e] at hfin ⊢
    simp (disch := omega) only [z_nn2, z0, z1, z2, z3, z4, z5, z6, z7, z8, z9, z10, z11, z12, z13, z14, z15, z16, z17, z18, z19, z20, z23, z24, z28, z31, z32, z33, z45, z46, z47, z48, z52, z57, z60, z63, z65, z70, z80, z95, z100, z126, z127, z128, z200, z240, z255, z400, z480, z500, z840, z1023, z2000, z99999, z1073741824, z_nn, z_add, z_sub, z_mul, z_div, z_rem, z_cl, z_in, z_chk, z_chkp, z_bnd, z_bn2, z_wth, z_bxr, z_bxl, z_bx2r, z_bx2l, z_bz0, z_bz1, z_mx, z_mn, z_tb1, z_tb0, z_eq, z_le, z_lt, z_nn_lt, z_nn_le, z_nn_ge, z_nn_gt, z_nn_eq, z_nn_eq2, z_bit, z_wow, z_wo, z_or, z_shl, z_if, z_ifn, fbit, if_true, if_false, Nat.zero_add, Nat.add_zero, not_false_iff, not_true, jX1_lookAt_58]
    rw [show FU = 4095 + 1 from rfl, lX1_lookAt_63_s]
    simp (disch := omega) only [z_nn2, z0, z1, z2, z3, z4, z5, z6, z7, z8, z9, z10, z11, z12, z13, z14, z15, z16, z17, z18, z19, z20, z23, z24, z28, z31, z32, z33, z45, z46, z47, z48, z52, z57, z60, z63, z65, z70, z80, z95, z100, z126, z127, z128, z200, z240, z255, z400, z480, z500, z840, z1023, z2000, z99999, z1073741824, z_nn, z_add, z_sub, z_mul, z_div, z_rem, z_cl, z_in, z_chk, z_chkp, z_bnd, z_bn2, z_wth, z_bxr, z_bxl, z_bx2r, z_bx2l, z_bz0, z_bz1, z_mx, z_mn, z_tb1, z_tb0, z_eq, z_le, z_lt, z_nn_lt, z_nn_le, z_nn_ge, z_nn_gt, z_nn_eq, z_nn_eq2, z_bit, z_wow, z_wo, z_or, z_shl, z_if, z_ifn, fbit, if_true, if_false, Nat.zero_add, Nat.add_zero, not_false_iff, not_true, jX1_lookAt_114, jX1_lookAt_121, hfin, hb, hm, hl]
  · have hb : br A i k = su (gI A i k) (7 * rt A) (rt A) / rt A := if_neg e
    have hm : mq A i k = mo (gI A i k) (7 * rt A) (rt A) := if_neg e
    have hl : lq A i k = lo2 (gI A i k) (7 * rt A) (rt A) := if_neg e
    have hlast : ∀ r, r ≤ 7 → gI A i k ((r + 1) * rt A) = gI A i k (r * rt A) → jX1_lookAt_130 t (nI (i * 8 + k)) (nI (rt A)) (nI (su (gI A i k) (r * rt A) (rt A))) (nI (mo (gI A i k) (r * rt A) (rt A))) (nI (lo2 (gI A i k) (r * rt A) (rt A))) mm = some (LM t (i * 8 + k) (br A i k) (mq A i k) (lq A i k) mm) := by
      intro r hr hq
      have h7 := gI_sh (gI_per hq (7 - r))
      rw [show r + (7 - r) = 7 by omega] at h7
      have h8 := hS r
      rw [hfin _ _ _ (by omega), if_neg e, hb, hm, hl, su_cg h7, mo_cg h7, lo2_cg h7]
    have main : ∀ q r n s5 s6 s7, r + q = 7 → q + 1 < n → lX1_lookAt_31 t n (nI (i * 8 + k)) (nI k) (nI (rt A)) (nI (gI A i k (r * rt A))) s5 s6 s7 (nI r) mm = some (LM t (i * 8 + k) (br A i k) (mq A i k) (lq A i k) mm) := by
      intro q
      induction q with
      | zero =>
        intro r n s5 s6 s7 hr hn
        obtain ⟨m, rfl⟩ : ∃ m, n = m + 1 + 1 := ⟨n - 2, by omega⟩
        have hr7 : r = 7 := by omega
        subst hr7
        rw [lX1_lookAt_31_s]
        simp (disch := omega) only [z_nn2, z0, z1, z2, z3, z4, z5, z6, z7, z8, z9, z10, z11, z12, z13, z14, z15, z16, z17, z18, z19, z20, z23, z24, z28, z31, z32, z33, z45, z46, z47, z48, z52, z57, z60, z63, z65, z70, z80, z95, z100, z126, z127, z128, z200, z240, z255, z400, z480, z500, z840, z1023, z2000, z99999, z1073741824, z_nn, z_add, z_sub, z_mul, z_div, z_rem, z_cl, z_in, z_chk, z_chkp, z_bnd, z_bn2, z_wth, z_bxr, z_bxl, z_bx2r, z_bx2l, z_bz0, z_bz1, z_mx, z_mn, z_tb1, z_tb0, z_eq, z_le, z_lt, z_nn_lt, z_nn_le, z_nn_ge, z_nn_gt, z_nn_eq, z_nn_eq2, z_bit, z_wow, z_wo, z_or, z_shl, z_if, z_ifn, fbit, if_true, if_false, Nat.zero_add, Nat.add_zero, not_false_iff, not_true, jX1_lookAt_58, finner w hi hk hT]
        unfold jX1_lookAt_114 jX1_lookAt_121
        have h8 := hS 7
        rw [hfin _ _ _ (by omega), if_neg e]
        split
        · rw [hb, hm, hl]
        · rw [z1, z_add, lX1_lookAt_31_s]
          simp (disch := omega) only [z_nn2, z0, z1, z2, z3, z4, z5, z6, z7, z8, z9, z10, z11, z12, z13, z14, z15, z16, z17, z18, z19, z20, z23, z24, z28, z31, z32, z33, z45, z46, z47, z48, z52, z57, z60, z63, z65, z70, z80, z95, z100, z126, z127, z128, z200, z240, z255, z400, z480, z500, z840, z1023, z2000, z99999, z1073741824, z_nn, z_add, z_sub, z_mul, z_div, z_rem, z_cl, z_in, z_chk, z_chkp, z_bnd, z_bn2, z_wth, z_bxr, z_bxl, z_bx2r, z_bx2l, z_bz0, z_bz1, z_mx, z_mn, z_tb1, z_tb0, z_eq, z_le, z_lt, z_nn_lt, z_nn_le, z_nn_ge, z_nn_gt, z_nn_eq, z_nn_eq2, z_bit, z_wow, z_wo, z_or, z_shl, z_if, z_ifn, fbit, if_true, if_false, Nat.zero_add, Nat.add_zero, not_false_iff, not_true, hfin, hb, hm, hl]
      | succ q ih =>
        intro r n s5 s6 s7 hr hn
        obtain ⟨m, rfl⟩ : ∃ m, n = m + 1 := ⟨n - 1, by omega⟩
        rw [lX1_lookAt_31_s]
        simp (disch := omega) only [z_nn2, z0, z1, z2, z3, z4, z5, z6, z7, z8, z9, z10, z11, z12, z13, z14, z15, z16, z17, z18, z19, z20, z23, z24, z28, z31, z32, z33, z45, z46, z47, z48, z52, z57, z60, z63, z65, z70, z80, z95, z100, z126, z127, z128, z200, z240, z255, z400, z480, z500, z840, z1023, z2000, z99999, z1073741824, z_nn, z_add, z_sub, z_mul, z_div, z_rem, z_cl, z_in, z_chk, z_chkp, z_bnd, z_bn2, z_wth, z_bxr, z_bxl, z_bx2r, z_bx2l, z_bz0, z_bz1, z_mx, z_mn, z_tb1, z_tb0, z_eq, z_le, z_lt, z_nn_lt, z_nn_le, z_nn_ge, z_nn_gt, z_nn_eq, z_nn_eq2, z_bit, z_wow, z_wo, z_or, z_shl, z_if, z_ifn, fbit, if_true, if_false, Nat.zero_add, Nat.add_zero, not_false_iff, not_true, jX1_lookAt_58, finner w hi hk hT]
        unfold jX1_lookAt_114 jX1_lookAt_121
        have g1 := hG (r * rt A + rt A)
        have g2 := hG (r * rt A)
        simp (disch := omega) only [z_eq]
        have e9 : r * rt A + rt A = (r + 1) * rt A := (Nat.succ_mul r (rt A)).symm
        rw [e9]
        split
        · rename_i c
          exact hlast r (by omega) c
        · rw [z1, z_add]
          exact ih (r + 1) m _ _ _ (by omega) (by omega)
    have := main 7 0 FU (nI 0) (nI 0) (nI 0) rfl (by decide)
    rw [Nat.zero_mul] at this
    exact this
def CKq (t : Nat) (A : Nat → Nat) (i : Nat) (mm : gM) : Prop := ∀ k, k < 8 → gi mm 7 t (i * 8 + k) = nI (br A i k) ∧ gi mm 8 t (i * 8 + k) = nI (mq A i k) ∧ gi mm 9 t (i * 8 + k) = nI (lq A i k)
def ECq (t : Nat) (A : Nat → Nat) (mm : gM) : Prop := ∀ i, i < 6 → gi mm 10 t i = nI 0 ∨ (gi mm 10 t i = nI 1 ∧ CKq t A i mm)
def PEq (t1 : Nat) : Nat → Nat → Bool := fun c t => (c == 7 || c == 8 || c == 9 || c == 10 || c == 11) && t == t1
theorem z_nar1 : vp_nar .boolean (nI 1) = nI 1 := by decide
theorem z_nar0 : vp_nar .boolean (nI 0) = nI 0 := by decide
theorem PE_ok {t1 c : Nat} (h : c = 7 ∨ c = 8 ∨ c = 9 ∨ c = 10 ∨ c = 11) : PEq t1 c t1 = true := by
  rcases h with rfl | rfl | rfl | rfl | rfl <;> simp [PEq]
theorem PE_cs {t1 : Nat} (c t : Nat) (hc : c < 6) : PEq t1 c t = false := by
  unfold PEq
  simp
  omega
theorem Fr_PT_PE {t1 : Nat} {m m1 : gM} (h : Frq (PTq t1) m m1) : Frq (PEq t1) m m1 := h.mono (fun c t hc => by
  unfold PEq at hc
  unfold PTq
  simp at hc ⊢
  omega)
theorem TS_si {t : Nat} {A : Nat → Nat} {i : Nat} {m : gM} {c t1 j : Nat} {v : Int32} (hc : c ≠ 11) (h : TSq t A i m) : TSq t A i (si m c t1 j v) := by
  have hg : ∀ x, gi (si m c t1 j v) 11 t x = gi m 11 t x := fun x => by rw [gi_si, if_neg (fun z => hc z.1.symm)]
  unfold TSq
  simp only [hg]
  exact h
theorem flook {t : Nat} {A : Nat → Nat} {mm : gM} (h : CS t A mm) (w : WF A) (he : ECq t A mm) {i : Nat} (hi : i < 6) : ∃ m1, fX1_look t (nI i) mm = some m1 ∧ Frq (PEq t) mm m1 ∧ ECq t A m1 ∧ CKq t A i m1 := by
  unfold fX1_look
  rcases he i hi with h0 | ⟨h1, hck⟩
  · simp (disch := omega) only [z_nn2, z0, z1, z2, z3, z4, z5, z6, z7, z8, z9, z10, z11, z12, z13, z14, z15, z16, z17, z18, z19, z20, z23, z24, z28, z31, z32, z33, z45, z46, z47, z48, z52, z57, z60, z63, z65, z70, z80, z95, z100, z126, z127, z128, z200, z240, z255, z400, z480, z500, z840, z1023, z2000, z99999, z1073741824, z_nn, z_add, z_sub, z_mul, z_div, z_rem, z_cl, z_in, z_chk, z_chkp, z_bnd, z_bn2, z_wth, z_bxr, z_bxl, z_bx2r, z_bx2l, z_bz0, z_bz1, z_mx, z_mn, z_tb1, z_tb0, z_eq, z_le, z_lt, z_nn_lt, z_nn_le, z_nn_ge, z_nn_gt, z_nn_eq, z_nn_eq2, z_bit, z_wow, z_wo, z_or, z_shl, z_if, z_ifn, fbit, if_true, if_false, Nat.zero_add, Nat.add_zero, not_false_iff, not_true, h0]
    obtain ⟨m2, e2, f2, hT⟩ := ftake (t2 := t) h w hi
    rw [e2]
    simp only [z_bnd]
    have hcs2 : CS t A m2 := h.fr (Fr_PT_PE f2) (fun c hc => PE_cs c t hc)
    refine loop_ex (fun n x m => lX1_look_24 t n (nI i) (nI x) m) (fun x m => Frq (PEq t) m2 m ∧ TSq t A i m ∧ (∀ k, k < x → gi m 7 t (i * 8 + k) = nI (br A i k) ∧ gi m 8 t (i * 8 + k) = nI (mq A i k) ∧ gi m 9 t (i * 8 + k) = nI (lq A i k)) ∧ (∀ c p, c < 11 → p < i * 8 ∨ i * 8 + 8 ≤ p ∨ c = 10 → gi m c t p = gi m2 c t p)) (fun o => ∃ m1, o = some m1 ∧ Frq (PEq t) mm m1 ∧ ECq t A m1 ∧ CKq t A i m1) 8 (fun n x m hx hI => ?_) (fun n m hI => ?_) FU 0 m2 (by decide) (by decide) ⟨Frq.rf, hT, fun k hk => absurd hk (Nat.not_lt_zero k), fun _ _ _ _ => rfl⟩
    · obtain ⟨a1, a2, a3, a4⟩ := hI
      have hcs : CS t A m := hcs2.fr a1 (fun c hc => PE_cs c t hc)
      refine ⟨LM t (i * 8 + x) (br A i x) (mq A i x) (lq A i x) m, ⟨?_, ?_, ?_, ?_⟩, ?_⟩
      · exact ((a1.tr (Frq.si (PE_ok (by decide)))).tr (Frq.si (PE_ok (by decide)))).tr (Frq.si (PE_ok (by decide)))
      · exact TS_si (by decide) (TS_si (by decide) (TS_si (by decide) a2))
      · intro k hk
        unfold LM
        by_cases c : k = x
        · subst c
          refine ⟨?_, ?_, ?_⟩ <;> simp (disch := omega) only [gi_si, z_if, z_ifn, and_self, if_true]
        · obtain ⟨b1, b2, b3⟩ := a3 k (by omega)
          refine ⟨?_, ?_, ?_⟩ <;> simp (disch := omega) only [gi_si, z_if, z_ifn, and_self, if_true, b1, b2, b3]
      · intro c p hc hp
        unfold LM
        simp (disch := omega) only [gi_si, z_ifn, and_self, if_true]
        exact a4 c p hc hp
      · show lX1_look_24 t (n + 1) (nI i) (nI x) m = _
        rw [lX1_look_24_s]
        simp (disch := omega) only [z_nn2, z0, z1, z2, z3, z4, z5, z6, z7, z8, z9, z10, z11, z12, z13, z14, z15, z16, z17, z18, z19, z20, z23, z24, z28, z31, z32, z33, z45, z46, z47, z48, z52, z57, z60, z63, z65, z70, z80, z95, z100, z126, z127, z128, z200, z240, z255, z400, z480, z500, z840, z1023, z2000, z99999, z1073741824, z_nn, z_add, z_sub, z_mul, z_div, z_rem, z_cl, z_in, z_chk, z_chkp, z_bnd, z_bn2, z_wth, z_bxr, z_bxl, z_bx2r, z_bx2l, z_bz0, z_bz1, z_mx, z_mn, z_tb1, z_tb0, z_eq, z_le, z_lt, z_nn_lt, z_nn_le, z_nn_ge, z_nn_gt, z_nn_eq, z_nn_eq2, z_bit, z_wow, z_wo, z_or, z_shl, z_if, z_ifn, fbit, if_true, if_false, Nat.zero_add, Nat.add_zero, not_false_iff, not_true, flookAt hcs w hi hx a2]
    · obtain ⟨a1, a2, a3, a4⟩ := hI
      rw [lX1_look_24_s]
      simp (disch := omega) only [z_nn2, z0, z1, z2, z3, z4, z5, z6, z7, z8, z9, z10, z11, z12, z13, z14, z15, z16, z17, z18, z19, z20, z23, z24, z28, z31, z32, z33, z45, z46, z47, z48, z52, z57, z60, z63, z65, z70, z80, z95, z100, z126, z127, z128, z200, z240, z255, z400, z480, z500, z840, z1023, z2000, z99999, z1073741824, z_nn, z_add, z_sub, z_mul, z_div, z_rem, z_cl, z_in, z_chk, z_chkp, z_bnd, z_bn2, z_wth, z_bxr, z_bxl, z_bx2r, z_bx2l, z_bz0, z_bz1, z_mx, z_mn, z_tb1, z_tb0, z_eq, z_le, z_lt, z_nn_lt, z_nn_le, z_nn_ge, z_nn_gt, z_nn_eq, z_nn_eq2, z_bit, z_wow, z_wo, z_or, z_shl, z_if, z_ifn, fbit, if_true, if_false, Nat.zero_add, Nat.add_zero, not_false_iff, not_true, jX1_look_47, z_nar1]
      refine ⟨_, rfl, ((Fr_PT_PE f2).tr a1).tr (Frq.si (PE_ok (by decide))), ?_, ?_⟩
      · intro j hj
        by_cases c : j = i
        · subst c
          refine Or.inr ⟨?_, fun k hk => ?_⟩
          · simp (disch := omega) only [gi_si, z_if, and_self, if_true]
          · obtain ⟨b1, b2, b3⟩ := a3 k hk
            refine ⟨?_, ?_, ?_⟩ <;> simp (disch := omega) only [gi_si, z_ifn, and_self, if_true, b1, b2, b3]
        · have e10 : gi (si m 10 t i (nI 1)) 10 t j = gi mm 10 t j := by
            simp (disch := omega) only [gi_si, z_ifn, and_self, if_true]
            rw [a4 10 j (by decide) (by omega), f2.1 10 t j (by simp [PTq])]
          rw [e10]
          rcases he j hj with c0 | ⟨c1, c2⟩
          · exact Or.inl c0
          · refine Or.inr ⟨c1, fun k hk => ?_⟩
            obtain ⟨b1, b2, b3⟩ := c2 k hk
            have hh : ∀ c, c < 10 → gi (si m 10 t i (nI 1)) c t (j * 8 + k) = gi mm c t (j * 8 + k) := by
              intro c hc
              simp (disch := omega) only [gi_si, z_ifn, and_self, if_true]
              rw [a4 c _ (by omega) (by omega), f2.1 c t _ (by simp [PTq]; omega)]
            rw [hh 7 (by decide), hh 8 (by decide), hh 9 (by decide)]
            exact ⟨b1, b2, b3⟩
      · intro k hk
        obtain ⟨b1, b2, b3⟩ := a3 k hk
        refine ⟨?_, ?_, ?_⟩ <;> simp (disch := omega) only [gi_si, z_ifn, and_self, if_true, b1, b2, b3]
  · simp (disch := omega) only [z_nn2, z0, z1, z2, z3, z4, z5, z6, z7, z8, z9, z10, z11, z12, z13, z14, z15, z16, z17, z18, z19, z20, z23, z24, z28, z31, z32, z33, z45, z46, z47, z48, z52, z57, z60, z63, z65, z70, z80, z95, z100, z126, z127, z128, z200, z240, z255, z400, z480, z500, z840, z1023, z2000, z99999, z1073741824, z_nn, z_add, z_sub, z_mul, z_div, z_rem, z_cl, z_in, z_chk, z_chkp, z_bnd, z_bn2, z_wth, z_bxr, z_bxl, z_bx2r, z_bx2l, z_bz0, z_bz1, z_mx, z_mn, z_tb1, z_tb0, z_eq, z_le, z_lt, z_nn_lt, z_nn_le, z_nn_ge, z_nn_gt, z_nn_eq, z_nn_eq2, z_bit, z_wow, z_wo, z_or, z_shl, z_if, z_ifn, fbit, if_true, if_false, Nat.zero_add, Nat.add_zero, not_false_iff, not_true, h1]
    exact ⟨mm, rfl, Frq.rf, he, hck⟩
def snp (A : Nat → Nat) (i : Nat) : Nat → Nat
  | 0 => 0
  | k + 1 => snp A i k ||| (if br A i k < A 3 then 0 else 2 ^ k)
theorem snp_lt (A : Nat → Nat) (i : Nat) : ∀ k, snp A i k < 2 ^ k
  | 0 => by show (0 : Nat) < 2 ^ 0; decide
  | k + 1 => by
    have h1 := snp_lt A i k
    have h2 : 2 ^ k < 2 ^ (k + 1) := Nat.pow_lt_pow_right (by decide) (by omega)
    show snp A i k ||| _ < 2 ^ (k + 1)
    refine Nat.or_lt_two_pow (by omega) ?_
    split <;> omega
def sn (A : Nat → Nat) (i : Nat) : Nat := snp A i 8
theorem sn_lt (A : Nat → Nat) (i : Nat) : sn A i < 256 := snp_lt A i 8
theorem fseen {t : Nat} {A : Nat → Nat} {mm : gM} (h : CS t A mm) (w : WF A) {i : Nat} (hi : i < 6) (hc : CKq t A i mm) : fX1_seen t (nI i) mm = some (nI (sn A i)) := by
  have hw := w.wd
  refine loop_up (fun n k => lX1_seen_4 t mm n (nI i) (nI (snp A i k)) (nI k)) (some (nI (sn A i))) 8 (fun n k hk => ?_) (fun n => ?_) FU 0 (by decide) (by decide)
  · have h1 := (hc k hk).1
    have h2 := br_le w hi hk
    rw [lX1_seen_4_s]
    simp (disch := omega) only [z_nn2, z0, z1, z2, z3, z4, z5, z6, z7, z8, z9, z10, z11, z12, z13, z14, z15, z16, z17, z18, z19, z20, z23, z24, z28, z31, z32, z33, z45, z46, z47, z48, z52, z57, z60, z63, z65, z70, z80, z95, z100, z126, z127, z128, z200, z240, z255, z400, z480, z500, z840, z1023, z2000, z99999, z1073741824, z_nn, z_add, z_sub, z_mul, z_div, z_rem, z_cl, z_in, z_chk, z_chkp, z_bnd, z_bn2, z_wth, z_bxr, z_bxl, z_bx2r, z_bx2l, z_bz0, z_bz1, z_mx, z_mn, z_tb1, z_tb0, z_eq, z_le, z_lt, z_nn_lt, z_nn_le, z_nn_ge, z_nn_gt, z_nn_eq, z_nn_eq2, z_bit, z_wow, z_wo, z_or, z_shl, z_if, z_ifn, fbit, if_true, if_false, Nat.zero_add, Nat.add_zero, not_false_iff, not_true, h.set, h1, jX1_seen_39]
    show _ = lX1_seen_4 t mm n (nI i) (nI (snp A i k ||| (if br A i k < A 3 then 0 else 2 ^ k))) (nI (k + 1))
    split
    · rw [Nat.or_zero]
    · rfl
  · rw [lX1_seen_4_s]
    simp (disch := omega) only [z_nn2, z0, z1, z2, z3, z4, z5, z6, z7, z8, z9, z10, z11, z12, z13, z14, z15, z16, z17, z18, z19, z20, z23, z24, z28, z31, z32, z33, z45, z46, z47, z48, z52, z57, z60, z63, z65, z70, z80, z95, z100, z126, z127, z128, z200, z240, z255, z400, z480, z500, z840, z1023, z2000, z99999, z1073741824, z_nn, z_add, z_sub, z_mul, z_div, z_rem, z_cl, z_in, z_chk, z_chkp, z_bnd, z_bn2, z_wth, z_bxr, z_bxl, z_bx2r, z_bx2l, z_bz0, z_bz1, z_mx, z_mn, z_tb1, z_tb0, z_eq, z_le, z_lt, z_nn_lt, z_nn_le, z_nn_ge, z_nn_gt, z_nn_eq, z_nn_eq2, z_bit, z_wow, z_wo, z_or, z_shl, z_if, z_ifn, fbit, if_true, if_false, Nat.zero_add, Nat.add_zero, not_false_iff, not_true]
    rfl
def fst1 (p : Nat → Bool) : Nat → Nat → Nat
  | 0, s => s
  | n + 1, s => if p s = true then s else fst1 p n (s + 1)
theorem fst1_le (p : Nat → Bool) : ∀ n s, fst1 p n s ≤ s + n
  | 0, s => Nat.le_refl _
  | n + 1, s => by
    unfold fst1
    split
    · omega
    · have := fst1_le p n (s + 1); omega
def rdq (A : Nat → Nat) (i : Nat) : Nat := fst1 (fun s => decide (sg s = sn A i &&& 127)) 18 0
theorem rd_le (A : Nat → Nat) (i : Nat) : rdq A i ≤ 18 := fst1_le _ 18 0
def rI (r : Nat) : Int32 := if r = 18 then nn else nI r
theorem fread {t : Nat} {A : Nat → Nat} {mm : gM} (h : CS t A mm) (w : WF A) {i : Nat} (hi : i < 6) (hc : CKq t A i mm) : fX1_readAs t (nI i) mm = some (rI (rdq A i)) := by
  have hs := sn_lt A i
  have hs2 : sn A i &&& 127 < 256 := Nat.lt_of_le_of_lt Nat.and_le_left hs
  have key : ∀ q s n, s + q = 18 → q < n → lX1_readAs_11 t mm n (nI (sn A i &&& 127)) (nI s) = some (rI (fst1 (fun s => decide (sg s = sn A i &&& 127)) q s)) := by
    intro q
    induction q with
    | zero =>
      intro s n hs hn
      obtain ⟨m, rfl⟩ : ∃ m, n = m + 1 := ⟨n - 1, by omega⟩
      have : s = 18 := by omega
      subst this
      rw [lX1_readAs_11_s]
      simp (disch := omega) only [z_nn2, z0, z1, z2, z3, z4, z5, z6, z7, z8, z9, z10, z11, z12, z13, z14, z15, z16, z17, z18, z19, z20, z23, z24, z28, z31, z32, z33, z45, z46, z47, z48, z52, z57, z60, z63, z65, z70, z80, z95, z100, z126, z127, z128, z200, z240, z255, z400, z480, z500, z840, z1023, z2000, z99999, z1073741824, z_nn, z_add, z_sub, z_mul, z_div, z_rem, z_cl, z_in, z_chk, z_chkp, z_bnd, z_bn2, z_wth, z_bxr, z_bxl, z_bx2r, z_bx2l, z_bz0, z_bz1, z_mx, z_mn, z_tb1, z_tb0, z_eq, z_le, z_lt, z_nn_lt, z_nn_le, z_nn_ge, z_nn_gt, z_nn_eq, z_nn_eq2, z_bit, z_wow, z_wo, z_or, z_shl, z_if, z_ifn, fbit, if_true, if_false, Nat.zero_add, Nat.add_zero, not_false_iff, not_true, fst1, rI]
    | succ q ih =>
      intro s n hs hn
      obtain ⟨m, rfl⟩ : ∃ m, n = m + 1 := ⟨n - 1, by omega⟩
      have hg := sg_lt (s := s) (by omega)
      rw [lX1_readAs_11_s]
      simp (disch := omega) only [z_nn2, z0, z1, z2, z3, z4, z5, z6, z7, z8, z9, z10, z11, z12, z13, z14, z15, z16, z17, z18, z19, z20, z23, z24, z28, z31, z32, z33, z45, z46, z47, z48, z52, z57, z60, z63, z65, z70, z80, z95, z100, z126, z127, z128, z200, z240, z255, z400, z480, z500, z840, z1023, z2000, z99999, z1073741824, z_nn, z_add, z_sub, z_mul, z_div, z_rem, z_cl, z_in, z_chk, z_chkp, z_bnd, z_bn2, z_wth, z_bxr, z_bxl, z_bx2r, z_bx2l, z_bz0, z_bz1, z_mx, z_mn, z_tb1, z_tb0, z_eq, z_le, z_lt, z_nn_lt, z_nn_le, z_nn_ge, z_nn_gt, z_nn_eq, z_nn_eq2, z_bit, z_wow, z_wo, z_or, z_shl, z_if, z_ifn, fbit, if_true, if_false, Nat.zero_add, Nat.add_zero, not_false_iff, not_true, fmask, fst1, decide_eq_true_eq]
      split
      · unfold rI
        rw [if_neg (by omega)]
      · exact ih (s + 1) m (by omega) (by omega)
  unfold fX1_readAs
  rw [fseen h w hi hc]
  simp only [z_bnd, z127, z_and, z0]
  exact key 18 0 FU rfl (by decide)
def mnp (A : Nat → Nat) (i : Nat) : Nat → Nat
  | 0 => 0
  | k + 1 => mnp A i k + (if tbq (wkq A i) k = 1 then br A i k else 0)
def mn2 (A : Nat → Nat) (i : Nat) : Nat := if pc (wkq A i) = 0 then 0 else mnp A i 8 / pc (wkq A i)
theorem mnp_le {A : Nat → Nat} (w : WF A) {i : Nat} (hi : i < 6) : ∀ k, k ≤ 8 → mnp A i k ≤ 2000 * k
  | 0, _ => Nat.le_refl _
  | k + 1, h => by
    have h1 := mnp_le w hi k (by omega)
    have h2 := br_le w hi (k := k) (by omega)
    show mnp A i k + _ ≤ _
    split <;> omega
theorem mn2_le {A : Nat → Nat} (w : WF A) {i : Nat} (hi : i < 6) : mn2 A i ≤ 2000 := by
  have h : ∀ k, k < 8 → (if tbq (wkq A i) k = 1 then br A i k else 0) ≤ 2000 * tbq (wkq A i) k := by
    intro k hk
    have h1 := tb_lt (wkq A i) k
    have h2 := br_le w hi hk
    split <;> omega
  unfold mn2
  split
  · omega
  · refine Nat.div_le_of_le_mul ?_
    have h0 := h 0 (by decide); have h1 := h 1 (by decide); have h2 := h 2 (by decide); have h3 := h 3 (by decide)
    have h4 := h 4 (by decide); have h5 := h 5 (by decide); have h6 := h 6 (by decide); have h7 := h 7 (by decide)
    simp only [mnp, pc]
    omega
theorem fmean {t : Nat} {A : Nat → Nat} {mm : gM} (h : CS t A mm) (w : WF A) {i : Nat} (hi : i < 6) (hc : CKq t A i mm) : fX1_mean t (nI i) mm = some (nI (mn2 A i)) := by
  have hwk := wk_lt w hi
  have hpc := pc_le (wkq A i)
  unfold fX1_mean
  rw [fworks h w hi]
  simp only [z_bnd]
  rw [fpop hwk]
  simp only [z_bnd, z0]
  refine loop_up (fun n k => lX1_mean_20 t mm n (nI i) (nI (wkq A i)) (nI (pc (wkq A i))) (nI (mnp A i k)) (nI k)) (some (nI (mn2 A i))) 8 (fun n k hk => ?_) (fun n => ?_) FU 0 (by decide) (by decide)
  · have h1 := (hc k hk).1
    have h2 := br_le w hi hk
    rw [lX1_mean_20_s]
    simp (disch := omega) only [z_nn2, z0, z1, z2, z3, z4, z5, z6, z7, z8, z9, z10, z11, z12, z13, z14, z15, z16, z17, z18, z19, z20, z23, z24, z28, z31, z32, z33, z45, z46, z47, z48, z52, z57, z60, z63, z65, z70, z80, z95, z100, z126, z127, z128, z200, z240, z255, z400, z480, z500, z840, z1023, z2000, z99999, z1073741824, z_nn, z_add, z_sub, z_mul, z_div, z_rem, z_cl, z_in, z_chk, z_chkp, z_bnd, z_bn2, z_wth, z_bxr, z_bxl, z_bx2r, z_bx2l, z_bz0, z_bz1, z_mx, z_mn, z_tb1, z_tb0, z_eq, z_le, z_lt, z_nn_lt, z_nn_le, z_nn_ge, z_nn_gt, z_nn_eq, z_nn_eq2, z_bit, z_wow, z_wo, z_or, z_shl, z_if, z_ifn, fbit, if_true, if_false, Nat.zero_add, Nat.add_zero, not_false_iff, not_true, h1, jX1_mean_54]
    show _ = lX1_mean_20 t mm n (nI i) (nI (wkq A i)) (nI (pc (wkq A i))) (nI (mnp A i k + (if tbq (wkq A i) k = 1 then br A i k else 0))) (nI (k + 1))
    have h3 := tb_lt (wkq A i) k
    by_cases c : tbq (wkq A i) k = 1
    · rw [if_pos c, if_pos c]
    · simp only [if_neg c, Nat.add_zero]
  · have h4 := mnp_le w hi 8 (Nat.le_refl _)
    rw [lX1_mean_20_s]
    unfold jX1_mean_60 mn2
    simp (disch := omega) only [z_nn2, z0, z1, z2, z3, z4, z5, z6, z7, z8, z9, z10, z11, z12, z13, z14, z15, z16, z17, z18, z19, z20, z23, z24, z28, z31, z32, z33, z45, z46, z47, z48, z52, z57, z60, z63, z65, z70, z80, z95, z100, z126, z127, z128, z200, z240, z255, z400, z480, z500, z840, z1023, z2000, z99999, z1073741824, z_nn, z_add, z_sub, z_mul, z_div, z_rem, z_cl, z_in, z_chk, z_chkp, z_bnd, z_bn2, z_wth, z_bxr, z_bxl, z_bx2r, z_bx2l, z_bz0, z_bz1, z_mx, z_mn, z_tb1, z_tb0, z_eq, z_le, z_lt, z_nn_lt, z_nn_le, z_nn_ge, z_nn_gt, z_nn_eq, z_nn_eq2, z_bit, z_wow, z_wo, z_or, z_shl, z_if, z_ifn, fbit, if_true, if_false, Nat.zero_add, Nat.add_zero, not_false_iff, not_true]
    by_cases c : pc (wkq A i) = 0
    · rw [if_pos (by omega), if_pos c]
    · rw [if_neg (by omega), if_neg c]
