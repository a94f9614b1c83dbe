/-! TEXTS: append, clearBuffer, firstError, load, write -/
def cd (i : Nat) : Nat := ([48, 49, 50, 51, 52, 53, 54, 55, 56, 57, 65, 66, 67, 68, 69, 70, 45, 95] : List Nat).getD i 0
theorem cd_all : ∀ i, i < 18 → tCodes.getD i (nI 0) = nI (cd i) := by decide +kernel
theorem cd_lt : ∀ i, i < 18 → 33 ≤ cd i ∧ cd i ≤ 126 := by decide +kernel
def sgnq (c : Nat) : Nat := fst1 (fun i => decide (cd i = c)) 18 0
theorem sgn_le (c : Nat) : sgnq c ≤ 18 := fst1_le _ 18 0
theorem z_b0 : ((nI 0).toInt8.toInt32 = nI 0) = True := propext ⟨fun _ => trivial, fun _ => by decide⟩
theorem z_i8 : ∀ c, c < 128 → (nI c).toInt8.toInt32 = nI c := by decide +kernel
theorem z_narc : ∀ c, c < 128 → vp_nar .char (nI c) = nI c := by decide +kernel
theorem z_i2c : ∀ c, c < 128 → i2c (nI c) = nI c := by decide +kernel
theorem z_bc {c : Nat} (h : c < 128) : bc (nI c) = True := propext ⟨fun _ => trivial, fun _ => by
  show Value.int (i2c (nI c)) = Value.int (nI c)
  rw [z_i2c c h]⟩
theorem findex {c : Nat} (hc : c < 128) : fJ0_indexOf_0f7a4 4 (nI c) = some (rI (sgnq c)) := by
  have key : ∀ q s n, s + q = 18 → q < n → lJ1_indexOfChar_4cfef_7 4 n (nI 18) (nI c) (nI s) = some (rI (fst1 (fun i => decide (cd i = c)) q s)) := by
    intro q
    induction q with
    | zero =>
      intro s n hs hn
      obtain ⟨m, rfl⟩ : ∃ m, n = m + 1 := ⟨n - 1, by omega⟩
      have : s = 18 := by omega
      subst this
      rw [lJ1_indexOfChar_4cfef_7_s]
      simp (disch := omega) only [z_nn2, z0, z1, z2, z3, z4, z5, z6, z7, z8, z9, z10, z11, z12, z13, z14, z15, z16, z17, z18, z19, z20, z23, z24, z28, z31, z32, z33, z45, z46, z47, z48, z52, z57, z60, z63, z65, z70, z80, z95, z100, z126, z127, z128, z200, z240, z255, z400, z480, z500, z840, z1023, z2000, z99999, z1073741824, z_nn, z_add, z_sub, z_mul, z_div, z_rem, z_cl, z_in, z_chk, z_chkp, z_bnd, z_bn2, z_wth, z_bxr, z_bxl, z_bx2r, z_bx2l, z_bz0, z_bz1, z_mx, z_mn, z_tb1, z_tb0, z_eq, z_le, z_lt, z_nn_lt, z_nn_le, z_nn_ge, z_nn_gt, z_nn_eq, z_nn_eq2, z_bit, z_wow, z_wo, z_or, z_shl, z_if, z_ifn, fbit, if_true, if_false, Nat.zero_add, Nat.add_zero, not_false_iff, not_true, fst1, rI]
    | succ q ih =>
      intro s n hs hn
      obtain ⟨m, rfl⟩ : ∃ m, n = m + 1 := ⟨n - 1, by omega⟩
      have hg := cd_lt s (by omega)
      rw [lJ1_indexOfChar_4cfef_7_s]
      simp (disch := omega) only [z_nn2, z0, z1, z2, z3, z4, z5, z6, z7, z8, z9, z10, z11, z12, z13, z14, z15, z16, z17, z18, z19, z20, z23, z24, z28, z31, z32, z33, z45, z46, z47, z48, z52, z57, z60, z63, z65, z70, z80, z95, z100, z126, z127, z128, z200, z240, z255, z400, z480, z500, z840, z1023, z2000, z99999, z1073741824, z_nn, z_add, z_sub, z_mul, z_div, z_rem, z_cl, z_in, z_chk, z_chkp, z_bnd, z_bn2, z_wth, z_bxr, z_bxl, z_bx2r, z_bx2l, z_bz0, z_bz1, z_mx, z_mn, z_tb1, z_tb0, z_eq, z_le, z_lt, z_nn_lt, z_nn_le, z_nn_ge, z_nn_gt, z_nn_eq, z_nn_eq2, z_bit, z_wow, z_wo, z_or, z_shl, z_if, z_ifn, fbit, if_true, if_false, Nat.zero_add, Nat.add_zero, not_false_iff, not_true, cd_all, fst1, decide_eq_true_eq]
      by_cases c9 : cd s = c
      · rw [if_pos c9, if_pos c9]
        unfold rI
        rw [if_neg (by omega)]
      · rw [if_neg c9, if_neg c9]
        exact ih (s + 1) m (by omega) (by omega)
  have key0 := key 18 0 FU rfl (by decide)
  unfold fJ0_indexOf_0f7a4 fJ0_indexOf_7cf53 fJ0_isLatin1_aae02 jJ0_isLatin1_aae02_17 fJ0_length_8abf5 fJ0_coder_7d493 fJ1_indexOf_4cfef fJ1_canEncode_9a6ad jJ1_canEncode_9a6ad_15 fJ1_indexOfChar_4cfef
  simp (disch := omega) only [z_nn2, z0, z1, z2, z3, z4, z5, z6, z7, z8, z9, z10, z11, z12, z13, z14, z15, z16, z17, z18, z19, z20, z23, z24, z28, z31, z32, z33, z45, z46, z47, z48, z52, z57, z60, z63, z65, z70, z80, z95, z100, z126, z127, z128, z200, z240, z255, z400, z480, z500, z840, z1023, z2000, z99999, z1073741824, z_nn, z_add, z_sub, z_mul, z_div, z_rem, z_cl, z_in, z_chk, z_chkp, z_bnd, z_bn2, z_wth, z_bxr, z_bxl, z_bx2r, z_bx2l, z_bz0, z_bz1, z_mx, z_mn, z_tb1, z_tb0, z_eq, z_le, z_lt, z_nn_lt, z_nn_le, z_nn_ge, z_nn_gt, z_nn_eq, z_nn_eq2, z_bit, z_wow, z_wo, z_or, z_shl, z_if, z_ifn, fbit, if_true, if_false, Nat.zero_add, Nat.add_zero, not_false_iff, not_true, z_b0, z_shr, Nat.pow_zero, Nat.div_one, z_i8, Nat.max_self, Nat.min_self, key0]
  rfl
theorem sgn_a : ∀ c, c < 128 → 48 ≤ c → c ≤ 57 → sgnq c = c - 48 := by decide +kernel
theorem sgn_b : ∀ c, c < 128 → 65 ≤ c → c ≤ 70 → sgnq c = c - 65 + 10 := by decide +kernel
theorem sgn_c : ∀ c, c < 128 → ¬ (48 ≤ c ∧ c ≤ 57) → ¬ (65 ≤ c ∧ c ≤ 70) → sgnq c = if c = 45 then 16 else if c = 95 then 17 else 18 := by decide +kernel
theorem fsignOf {c : Nat} (hc : c < 128) : fX6_signOf (nI c) = some (rI (sgnq c)) := by
  have ht := nI_toInt (n := c) (by omega)
  unfold fX6_signOf
  simp only [z48, z57, z65, z70]
  by_cases c1 : 48 ≤ c ∧ c ≤ 57
  · rw [in_ok (by decide) (by decide) (by omega) (by omega), sgn_a c hc c1.1 c1.2]
    simp (disch := omega) only [z_nn2, z0, z1, z2, z3, z4, z5, z6, z7, z8, z9, z10, z11, z12, z13, z14, z15, z16, z17, z18, z19, z20, z23, z24, z28, z31, z32, z33, z45, z46, z47, z48, z52, z57, z60, z63, z65, z70, z80, z95, z100, z126, z127, z128, z200, z240, z255, z400, z480, z500, z840, z1023, z2000, z99999, z1073741824, z_nn, z_add, z_sub, z_mul, z_div, z_rem, z_cl, z_in, z_chk, z_chkp, z_bnd, z_bn2, z_wth, z_bxr, z_bxl, z_bx2r, z_bx2l, z_bz0, z_bz1, z_mx, z_mn, z_tb1, z_tb0, z_eq, z_le, z_lt, z_nn_lt, z_nn_le, z_nn_ge, z_nn_gt, z_nn_eq, z_nn_eq2, z_bit, z_wow, z_wo, z_or, z_shl, z_if, z_ifn, fbit, if_true, if_false, Nat.zero_add, Nat.add_zero, not_false_iff, not_true]
    unfold rI
    rw [if_neg (by omega)]
  · rw [in_bad (by decide) (by decide) (by omega)]
    simp (disch := omega) only [z_nn2, z0, z1, z2, z3, z4, z5, z6, z7, z8, z9, z10, z11, z12, z13, z14, z15, z16, z17, z18, z19, z20, z23, z24, z28, z31, z32, z33, z45, z46, z47, z48, z52, z57, z60, z63, z65, z70, z80, z95, z100, z126, z127, z128, z200, z240, z255, z400, z480, z500, z840, z1023, z2000, z99999, z1073741824, z_nn, z_add, z_sub, z_mul, z_div, z_rem, z_cl, z_in, z_chk, z_chkp, z_bnd, z_bn2, z_wth, z_bxr, z_bxl, z_bx2r, z_bx2l, z_bz0, z_bz1, z_mx, z_mn, z_tb1, z_tb0, z_eq, z_le, z_lt, z_nn_lt, z_nn_le, z_nn_ge, z_nn_gt, z_nn_eq, z_nn_eq2, z_bit, z_wow, z_wo, z_or, z_shl, z_if, z_ifn, fbit, if_true, if_false, Nat.zero_add, Nat.add_zero, not_false_iff, not_true]
    by_cases c2 : 65 ≤ c ∧ c ≤ 70
    · rw [in_ok (by decide) (by decide) (by omega) (by omega), sgn_b c hc c2.1 c2.2]
      simp (disch := omega) only [z_nn2, z0, z1, z2, z3, z4, z5, z6, z7, z8, z9, z10, z11, z12, z13, z14, z15, z16, z17, z18, z19, z20, z23, z24, z28, z31, z32, z33, z45, z46, z47, z48, z52, z57, z60, z63, z65, z70, z80, z95, z100, z126, z127, z128, z200, z240, z255, z400, z480, z500, z840, z1023, z2000, z99999, z1073741824, z_nn, z_add, z_sub, z_mul, z_div, z_rem, z_cl, z_in, z_chk, z_chkp, z_bnd, z_bn2, z_wth, z_bxr, z_bxl, z_bx2r, z_bx2l, z_bz0, z_bz1, z_mx, z_mn, z_tb1, z_tb0, z_eq, z_le, z_lt, z_nn_lt, z_nn_le, z_nn_ge, z_nn_gt, z_nn_eq, z_nn_eq2, z_bit, z_wow, z_wo, z_or, z_shl, z_if, z_ifn, fbit, if_true, if_false, Nat.zero_add, Nat.add_zero, not_false_iff, not_true]
      unfold rI
      rw [if_neg (by omega)]
    · rw [in_bad (by decide) (by decide) (by omega), sgn_c c hc c1 c2]
      simp (disch := omega) only [z_nn2, z0, z1, z2, z3, z4, z5, z6, z7, z8, z9, z10, z11, z12, z13, z14, z15, z16, z17, z18, z19, z20, z23, z24, z28, z31, z32, z33, z45, z46, z47, z48, z52, z57, z60, z63, z65, z70, z80, z95, z100, z126, z127, z128, z200, z240, z255, z400, z480, z500, z840, z1023, z2000, z99999, z1073741824, z_nn, z_add, z_sub, z_mul, z_div, z_rem, z_cl, z_in, z_chk, z_chkp, z_bnd, z_bn2, z_wth, z_bxr, z_bxl, z_bx2r, z_bx2l, z_bz0, z_bz1, z_mx, z_mn, z_tb1, z_tb0, z_eq, z_le, z_lt, z_nn_lt, z_nn_le, z_nn_ge, z_nn_gt, z_nn_eq, z_nn_eq2, z_bit, z_wow, z_wo, z_or, z_shl, z_if, z_ifn, fbit, if_true, if_false, Nat.zero_add, Nat.add_zero, not_false_iff, not_true]
      by_cases c3 : c = 45
      · rw [if_pos c3, if_pos c3]; rfl
      · rw [if_neg c3, if_neg c3]
        by_cases c4 : c = 95
        · rw [if_pos c4, if_pos c4]; rfl
        · rw [if_neg c4, if_neg c4]; rfl
/-! the reading of a text: where the sign j begins, whether a dot is behind it, how many signs there are -/
def psq (B : Nat → Nat) (L : Nat) : Nat → Nat
  | 0 => 0
  | j + 1 => psq B L j + 1 + (if psq B L j + 1 < L ∧ B (psq B L j + 1) = 46 then 1 else 0)
def dt (B : Nat → Nat) (L j : Nat) : Nat := if psq B L j + 1 < L ∧ B (psq B L j + 1) = 46 then 1 else 0
theorem ps_s (B : Nat → Nat) (L j : Nat) : psq B L (j + 1) = psq B L j + 1 + dt B L j := rfl
theorem dt_le (B : Nat → Nat) (L j : Nat) : dt B L j ≤ 1 := by
  unfold dt
  split <;> omega
def rz (B : Nat → Nat) (L : Nat) : Nat → Nat → Nat
  | 0, j => j
  | q + 1, j => if L ≤ psq B L j ∨ sgnq (B (psq B L j)) = 18 ∨ 6 ≤ j then j else rz B L q (j + 1)
theorem rz_s (B : Nat → Nat) (L q j : Nat) : rz B L (q + 1) j = if L ≤ psq B L j ∨ sgnq (B (psq B L j)) = 18 ∨ 6 ≤ j then j else rz B L q (j + 1) := rfl
def JJ (B : Nat → Nat) (L : Nat) : Nat := rz B L 7 0
theorem rz_le (B : Nat → Nat) (L : Nat) : ∀ q j, j + q = 7 → j ≤ rz B L q j ∧ (j ≤ 6 → rz B L q j ≤ 6)
  | 0, j, h => ⟨Nat.le_refl _, fun h => h⟩
  | q + 1, j, h => by
    rw [rz_s]
    by_cases c : L ≤ psq B L j ∨ sgnq (B (psq B L j)) = 18 ∨ 6 ≤ j
    · rw [if_pos c]
      exact ⟨Nat.le_refl _, fun h => h⟩
    · rw [if_neg c]
      have := rz_le B L q (j + 1) (by omega)
      exact ⟨by omega, fun _ => this.2 (by omega)⟩
theorem JJ_le (B : Nat → Nat) (L : Nat) : JJ B L ≤ 6 := (rz_le B L 7 0 rfl).2 (by decide)
theorem rz_in (B : Nat → Nat) (L : Nat) : ∀ q j k, j ≤ k → k < rz B L q j → psq B L k < L ∧ sgnq (B (psq B L k)) ≠ 18 ∧ k < 6
  | 0, j, k, h1, h2 => absurd h1 (Nat.not_le.mpr h2)
  | q + 1, j, k, h1, h2 => by
    rw [rz_s] at h2
    by_cases c : L ≤ psq B L j ∨ sgnq (B (psq B L j)) = 18 ∨ 6 ≤ j
    · rw [if_pos c] at h2
      omega
    · rw [if_neg c] at h2
      by_cases c2 : k = j
      · subst c2
        exact ⟨by omega, fun z => c (Or.inr (Or.inl z)), by omega⟩
      · exact rz_in B L q (j + 1) k (by omega) h2
theorem JJ_in {B : Nat → Nat} {L k : Nat} (h : k < JJ B L) : psq B L k < L ∧ sgnq (B (psq B L k)) ≠ 18 ∧ k < 6 := rz_in B L 7 0 k (Nat.zero_le _) h
theorem rz_end (B : Nat → Nat) (L : Nat) : ∀ q j, j + q = 7 → L ≤ psq B L (rz B L q j) ∨ sgnq (B (psq B L (rz B L q j))) = 18 ∨ 6 ≤ rz B L q j
  | 0, j, h => Or.inr (Or.inr (by show 6 ≤ j; omega))
  | q + 1, j, h => by
    rw [rz_s]
    by_cases c : L ≤ psq B L j ∨ sgnq (B (psq B L j)) = 18 ∨ 6 ≤ j
    · rw [if_pos c]; exact c
    · rw [if_neg c]; exact rz_end B L q (j + 1) (by omega)
theorem JJ_end (B : Nat → Nat) (L : Nat) : L ≤ psq B L (JJ B L) ∨ sgnq (B (psq B L (JJ B L))) = 18 ∨ 6 ≤ JJ B L := rz_end B L 7 0 rfl
theorem ps_le {B : Nat → Nat} {L : Nat} : ∀ j, (∀ k, k < j → psq B L k < L) → psq B L j ≤ L
  | 0, _ => Nat.zero_le _
  | j + 1, h => by
    have h1 := h j (Nat.lt_succ_self j)
    rw [ps_s]
    unfold dt
    split <;> omega
theorem JJ_ps (B : Nat → Nat) (L : Nat) : psq B L (JJ B L) ≤ L := ps_le _ (fun k hk => (JJ_in hk).1)
theorem ferr {B : Nat → Nat} {L : Nat} {m : gM} (h : IC4 B L m) (hL : L ≤ 12) (hB : ∀ i, i < L → 33 ≤ B i ∧ B i ≤ 126) : fX3_errorAt m = some (nI (psq B L (JJ B L))) := by
  obtain ⟨h16, h17⟩ := h
  have hJ := JJ_ps B L
  have key : ∀ q j d n, j + q = JJ B L → (d = 0 ∨ d = 1) → (d = 1 → psq B L j < L → B (psq B L j) ≠ 46) → 13 < n + psq B L j → lX3_errorAt_6 m n (nI j) (nI d) (nI (psq B L j)) = some (nI (psq B L (JJ B L))) := by
    intro q
    induction q with
    | zero =>
      intro j d n hj hd hdd hn
      have hj : j = JJ B L := by omega
      have hpj : psq B L j ≤ L := ps_le j (fun k hk => (JJ_in (B := B) (L := L) (k := k) (by omega)).1)
      obtain ⟨n2, rfl⟩ : ∃ n2, n = n2 + 1 := ⟨n - 1, by omega⟩
      rw [lX3_errorAt_6_s, hj]
      rw [hj] at hdd hn
      by_cases c : L ≤ psq B L (JJ B L)
      · have e : psq B L (JJ B L) = L := by omega
        rw [e]
        by_cases c12 : 12 ≤ L
        · simp (disch := omega) only [z_nn2, z0, z1, z2, z3, z4, z5, z6, z7, z8, z9, z10, z11, z12, z13, z14, z15, z16, z17, z18, z19, z20, z23, z24, z28, z31, z32, z33, z45, z46, z47, z48, z52, z57, z60, z63, z65, z70, z80, z95, z100, z126, z127, z128, z200, z240, z255, z400, z480, z500, z840, z1023, z2000, z99999, z1073741824, z_nn, z_add, z_sub, z_mul, z_div, z_rem, z_cl, z_in, z_chk, z_chkp, z_bnd, z_bn2, z_wth, z_bxr, z_bxl, z_bx2r, z_bx2l, z_bz0, z_bz1, z_mx, z_mn, z_tb1, z_tb0, z_eq, z_le, z_lt, z_nn_lt, z_nn_le, z_nn_ge, z_nn_gt, z_nn_eq, z_nn_eq2, z_bit, z_wow, z_wo, z_or, z_shl, z_if, z_ifn, fbit, if_true, if_false, Nat.zero_add, Nat.add_zero, not_false_iff, not_true, jX3_errorAt_75, h16]
        · simp (disch := omega) only [z_nn2, z0, z1, z2, z3, z4, z5, z6, z7, z8, z9, z10, z11, z12, z13, z14, z15, z16, z17, z18, z19, z20, z23, z24, z28, z31, z32, z33, z45, z46, z47, z48, z52, z57, z60, z63, z65, z70, z80, z95, z100, z126, z127, z128, z200, z240, z255, z400, z480, z500, z840, z1023, z2000, z99999, z1073741824, z_nn, z_add, z_sub, z_mul, z_div, z_rem, z_cl, z_in, z_chk, z_chkp, z_bnd, z_bn2, z_wth, z_bxr, z_bxl, z_bx2r, z_bx2l, z_bz0, z_bz1, z_mx, z_mn, z_tb1, z_tb0, z_eq, z_le, z_lt, z_nn_lt, z_nn_le, z_nn_ge, z_nn_gt, z_nn_eq, z_nn_eq2, z_bit, z_wow, z_wo, z_or, z_shl, z_if, z_ifn, fbit, if_true, if_false, Nat.zero_add, Nat.add_zero, not_false_iff, not_true, jX3_errorAt_75, h16]
      · have hb := hB (psq B L (JJ B L)) (by omega)
        have hJ6 := JJ_le B L
        simp (disch := omega) only [z_nn2, z0, z1, z2, z3, z4, z5, z6, z7, z8, z9, z10, z11, z12, z13, z14, z15, z16, z17, z18, z19, z20, z23, z24, z28, z31, z32, z33, z45, z46, z47, z48, z52, z57, z60, z63, z65, z70, z80, z95, z100, z126, z127, z128, z200, z240, z255, z400, z480, z500, z840, z1023, z2000, z99999, z1073741824, z_nn, z_add, z_sub, z_mul, z_div, z_rem, z_cl, z_in, z_chk, z_chkp, z_bnd, z_bn2, z_wth, z_bxr, z_bxl, z_bx2r, z_bx2l, z_bz0, z_bz1, z_mx, z_mn, z_tb1, z_tb0, z_eq, z_le, z_lt, z_nn_lt, z_nn_le, z_nn_ge, z_nn_gt, z_nn_eq, z_nn_eq2, z_bit, z_wow, z_wo, z_or, z_shl, z_if, z_ifn, fbit, if_true, if_false, Nat.zero_add, Nat.add_zero, not_false_iff, not_true, h16, h17, jX3_errorAt_62, findex]
        by_cases c46 : B (psq B L (JJ B L)) = 46
        · have d0 : d = 0 := by
            rcases hd with z | z
            · exact z
            · exact absurd c46 (hdd z (by omega))
          simp only [if_pos c46, if_pos d0]
        · rw [if_neg c46]
          by_cases c6 : 6 ≤ JJ B L
          · rw [if_pos c6]
          · rw [if_neg c6]
            have e18 : sgnq (B (psq B L (JJ B L))) = 18 := by
              rcases JJ_end B L with z | z | z
              · exact absurd z c
              · exact z
              · exact absurd z c6
            rw [e18]
            have : rI 18 = nn := rfl
            rw [this]
            simp (disch := omega) only [z_nn2, z0, z1, z2, z3, z4, z5, z6, z7, z8, z9, z10, z11, z12, z13, z14, z15, z16, z17, z18, z19, z20, z23, z24, z28, z31, z32, z33, z45, z46, z47, z48, z52, z57, z60, z63, z65, z70, z80, z95, z100, z126, z127, z128, z200, z240, z255, z400, z480, z500, z840, z1023, z2000, z99999, z1073741824, z_nn, z_add, z_sub, z_mul, z_div, z_rem, z_cl, z_in, z_chk, z_chkp, z_bnd, z_bn2, z_wth, z_bxr, z_bxl, z_bx2r, z_bx2l, z_bz0, z_bz1, z_mx, z_mn, z_tb1, z_tb0, z_eq, z_le, z_lt, z_nn_lt, z_nn_le, z_nn_ge, z_nn_gt, z_nn_eq, z_nn_eq2, z_bit, z_wow, z_wo, z_or, z_shl, z_if, z_ifn, fbit, if_true, if_false, Nat.zero_add, Nat.add_zero, not_false_iff, not_true]
    | succ q ih =>
      intro j d n hj hd hdd hn
      have hpj : psq B L j ≤ L := ps_le j (fun k hk => (JJ_in (B := B) (L := L) (k := k) (by omega)).1)
      obtain ⟨n2, rfl⟩ : ∃ n2, n = n2 + 1 := ⟨n - 1, by omega⟩
      obtain ⟨k1, k2, k3⟩ := JJ_in (B := B) (L := L) (k := j) (by omega)
      have hb := hB (psq B L j) k1
      have hs := sgn_le (B (psq B L j))
      have hne : B (psq B L j) ≠ 46 := by
        intro z
        rw [z] at k2
        exact k2 (by decide)
      have e1 : rI (sgnq (B (psq B L j))) = nI (sgnq (B (psq B L j))) := if_neg k2
      rw [lX3_errorAt_6_s]
      simp (disch := omega) only [z_nn2, z0, z1, z2, z3, z4, z5, z6, z7, z8, z9, z10, z11, z12, z13, z14, z15, z16, z17, z18, z19, z20, z23, z24, z28, z31, z32, z33, z45, z46, z47, z48, z52, z57, z60, z63, z65, z70, z80, z95, z100, z126, z127, z128, z200, z240, z255, z400, z480, z500, z840, z1023, z2000, z99999, z1073741824, z_nn, z_add, z_sub, z_mul, z_div, z_rem, z_cl, z_in, z_chk, z_chkp, z_bnd, z_bn2, z_wth, z_bxr, z_bxl, z_bx2r, z_bx2l, z_bz0, z_bz1, z_mx, z_mn, z_tb1, z_tb0, z_eq, z_le, z_lt, z_nn_lt, z_nn_le, z_nn_ge, z_nn_gt, z_nn_eq, z_nn_eq2, z_bit, z_wow, z_wo, z_or, z_shl, z_if, z_ifn, fbit, if_true, if_false, Nat.zero_add, Nat.add_zero, not_false_iff, not_true, h16, h17, findex, e1, jX3_errorAt_69]
      by_cases cd2 : psq B L j + 1 < L ∧ B (psq B L j + 1) = 46
      · have ed : dt B L j = 1 := if_pos cd2
        have ih2 := ih (j + 1) 0 (n2 - 1) (by omega) (Or.inl rfl) (fun z => by omega) (by rw [ps_s, ed]; omega)
        rw [ps_s, ed] at ih2
        have hn2 : 0 < n2 := by
          have := JJ_le B L
          omega
        obtain ⟨n3, rfl⟩ : ∃ n3, n2 = n3 + 1 := ⟨n2 - 1, by omega⟩
        rw [lX3_errorAt_6_s]
        simp (disch := omega) only [z_nn2, z0, z1, z2, z3, z4, z5, z6, z7, z8, z9, z10, z11, z12, z13, z14, z15, z16, z17, z18, z19, z20, z23, z24, z28, z31, z32, z33, z45, z46, z47, z48, z52, z57, z60, z63, z65, z70, z80, z95, z100, z126, z127, z128, z200, z240, z255, z400, z480, z500, z840, z1023, z2000, z99999, z1073741824, z_nn, z_add, z_sub, z_mul, z_div, z_rem, z_cl, z_in, z_chk, z_chkp, z_bnd, z_bn2, z_wth, z_bxr, z_bxl, z_bx2r, z_bx2l, z_bz0, z_bz1, z_mx, z_mn, z_tb1, z_tb0, z_eq, z_le, z_lt, z_nn_lt, z_nn_le, z_nn_ge, z_nn_gt, z_nn_eq, z_nn_eq2, z_bit, z_wow, z_wo, z_or, z_shl, z_if, z_ifn, fbit, if_true, if_false, Nat.zero_add, Nat.add_zero, not_false_iff, not_true, h16, h17, cd2.2, jX3_errorAt_69]
        exact ih2
      · have ed : dt B L j = 0 := if_neg cd2
        have ih2 := ih (j + 1) 1 n2 (by omega) (Or.inr rfl) (fun _ hlt => by
          rw [ps_s, ed] at hlt ⊢
          exact fun z => cd2 ⟨hlt, z⟩) (by rw [ps_s, ed]; omega)
        rw [ps_s, ed] at ih2
        exact ih2
  unfold fX3_errorAt
  simp only [z0]
  exact key (JJ B L) 0 0 FU (Nat.zero_add _) (Or.inl rfl) (fun z => by omega) (by show 13 < 4096 + 0; omega)
/-- what the reference's reading changes -/
def FT (m m1 : gM) : Prop := (∀ c t i, c ≠ 27 → c ≠ 28 → ¬ (c = 21 ∧ (i = 8 ∨ i = 9 ∨ i = 12)) → gi m1 c t i = gi m c t i) ∧ ∀ c t, gl m1 c t = gl m c t
theorem FT.tr {m m1 m2 : gM} (h : FT m m1) (h2 : FT m1 m2) : FT m m2 := ⟨fun c t i a b d => (h2.1 c t i a b d).trans (h.1 c t i a b d), fun c t => (h2.2 c t).trans (h.2 c t)⟩
theorem FT.si {m : gM} {c i : Nat} {v : Int32} (h : c = 27 ∨ c = 28 ∨ (c = 21 ∧ (i = 8 ∨ i = 9 ∨ i = 12))) : FT m (si m c 0 i v) := ⟨fun c1 t i1 a b d => by rw [gi_si, if_neg (fun z => by omega)], fun _ _ => rfl⟩
/-- j signs have been read well -/
def RS (B : Nat → Nat) (L j : Nat) (m : gM) : Prop := gi m 21 0 8 = nI (psq B L j) ∧ gi m 21 0 12 = nI j ∧ ∀ k, k < j → gi m 27 0 k = nI (sgnq (B (psq B L k))) ∧ gi m 28 0 k = nI (dt B L k)
theorem fletter {B : Nat → Nat} {L : Nat} {m : gM} (h : IR4 B L m) (hL : L ≤ 12) {i : Nat} (hi : i ≤ 12) (h8 : gi m 21 0 8 = nI i) : fX6_letter m = some (nI (if i < L then B i else 0)) := by
  obtain ⟨h7, h26⟩ := h
  unfold fX6_letter
  simp (disch := omega) only [z_nn2, z0, z1, z2, z3, z4, z5, z6, z7, z8, z9, z10, z11, z12, z13, z14, z15, z16, z17, z18, z19, z20, z23, z24, z28, z31, z32, z33, z45, z46, z47, z48, z52, z57, z60, z63, z65, z70, z80, z95, z100, z126, z127, z128, z200, z240, z255, z400, z480, z500, z840, z1023, z2000, z99999, z1073741824, z_nn, z_add, z_sub, z_mul, z_div, z_rem, z_cl, z_in, z_chk, z_chkp, z_bnd, z_bn2, z_wth, z_bxr, z_bxl, z_bx2r, z_bx2l, z_bz0, z_bz1, z_mx, z_mn, z_tb1, z_tb0, z_eq, z_le, z_lt, z_nn_lt, z_nn_le, z_nn_ge, z_nn_gt, z_nn_eq, z_nn_eq2, z_bit, z_wow, z_wo, z_or, z_shl, z_if, z_ifn, fbit, if_true, if_false, Nat.zero_add, Nat.add_zero, not_false_iff, not_true, h7, h8]
  by_cases c : i < L
  · rw [if_neg (by omega), if_pos c, h26 i c]
  · rw [if_pos (by omega), if_neg c]
theorem IR4.ft {B : Nat → Nat} {L : Nat} {m m1 : gM} (h : IR4 B L m) (hf : FT m m1) : IR4 B L m1 := h.eqv (hf.1 21 0 7 (by decide) (by decide) (by omega)) (fun i => hf.1 26 0 i (by decide) (by decide) (by omega))
theorem fread1 {B : Nat → Nat} {L j : Nat} {m : gM} (h : IR4 B L m) (hL : L ≤ 12) (hB : ∀ i, i < L → 33 ≤ B i ∧ B i ≤ 126) (hr : RS B L j m) (hj : j ≤ 6) (hp : psq B L j ≤ L) : ∃ m1, fX6_readsSign m = some m1 ∧ FT m m1 ∧ (if psq B L j < L ∧ sgnq (B (psq B L j)) ≠ 18 ∧ j < 6 then gi m1 21 0 9 = nI 1 ∧ RS B L (j + 1) m1 else gi m1 21 0 9 = nI 0 ∧ RS B L j m1) := by
  obtain ⟨r8, r12, rk⟩ := hr
  have hlet := fletter h hL (i := psq B L j) (by omega) r8
  have h128 : (if psq B L j < L then B (psq B L j) else 0) < 128 := by
    split
    · rename_i c
      have := hB _ c
      omega
    · omega
  have hs := sgn_le (if psq B L j < L then B (psq B L j) else 0)
  unfold fX6_readsSign
  rw [hlet]
  simp only [z_bnd]
  rw [fsignOf h128]
  simp only [z_bnd]
  by_cases c : psq B L j < L ∧ sgnq (B (psq B L j)) ≠ 18 ∧ j < 6
  · simp only [if_pos c]
    obtain ⟨k1, k2, k3⟩ := c
    simp only [if_pos k1] at hs ⊢
    have e1 : rI (sgnq (B (psq B L j))) = nI (sgnq (B (psq B L j))) := if_neg k2
    rw [e1]
    simp (disch := omega) only [z_nn2, z0, z1, z2, z3, z4, z5, z6, z7, z8, z9, z10, z11, z12, z13, z14, z15, z16, z17, z18, z19, z20, z23, z24, z28, z31, z32, z33, z45, z46, z47, z48, z52, z57, z60, z63, z65, z70, z80, z95, z100, z126, z127, z128, z200, z240, z255, z400, z480, z500, z840, z1023, z2000, z99999, z1073741824, z_nn, z_add, z_sub, z_mul, z_div, z_rem, z_cl, z_in, z_chk, z_chkp, z_bnd, z_bn2, z_wth, z_bxr, z_bxl, z_bx2r, z_bx2l, z_bz0, z_bz1, z_mx, z_mn, z_tb1, z_tb0, z_eq, z_le, z_lt, z_nn_lt, z_nn_le, z_nn_ge, z_nn_gt, z_nn_eq, z_nn_eq2, z_bit, z_wow, z_wo, z_or, z_shl, z_if, z_ifn, fbit, if_true, if_false, Nat.zero_add, Nat.add_zero, not_false_iff, not_true, r12]
    unfold jX6_readsSign_28 jX6_readsSign_48
    obtain ⟨m1, hm1⟩ : ∃ q, q = si m 21 0 9 (nI 1) := ⟨_, rfl⟩
    have a9 : gi m1 21 0 9 = nI 1 := by rw [hm1, gi_si, if_pos ⟨rfl, rfl, rfl⟩]
    have a8 : gi m1 21 0 8 = nI (psq B L j) := by rw [hm1, gi_si, if_neg (fun z => by omega)]; exact r8
    have f1 : FT m m1 := by rw [hm1]; exact FT.si (by omega)
    have a12 : gi m1 21 0 12 = nI j := by rw [hm1, gi_si, if_neg (fun z => by omega)]; exact r12
    simp (disch := omega) only [z_nn2, z0, z1, z2, z3, z4, z5, z6, z7, z8, z9, z10, z11, z12, z13, z14, z15, z16, z17, z18, z19, z20, z23, z24, z28, z31, z32, z33, z45, z46, z47, z48, z52, z57, z60, z63, z65, z70, z80, z95, z100, z126, z127, z128, z200, z240, z255, z400, z480, z500, z840, z1023, z2000, z99999, z1073741824, z_nn, z_add, z_sub, z_mul, z_div, z_rem, z_cl, z_in, z_chk, z_chkp, z_bnd, z_bn2, z_wth, z_bxr, z_bxl, z_bx2r, z_bx2l, z_bz0, z_bz1, z_mx, z_mn, z_tb1, z_tb0, z_eq, z_le, z_lt, z_nn_lt, z_nn_le, z_nn_ge, z_nn_gt, z_nn_eq, z_nn_eq2, z_bit, z_wow, z_wo, z_or, z_shl, z_if, z_ifn, fbit, if_true, if_false, Nat.zero_add, Nat.add_zero, not_false_iff, not_true]
    rw [← hm1]
    simp (disch := omega) only [z_nn2, z0, z1, z2, z3, z4, z5, z6, z7, z8, z9, z10, z11, z12, z13, z14, z15, z16, z17, z18, z19, z20, z23, z24, z28, z31, z32, z33, z45, z46, z47, z48, z52, z57, z60, z63, z65, z70, z80, z95, z100, z126, z127, z128, z200, z240, z255, z400, z480, z500, z840, z1023, z2000, z99999, z1073741824, z_nn, z_add, z_sub, z_mul, z_div, z_rem, z_cl, z_in, z_chk, z_chkp, z_bnd, z_bn2, z_wth, z_bxr, z_bxl, z_bx2r, z_bx2l, z_bz0, z_bz1, z_mx, z_mn, z_tb1, z_tb0, z_eq, z_le, z_lt, z_nn_lt, z_nn_le, z_nn_ge, z_nn_gt, z_nn_eq, z_nn_eq2, z_bit, z_wow, z_wo, z_or, z_shl, z_if, z_ifn, fbit, if_true, if_false, Nat.zero_add, Nat.add_zero, not_false_iff, not_true, a9, a8]
    obtain ⟨m2, hm2⟩ : ∃ q, q = si m1 21 0 8 (nI (psq B L j + 1)) := ⟨_, rfl⟩
    rw [← hm2]
    have b12 : gi m2 21 0 12 = nI j := by rw [hm2, gi_si, if_neg (fun z => by omega)]; exact a12
    have f2 : FT m1 m2 := by rw [hm2]; exact FT.si (by omega)
    simp (disch := omega) only [z_nn2, z0, z1, z2, z3, z4, z5, z6, z7, z8, z9, z10, z11, z12, z13, z14, z15, z16, z17, z18, z19, z20, z23, z24, z28, z31, z32, z33, z45, z46, z47, z48, z52, z57, z60, z63, z65, z70, z80, z95, z100, z126, z127, z128, z200, z240, z255, z400, z480, z500, z840, z1023, z2000, z99999, z1073741824, z_nn, z_add, z_sub, z_mul, z_div, z_rem, z_cl, z_in, z_chk, z_chkp, z_bnd, z_bn2, z_wth, z_bxr, z_bxl, z_bx2r, z_bx2l, z_bz0, z_bz1, z_mx, z_mn, z_tb1, z_tb0, z_eq, z_le, z_lt, z_nn_lt, z_nn_le, z_nn_ge, z_nn_gt, z_nn_eq, z_nn_eq2, z_bit, z_wow, z_wo, z_or, z_shl, z_if, z_ifn, fbit, if_true, if_false, Nat.zero_add, Nat.add_zero, not_false_iff, not_true, b12]
    obtain ⟨m3, hm3⟩ : ∃ q, q = si m2 27 0 j (nI (sgnq (B (psq B L j)))) := ⟨_, rfl⟩
    rw [← hm3]
    have c9 : gi m3 21 0 9 = nI 1 := by rw [hm3, gi_si, if_neg (fun z => by omega), hm2, gi_si, if_neg (fun z => by omega)]; exact a9
    have c12 : gi m3 21 0 12 = nI j := by rw [hm3, gi_si, if_neg (fun z => by omega)]; exact b12
    have c8 : gi m3 21 0 8 = nI (psq B L j + 1) := by rw [hm3, gi_si, if_neg (fun z => by omega), hm2, gi_si, if_pos ⟨rfl, rfl, rfl⟩]
    have f3 : FT m2 m3 := by rw [hm3]; exact FT.si (by omega)
    have fm : FT m m3 := (f1.tr f2).tr f3
    have hl3 := fletter (h.ft fm) hL (i := psq B L j + 1) (by omega) c8
    have hB3 : (if psq B L j + 1 < L then B (psq B L j + 1) else 0) < 128 := by
      split
      · rename_i c
        have := hB _ c
        omega
      · omega
    have main : ∀ v, v = dt B L j → ∃ m1, jX6_readsSign_91 (nI j) (nI v) m3 = some m1 ∧ FT m m1 ∧ gi m1 21 0 9 = nI 1 ∧ RS B L (j + 1) m1 := by
      intro v hv
      have hv1 := dt_le B L j
      unfold jX6_readsSign_91 jX6_readsSign_127
      obtain ⟨m4, hm4⟩ : ∃ q, q = si m3 28 0 j (nI v) := ⟨_, rfl⟩
      have d12 : gi m4 21 0 12 = nI j := by rw [hm4, gi_si, if_neg (fun z => by omega)]; exact c12
      have d8 : gi m4 21 0 8 = nI (psq B L j + 1) := by rw [hm4, gi_si, if_neg (fun z => by omega)]; exact c8
      have d28 : gi m4 28 0 j = nI v := by rw [hm4, gi_si, if_pos ⟨rfl, rfl, rfl⟩]
      have d9 : gi m4 21 0 9 = nI 1 := by rw [hm4, gi_si, if_neg (fun z => by omega)]; exact c9
      have f4 : FT m3 m4 := by rw [hm4]; exact FT.si (by omega)
      simp (disch := omega) only [z_nn2, z0, z1, z2, z3, z4, z5, z6, z7, z8, z9, z10, z11, z12, z13, z14, z15, z16, z17, z18, z19, z20, z23, z24, z28, z31, z32, z33, z45, z46, z47, z48, z52, z57, z60, z63, z65, z70, z80, z95, z100, z126, z127, z128, z200, z240, z255, z400, z480, z500, z840, z1023, z2000, z99999, z1073741824, z_nn, z_add, z_sub, z_mul, z_div, z_rem, z_cl, z_in, z_chk, z_chkp, z_bnd, z_bn2, z_wth, z_bxr, z_bxl, z_bx2r, z_bx2l, z_bz0, z_bz1, z_mx, z_mn, z_tb1, z_tb0, z_eq, z_le, z_lt, z_nn_lt, z_nn_le, z_nn_ge, z_nn_gt, z_nn_eq, z_nn_eq2, z_bit, z_wow, z_wo, z_or, z_shl, z_if, z_ifn, fbit, if_true, if_false, Nat.zero_add, Nat.add_zero, not_false_iff, not_true]
      rw [← hm4]
      simp (disch := omega) only [z_nn2, z0, z1, z2, z3, z4, z5, z6, z7, z8, z9, z10, z11, z12, z13, z14, z15, z16, z17, z18, z19, z20, z23, z24, z28, z31, z32, z33, z45, z46, z47, z48, z52, z57, z60, z63, z65, z70, z80, z95, z100, z126, z127, z128, z200, z240, z255, z400, z480, z500, z840, z1023, z2000, z99999, z1073741824, z_nn, z_add, z_sub, z_mul, z_div, z_rem, z_cl, z_in, z_chk, z_chkp, z_bnd, z_bn2, z_wth, z_bxr, z_bxl, z_bx2r, z_bx2l, z_bz0, z_bz1, z_mx, z_mn, z_tb1, z_tb0, z_eq, z_le, z_lt, z_nn_lt, z_nn_le, z_nn_ge, z_nn_gt, z_nn_eq, z_nn_eq2, z_bit, z_wow, z_wo, z_or, z_shl, z_if, z_ifn, fbit, if_true, if_false, Nat.zero_add, Nat.add_zero, not_false_iff, not_true, d12, d8, d28]
      obtain ⟨m5, hm5⟩ : ∃ q, q = si m4 21 0 8 (nI (psq B L j + 1 + v)) := ⟨_, rfl⟩
      rw [← hm5]
      have e9 : gi m5 21 0 9 = nI 1 := by rw [hm5, gi_si, if_neg (fun z => by omega)]; exact d9
      have e12 : gi m5 21 0 12 = nI j := by rw [hm5, gi_si, if_neg (fun z => by omega)]; exact d12
      have f5 : FT m4 m5 := by rw [hm5]; exact FT.si (by omega)
      simp (disch := omega) only [z_nn2, z0, z1, z2, z3, z4, z5, z6, z7, z8, z9, z10, z11, z12, z13, z14, z15, z16, z17, z18, z19, z20, z23, z24, z28, z31, z32, z33, z45, z46, z47, z48, z52, z57, z60, z63, z65, z70, z80, z95, z100, z126, z127, z128, z200, z240, z255, z400, z480, z500, z840, z1023, z2000, z99999, z1073741824, z_nn, z_add, z_sub, z_mul, z_div, z_rem, z_cl, z_in, z_chk, z_chkp, z_bnd, z_bn2, z_wth, z_bxr, z_bxl, z_bx2r, z_bx2l, z_bz0, z_bz1, z_mx, z_mn, z_tb1, z_tb0, z_eq, z_le, z_lt, z_nn_lt, z_nn_le, z_nn_ge, z_nn_gt, z_nn_eq, z_nn_eq2, z_bit, z_wow, z_wo, z_or, z_shl, z_if, z_ifn, fbit, if_true, if_false, Nat.zero_add, Nat.add_zero, not_false_iff, not_true, e9, e12]
      refine ⟨_, rfl, ((fm.tr f4).tr f5).tr (FT.si (by omega)), ?_, ?_, ?_, fun k hk => ?_⟩
      · rw [gi_si, if_neg (fun z => by omega)]; exact e9
      · rw [gi_si, if_neg (fun z => by omega), hm5, gi_si, if_pos ⟨rfl, rfl, rfl⟩, ps_s, hv]
      · rw [gi_si, if_pos ⟨rfl, rfl, rfl⟩]
      · by_cases ck : k = j
        · subst ck
          constructor
          · rw [gi_si, if_neg (fun z => by omega), hm5, gi_si, if_neg (fun z => by omega), hm4, gi_si, if_neg (fun z => by omega), hm3, gi_si, if_pos ⟨rfl, rfl, rfl⟩]
          · rw [gi_si, if_neg (fun z => by omega), hm5, gi_si, if_neg (fun z => by omega), d28, hv]
        · obtain ⟨q1, q2⟩ := rk k (by omega)
          constructor
          · rw [gi_si, if_neg (fun z => by omega), hm5, gi_si, if_neg (fun z => by omega), hm4, gi_si, if_neg (fun z => by omega), hm3, gi_si, if_neg (fun z => ck z.2.2), hm2, gi_si, if_neg (fun z => by omega), hm1, gi_si, if_neg (fun z => by omega)]
            exact q1
          · rw [gi_si, if_neg (fun z => by omega), hm5, gi_si, if_neg (fun z => by omega), hm4, gi_si, if_neg (fun z => ck z.2.2), hm3, gi_si, if_neg (fun z => by omega), hm2, gi_si, if_neg (fun z => by omega), hm1, gi_si, if_neg (fun z => by omega)]
            exact q2
    simp (disch := omega) only [z_nn2, z0, z1, z2, z3, z4, z5, z6, z7, z8, z9, z10, z11, z12, z13, z14, z15, z16, z17, z18, z19, z20, z23, z24, z28, z31, z32, z33, z45, z46, z47, z48, z52, z57, z60, z63, z65, z70, z80, z95, z100, z126, z127, z128, z200, z240, z255, z400, z480, z500, z840, z1023, z2000, z99999, z1073741824, z_nn, z_add, z_sub, z_mul, z_div, z_rem, z_cl, z_in, z_chk, z_chkp, z_bnd, z_bn2, z_wth, z_bxr, z_bxl, z_bx2r, z_bx2l, z_bz0, z_bz1, z_mx, z_mn, z_tb1, z_tb0, z_eq, z_le, z_lt, z_nn_lt, z_nn_le, z_nn_ge, z_nn_gt, z_nn_eq, z_nn_eq2, z_bit, z_wow, z_wo, z_or, z_shl, z_if, z_ifn, fbit, if_true, if_false, Nat.zero_add, Nat.add_zero, not_false_iff, not_true, c9, c12, hl3, jX6_readsSign_90]
    by_cases cdd : psq B L j + 1 < L ∧ B (psq B L j + 1) = 46
    · rw [if_pos (show (if psq B L j + 1 < L then B (psq B L j + 1) else 0) = 46 by rw [if_pos cdd.1]; exact cdd.2)]
      exact main 1 (by unfold dt; rw [if_pos cdd])
    · rw [if_neg (show ¬ (if psq B L j + 1 < L then B (psq B L j + 1) else 0) = 46 by
        by_cases c5 : psq B L j + 1 < L
        · rw [if_pos c5]; exact fun z => cdd ⟨c5, z⟩
        · rw [if_neg c5]; omega)]
      exact main 0 (by unfold dt; rw [if_neg cdd])
  · simp only [if_neg c]
    have main : ∃ m1, jX6_readsSign_27 (rI (sgnq (if psq B L j < L then B (psq B L j) else 0))) m = some m1 ∧ FT m m1 ∧ gi m1 21 0 9 = nI 0 ∧ RS B L j m1 := by
      generalize rI (sgnq (if psq B L j < L then B (psq B L j) else 0)) = its
      unfold jX6_readsSign_27 jX6_readsSign_28 jX6_readsSign_48
      obtain ⟨m1, hm1⟩ : ∃ q, q = si m 21 0 9 (nI 0) := ⟨_, rfl⟩
      have a9 : gi m1 21 0 9 = nI 0 := by rw [hm1, gi_si, if_pos ⟨rfl, rfl, rfl⟩]
      have a8 : gi m1 21 0 8 = nI (psq B L j) := by rw [hm1, gi_si, if_neg (fun z => by omega)]; exact r8
      have f1 : FT m m1 := by rw [hm1]; exact FT.si (by omega)
      have a12 : gi m1 21 0 12 = nI j := by rw [hm1, gi_si, if_neg (fun z => by omega)]; exact r12
      simp (disch := omega) only [z_nn2, z0, z1, z2, z3, z4, z5, z6, z7, z8, z9, z10, z11, z12, z13, z14, z15, z16, z17, z18, z19, z20, z23, z24, z28, z31, z32, z33, z45, z46, z47, z48, z52, z57, z60, z63, z65, z70, z80, z95, z100, z126, z127, z128, z200, z240, z255, z400, z480, z500, z840, z1023, z2000, z99999, z1073741824, z_nn, z_add, z_sub, z_mul, z_div, z_rem, z_cl, z_in, z_chk, z_chkp, z_bnd, z_bn2, z_wth, z_bxr, z_bxl, z_bx2r, z_bx2l, z_bz0, z_bz1, z_mx, z_mn, z_tb1, z_tb0, z_eq, z_le, z_lt, z_nn_lt, z_nn_le, z_nn_ge, z_nn_gt, z_nn_eq, z_nn_eq2, z_bit, z_wow, z_wo, z_or, z_shl, z_if, z_ifn, fbit, if_true, if_false, Nat.zero_add, Nat.add_zero, not_false_iff, not_true]
      rw [← hm1]
      simp (disch := omega) only [z_nn2, z0, z1, z2, z3, z4, z5, z6, z7, z8, z9, z10, z11, z12, z13, z14, z15, z16, z17, z18, z19, z20, z23, z24, z28, z31, z32, z33, z45, z46, z47, z48, z52, z57, z60, z63, z65, z70, z80, z95, z100, z126, z127, z128, z200, z240, z255, z400, z480, z500, z840, z1023, z2000, z99999, z1073741824, z_nn, z_add, z_sub, z_mul, z_div, z_rem, z_cl, z_in, z_chk, z_chkp, z_bnd, z_bn2, z_wth, z_bxr, z_bxl, z_bx2r, z_bx2l, z_bz0, z_bz1, z_mx, z_mn, z_tb1, z_tb0, z_eq, z_le, z_lt, z_nn_lt, z_nn_le, z_nn_ge, z_nn_gt, z_nn_eq, z_nn_eq2, z_bit, z_wow, z_wo, z_or, z_shl, z_if, z_ifn, fbit, if_true, if_false, Nat.zero_add, Nat.add_zero, not_false_iff, not_true, a9, a8]
      obtain ⟨m2, hm2⟩ : ∃ q, q = si m1 21 0 8 (nI (psq B L j)) := ⟨_, rfl⟩
      rw [← hm2]
      have b12 : gi m2 21 0 12 = nI j := by rw [hm2, gi_si, if_neg (fun z => by omega)]; exact a12
      have f2 : FT m1 m2 := by rw [hm2]; exact FT.si (by omega)
      simp (disch := omega) only [z_nn2, z0, z1, z2, z3, z4, z5, z6, z7, z8, z9, z10, z11, z12, z13, z14, z15, z16, z17, z18, z19, z20, z23, z24, z28, z31, z32, z33, z45, z46, z47, z48, z52, z57, z60, z63, z65, z70, z80, z95, z100, z126, z127, z128, z200, z240, z255, z400, z480, z500, z840, z1023, z2000, z99999, z1073741824, z_nn, z_add, z_sub, z_mul, z_div, z_rem, z_cl, z_in, z_chk, z_chkp, z_bnd, z_bn2, z_wth, z_bxr, z_bxl, z_bx2r, z_bx2l, z_bz0, z_bz1, z_mx, z_mn, z_tb1, z_tb0, z_eq, z_le, z_lt, z_nn_lt, z_nn_le, z_nn_ge, z_nn_gt, z_nn_eq, z_nn_eq2, z_bit, z_wow, z_wo, z_or, z_shl, z_if, z_ifn, fbit, if_true, if_false, Nat.zero_add, Nat.add_zero, not_false_iff, not_true, b12]
      obtain ⟨m3, hm3⟩ : ∃ q, q = si m2 27 0 j its := ⟨_, rfl⟩
      rw [← hm3]
      have c9 : gi m3 21 0 9 = nI 0 := by rw [hm3, gi_si, if_neg (fun z => by omega), hm2, gi_si, if_neg (fun z => by omega)]; exact a9
      have c12 : gi m3 21 0 12 = nI j := by rw [hm3, gi_si, if_neg (fun z => by omega)]; exact b12
      have c8 : gi m3 21 0 8 = nI (psq B L j) := by rw [hm3, gi_si, if_neg (fun z => by omega), hm2, gi_si, if_pos ⟨rfl, rfl, rfl⟩]
      have f3 : FT m2 m3 := by rw [hm3]; exact FT.si (by omega)
      simp (disch := omega) only [z_nn2, z0, z1, z2, z3, z4, z5, z6, z7, z8, z9, z10, z11, z12, z13, z14, z15, z16, z17, z18, z19, z20, z23, z24, z28, z31, z32, z33, z45, z46, z47, z48, z52, z57, z60, z63, z65, z70, z80, z95, z100, z126, z127, z128, z200, z240, z255, z400, z480, z500, z840, z1023, z2000, z99999, z1073741824, z_nn, z_add, z_sub, z_mul, z_div, z_rem, z_cl, z_in, z_chk, z_chkp, z_bnd, z_bn2, z_wth, z_bxr, z_bxl, z_bx2r, z_bx2l, z_bz0, z_bz1, z_mx, z_mn, z_tb1, z_tb0, z_eq, z_le, z_lt, z_nn_lt, z_nn_le, z_nn_ge, z_nn_gt, z_nn_eq, z_nn_eq2, z_bit, z_wow, z_wo, z_or, z_shl, z_if, z_ifn, fbit, if_true, if_false, Nat.zero_add, Nat.add_zero, not_false_iff, not_true, c9, c12, jX6_readsSign_90, jX6_readsSign_91]
      obtain ⟨m4, hm4⟩ : ∃ q, q = si m3 28 0 j (nI 0) := ⟨_, rfl⟩
      rw [← hm4]
      have d12 : gi m4 21 0 12 = nI j := by rw [hm4, gi_si, if_neg (fun z => by omega)]; exact c12
      have d8 : gi m4 21 0 8 = nI (psq B L j) := by rw [hm4, gi_si, if_neg (fun z => by omega)]; exact c8
      have d28 : gi m4 28 0 j = nI 0 := by rw [hm4, gi_si, if_pos ⟨rfl, rfl, rfl⟩]
      have d9 : gi m4 21 0 9 = nI 0 := by rw [hm4, gi_si, if_neg (fun z => by omega)]; exact c9
      have f4 : FT m3 m4 := by rw [hm4]; exact FT.si (by omega)
      simp (disch := omega) only [z_nn2, z0, z1, z2, z3, z4, z5, z6, z7, z8, z9, z10, z11, z12, z13, z14, z15, z16, z17, z18, z19, z20, z23, z24, z28, z31, z32, z33, z45, z46, z47, z48, z52, z57, z60, z63, z65, z70, z80, z95, z100, z126, z127, z128, z200, z240, z255, z400, z480, z500, z840, z1023, z2000, z99999, z1073741824, z_nn, z_add, z_sub, z_mul, z_div, z_rem, z_cl, z_in, z_chk, z_chkp, z_bnd, z_bn2, z_wth, z_bxr, z_bxl, z_bx2r, z_bx2l, z_bz0, z_bz1, z_mx, z_mn, z_tb1, z_tb0, z_eq, z_le, z_lt, z_nn_lt, z_nn_le, z_nn_ge, z_nn_gt, z_nn_eq, z_nn_eq2, z_bit, z_wow, z_wo, z_or, z_shl, z_if, z_ifn, fbit, if_true, if_false, Nat.zero_add, Nat.add_zero, not_false_iff, not_true, d12, d8, d28]
      obtain ⟨m5, hm5⟩ : ∃ q, q = si m4 21 0 8 (nI (psq B L j)) := ⟨_, rfl⟩
      rw [← hm5]
      have e9 : gi m5 21 0 9 = nI 0 := by rw [hm5, gi_si, if_neg (fun z => by omega)]; exact d9
      have e12 : gi m5 21 0 12 = nI j := by rw [hm5, gi_si, if_neg (fun z => by omega)]; exact d12
      have f5 : FT m4 m5 := by rw [hm5]; exact FT.si (by omega)
      unfold jX6_readsSign_127
      simp (disch := omega) only [z_nn2, z0, z1, z2, z3, z4, z5, z6, z7, z8, z9, z10, z11, z12, z13, z14, z15, z16, z17, z18, z19, z20, z23, z24, z28, z31, z32, z33, z45, z46, z47, z48, z52, z57, z60, z63, z65, z70, z80, z95, z100, z126, z127, z128, z200, z240, z255, z400, z480, z500, z840, z1023, z2000, z99999, z1073741824, z_nn, z_add, z_sub, z_mul, z_div, z_rem, z_cl, z_in, z_chk, z_chkp, z_bnd, z_bn2, z_wth, z_bxr, z_bxl, z_bx2r, z_bx2l, z_bz0, z_bz1, z_mx, z_mn, z_tb1, z_tb0, z_eq, z_le, z_lt, z_nn_lt, z_nn_le, z_nn_ge, z_nn_gt, z_nn_eq, z_nn_eq2, z_bit, z_wow, z_wo, z_or, z_shl, z_if, z_ifn, fbit, if_true, if_false, Nat.zero_add, Nat.add_zero, not_false_iff, not_true, e9, e12]
      refine ⟨_, rfl, ((((f1.tr f2).tr f3).tr f4).tr f5).tr (FT.si (by omega)), ?_, ?_, ?_, fun k hk => ?_⟩
      · rw [gi_si, if_neg (fun z => by omega)]; exact e9
      · rw [gi_si, if_neg (fun z => by omega), hm5, gi_si, if_pos ⟨rfl, rfl, rfl⟩]
      · rw [gi_si, if_pos ⟨rfl, rfl, rfl⟩]
      · obtain ⟨q1, q2⟩ := rk k hk
        constructor
        · rw [gi_si, if_neg (fun z => by omega), hm5, gi_si, if_neg (fun z => by omega), hm4, gi_si, if_neg (fun z => by omega), hm3, gi_si, if_neg (fun z => by omega), hm2, gi_si, if_neg (fun z => by omega), hm1, gi_si, if_neg (fun z => by omega)]
          exact q1
        · rw [gi_si, if_neg (fun z => by omega), hm5, gi_si, if_neg (fun z => by omega), hm4, gi_si, if_neg (fun z => by omega), hm3, gi_si, if_neg (fun z => by omega), hm2, gi_si, if_neg (fun z => by omega), hm1, gi_si, if_neg (fun z => by omega)]
          exact q2
    by_cases c18 : sgnq (if psq B L j < L then B (psq B L j) else 0) = 18
    · have enn : rI (sgnq (if psq B L j < L then B (psq B L j) else 0)) = nn := by rw [c18]; rfl
      simp only [enn] at main ⊢
      simp only [z_nn2, if_true]
      exact main
    · have hlt : psq B L j < L := by
        by_cases z : psq B L j < L
        · exact z
        · exfalso
          rw [if_neg z] at c18
          exact c18 (by decide)
      simp only [if_pos hlt] at c18 main ⊢
      have e1 : rI (sgnq (B (psq B L j))) = nI (sgnq (B (psq B L j))) := if_neg c18
      simp only [e1] at main ⊢
      have hs2 := sgn_le (B (psq B L j))
      simp (disch := omega) only [z_nn2, z0, z1, z2, z3, z4, z5, z6, z7, z8, z9, z10, z11, z12, z13, z14, z15, z16, z17, z18, z19, z20, z23, z24, z28, z31, z32, z33, z45, z46, z47, z48, z52, z57, z60, z63, z65, z70, z80, z95, z100, z126, z127, z128, z200, z240, z255, z400, z480, z500, z840, z1023, z2000, z99999, z1073741824, z_nn, z_add, z_sub, z_mul, z_div, z_rem, z_cl, z_in, z_chk, z_chkp, z_bnd, z_bn2, z_wth, z_bxr, z_bxl, z_bx2r, z_bx2l, z_bz0, z_bz1, z_mx, z_mn, z_tb1, z_tb0, z_eq, z_le, z_lt, z_nn_lt, z_nn_le, z_nn_ge, z_nn_gt, z_nn_eq, z_nn_eq2, z_bit, z_wow, z_wo, z_or, z_shl, z_if, z_ifn, fbit, if_true, if_false, Nat.zero_add, Nat.add_zero, not_false_iff, not_true, r12]
      exact main
theorem freads {B : Nat → Nat} {L : Nat} {m : gM} (h : IR4 B L m) (hL : L ≤ 12) (hB : ∀ i, i < L → 33 ≤ B i ∧ B i ≤ 126) : ∃ m1, fX6_readsAll m = some m1 ∧ FT m m1 ∧ RS B L (JJ B L) m1 ∧ gi m1 21 0 9 = nI (if 0 < JJ B L ∧ L ≤ psq B L (JJ B L) then 1 else 0) := by
  have hJ6 := JJ_le B L
  have hJL := JJ_ps B L
  have key : ∀ q j n m, j + q = JJ B L → 0 < j → IR4 B L m → RS B L j m → gi m 21 0 9 = nI 1 → q + 1 < n → ∃ m1, lX6_readsAll_14 n m = some m1 ∧ FT m m1 ∧ RS B L (JJ B L) m1 ∧ gi m1 21 0 9 = nI (if 0 < JJ B L ∧ L ≤ psq B L (JJ B L) then 1 else 0) := by
    intro q
    induction q with
    | zero =>
      intro j n m hj h0 h4 hr h9 hn
      have hj : j = JJ B L := by omega
      subst hj
      obtain ⟨n2, rfl⟩ : ∃ n2, n = n2 + 1 := ⟨n - 1, by omega⟩
      rw [lX6_readsAll_14_s]
      simp (disch := omega) only [z_nn2, z0, z1, z2, z3, z4, z5, z6, z7, z8, z9, z10, z11, z12, z13, z14, z15, z16, z17, z18, z19, z20, z23, z24, z28, z31, z32, z33, z45, z46, z47, z48, z52, z57, z60, z63, z65, z70, z80, z95, z100, z126, z127, z128, z200, z240, z255, z400, z480, z500, z840, z1023, z2000, z99999, z1073741824, z_nn, z_add, z_sub, z_mul, z_div, z_rem, z_cl, z_in, z_chk, z_chkp, z_bnd, z_bn2, z_wth, z_bxr, z_bxl, z_bx2r, z_bx2l, z_bz0, z_bz1, z_mx, z_mn, z_tb1, z_tb0, z_eq, z_le, z_lt, z_nn_lt, z_nn_le, z_nn_ge, z_nn_gt, z_nn_eq, z_nn_eq2, z_bit, z_wow, z_wo, z_or, z_shl, z_if, z_ifn, fbit, if_true, if_false, Nat.zero_add, Nat.add_zero, not_false_iff, not_true, h9, h4.1, hr.1]
      by_cases c : L ≤ psq B L (JJ B L)
      · rw [if_pos c]
        exact ⟨m, rfl, ⟨fun _ _ _ _ _ _ => rfl, fun _ _ => rfl⟩, hr, by rw [if_pos ⟨h0, c⟩]; exact h9⟩
      · rw [if_neg c]
        obtain ⟨m1, e1, f1, g1⟩ := fread1 h4 hL hB hr hJ6 hJL
        have hnw : ¬ (psq B L (JJ B L) < L ∧ sgnq (B (psq B L (JJ B L))) ≠ 18 ∧ JJ B L < 6) := fun z => by
          rcases JJ_end B L with y | y | y
          · exact c y
          · exact z.2.1 y
          · omega
        rw [if_neg hnw] at g1
        rw [e1]
        simp only [z_bnd]
        obtain ⟨n3, rfl⟩ : ∃ n3, n2 = n3 + 1 := ⟨n2 - 1, by omega⟩
        rw [lX6_readsAll_14_s]
        simp (disch := omega) only [z_nn2, z0, z1, z2, z3, z4, z5, z6, z7, z8, z9, z10, z11, z12, z13, z14, z15, z16, z17, z18, z19, z20, z23, z24, z28, z31, z32, z33, z45, z46, z47, z48, z52, z57, z60, z63, z65, z70, z80, z95, z100, z126, z127, z128, z200, z240, z255, z400, z480, z500, z840, z1023, z2000, z99999, z1073741824, z_nn, z_add, z_sub, z_mul, z_div, z_rem, z_cl, z_in, z_chk, z_chkp, z_bnd, z_bn2, z_wth, z_bxr, z_bxl, z_bx2r, z_bx2l, z_bz0, z_bz1, z_mx, z_mn, z_tb1, z_tb0, z_eq, z_le, z_lt, z_nn_lt, z_nn_le, z_nn_ge, z_nn_gt, z_nn_eq, z_nn_eq2, z_bit, z_wow, z_wo, z_or, z_shl, z_if, z_ifn, fbit, if_true, if_false, Nat.zero_add, Nat.add_zero, not_false_iff, not_true, g1.1]
        refine ⟨m1, rfl, f1, g1.2, ?_⟩
        exact g1.1
    | succ q ih =>
      intro j n m hj h0 h4 hr h9 hn
      obtain ⟨n2, rfl⟩ : ∃ n2, n = n2 + 1 := ⟨n - 1, by omega⟩
      have k := JJ_in (B := B) (L := L) (k := j) (by omega)
      obtain ⟨m1, e1, f1, g1⟩ := fread1 h4 hL hB hr (by omega) (Nat.le_of_lt k.1)
      rw [if_pos k] at g1
      obtain ⟨m2, e2, f2, g2⟩ := ih (j + 1) n2 m1 (by omega) (by omega) (h4.ft f1) g1.2 g1.1 (by omega)
      rw [lX6_readsAll_14_s]
      have hk1 := k.1
      simp (disch := omega) only [z_nn2, z0, z1, z2, z3, z4, z5, z6, z7, z8, z9, z10, z11, z12, z13, z14, z15, z16, z17, z18, z19, z20, z23, z24, z28, z31, z32, z33, z45, z46, z47, z48, z52, z57, z60, z63, z65, z70, z80, z95, z100, z126, z127, z128, z200, z240, z255, z400, z480, z500, z840, z1023, z2000, z99999, z1073741824, z_nn, z_add, z_sub, z_mul, z_div, z_rem, z_cl, z_in, z_chk, z_chkp, z_bnd, z_bn2, z_wth, z_bxr, z_bxl, z_bx2r, z_bx2l, z_bz0, z_bz1, z_mx, z_mn, z_tb1, z_tb0, z_eq, z_le, z_lt, z_nn_lt, z_nn_le, z_nn_ge, z_nn_gt, z_nn_eq, z_nn_eq2, z_bit, z_wow, z_wo, z_or, z_shl, z_if, z_ifn, fbit, if_true, if_false, Nat.zero_add, Nat.add_zero, not_false_iff, not_true, h9, h4.1, hr.1, e1]
      exact ⟨m2, e2, f1.tr f2, g2⟩
  unfold fX6_readsAll
  simp only [z_wth, z0]
  obtain ⟨m0, hm0⟩ : ∃ q, q = si (si m 21 0 8 (nI 0)) 21 0 12 (nI 0) := ⟨_, rfl⟩
  rw [← hm0]
  have f0 : FT m m0 := by rw [hm0]; exact (FT.si (by omega)).tr (FT.si (by omega))
  have r0 : RS B L 0 m0 := by
    refine ⟨?_, ?_, fun k hk => absurd hk (Nat.not_lt_zero k)⟩
    · rw [hm0, gi_si, if_neg (fun z => by omega), gi_si, if_pos ⟨rfl, rfl, rfl⟩]; rfl
    · rw [hm0, gi_si, if_pos ⟨rfl, rfl, rfl⟩]
  have h0 := h.ft f0
  obtain ⟨m1, e1, f1, g1⟩ := fread1 h0 hL hB r0 (Nat.zero_le _) (Nat.zero_le _)
  rw [e1]
  simp only [z_bnd]
  by_cases c : JJ B L = 0
  · have hnw : ¬ (psq B L 0 < L ∧ sgnq (B (psq B L 0)) ≠ 18 ∧ 0 < 6) := fun z => by
      have y := JJ_end B L
      rw [c] at y
      rcases y with y | y | y
      · omega
      · exact z.2.1 y
      · omega
    rw [if_neg hnw] at g1
    rw [show FU = 4095 + 1 from rfl, lX6_readsAll_14_s]
    simp (disch := omega) only [z_nn2, z0, z1, z2, z3, z4, z5, z6, z7, z8, z9, z10, z11, z12, z13, z14, z15, z16, z17, z18, z19, z20, z23, z24, z28, z31, z32, z33, z45, z46, z47, z48, z52, z57, z60, z63, z65, z70, z80, z95, z100, z126, z127, z128, z200, z240, z255, z400, z480, z500, z840, z1023, z2000, z99999, z1073741824, z_nn, z_add, z_sub, z_mul, z_div, z_rem, z_cl, z_in, z_chk, z_chkp, z_bnd, z_bn2, z_wth, z_bxr, z_bxl, z_bx2r, z_bx2l, z_bz0, z_bz1, z_mx, z_mn, z_tb1, z_tb0, z_eq, z_le, z_lt, z_nn_lt, z_nn_le, z_nn_ge, z_nn_gt, z_nn_eq, z_nn_eq2, z_bit, z_wow, z_wo, z_or, z_shl, z_if, z_ifn, fbit, if_true, if_false, Nat.zero_add, Nat.add_zero, not_false_iff, not_true, g1.1]
    refine ⟨m1, rfl, f0.tr f1, by rw [c]; exact g1.2, ?_⟩
    exact g1.1
  · have k := JJ_in (B := B) (L := L) (k := 0) (by omega)
    rw [if_pos k] at g1
    obtain ⟨m2, e2, f2, g2⟩ := key (JJ B L - 1) 1 FU m1 (by omega) (by decide) (h0.ft f1) g1.2 g1.1 (by unfold FU; omega)
    exact ⟨m2, e2, (f0.tr f1).tr f2, g2⟩
