/-! THE TURN of a slot, and what is looked at -/
theorem z_subadd {a b c : Nat} (h : b ≤ a + c) : (nI a - nI b) + nI c = nI (a + c - b) := by
  rw [← z_sub h, ← z_add, Int32.sub_eq_add_neg, Int32.sub_eq_add_neg, Int32.add_assoc, Int32.add_comm (-nI b), Int32.add_assoc]
def ahs (A : Nat → Nat) (i : Nat) : Nat → Nat → Nat
  | 0, _ => i
  | n + 1, b => if A (10 + 4 * ((i + 6 - b) % 6)) = 0 then ahs A i n (b + 1) else (i + 6 - b) % 6
def ahd (A : Nat → Nat) (i : Nat) : Nat := ahs A i 5 1
theorem ahs_lt (A : Nat → Nat) {i : Nat} (hi : i < 6) : ∀ n b, ahs A i n b < 6
  | 0, _ => hi
  | n + 1, b => by
    unfold ahs
    split
    · exact ahs_lt A hi n (b + 1)
    · omega
theorem ahd_lt (A : Nat → Nat) {i : Nat} (hi : i < 6) : ahd A i < 6 := ahs_lt A hi 5 1
theorem fahead_s {t : Nat} {A : Nat → Nat} {mm : gM} (h : CS t A mm) (w : WF A) {i : Nat} (hi : i < 6) : ∀ k b n, b + k = 6 → 1 ≤ b → k < n → lX2_litAheadOf_2 t mm n (nI i) (nI b) = some (if ahs A i k b = i then nn else nI (ahs A i k b)) := by
  intro k
  induction k with
  | zero =>
    intro b n hb h1 hn
    obtain ⟨m, rfl⟩ : ∃ m, n = m + 1 := ⟨n - 1, by omega⟩
    rw [lX2_litAheadOf_2_s]
    simp (disch := omega) only [z_nn2, z0, z1, z2, z3, z4, z5, z6, z7, z8, z9, z10, z11, z12, z13, z14, z15, z16, z17, z18, z19, z20, z23, z24, z28, z31, z32, z33, z45, z46, z47, z48, z52, z57, z60, z63, z65, z70, z80, z95, z100, z126, z127, z128, z200, z240, z255, z400, z480, z500, z840, z1023, z2000, z99999, z1073741824, z_nn, z_add, z_sub, z_mul, z_div, z_rem, z_cl, z_in, z_chk, z_chkp, z_bnd, z_bn2, z_wth, z_bxr, z_bxl, z_bx2r, z_bx2l, z_bz0, z_bz1, z_mx, z_mn, z_tb1, z_tb0, z_eq, z_le, z_lt, z_nn_lt, z_nn_le, z_nn_ge, z_nn_gt, z_nn_eq, z_nn_eq2, z_bit, z_wow, z_wo, z_or, z_shl, z_if, z_ifn, fbit, if_true, if_false, Nat.zero_add, Nat.add_zero, not_false_iff, not_true, ahs]
  | succ k ih =>
    intro b n hb h1 hn
    obtain ⟨m, rfl⟩ : ∃ m, n = m + 1 := ⟨n - 1, by omega⟩
    have ho : (i + 6 - b) % 6 < 6 := Nat.mod_lt _ (by decide)
    have hT := w.time ho
    rw [lX2_litAheadOf_2_s]
    unfold jX2_litAheadOf_25 ahs
    have e : (if nI i < nI b then chk (vp_in ((nI i - nI b) + 6) 6) (if gi mm 3 t ((nI i - nI b) + 6).toNatClampNeg ≤ 0 then lX2_litAheadOf_2 t mm m (nI i) (nI b + 1) else some ((nI i - nI b) + 6)) else chk (vp_in (nI i - nI b) 6) (if gi mm 3 t (nI i - nI b).toNatClampNeg ≤ 0 then lX2_litAheadOf_2 t mm m (nI i) (nI b + 1) else some (nI i - nI b))) = if A (10 + 4 * ((i + 6 - b) % 6)) = 0 then lX2_litAheadOf_2 t mm m (nI i) (nI (b + 1)) else some (nI ((i + 6 - b) % 6)) := by
      by_cases c : i < b
      · have e2 : i + 6 - b = (i + 6 - b) % 6 := by omega
        simp (disch := omega) only [z_nn2, z0, z1, z2, z3, z4, z5, z6, z7, z8, z9, z10, z11, z12, z13, z14, z15, z16, z17, z18, z19, z20, z23, z24, z28, z31, z32, z33, z45, z46, z47, z48, z52, z57, z60, z63, z65, z70, z80, z95, z100, z126, z127, z128, z200, z240, z255, z400, z480, z500, z840, z1023, z2000, z99999, z1073741824, z_nn, z_add, z_sub, z_mul, z_div, z_rem, z_cl, z_in, z_chk, z_chkp, z_bnd, z_bn2, z_wth, z_bxr, z_bxl, z_bx2r, z_bx2l, z_bz0, z_bz1, z_mx, z_mn, z_tb1, z_tb0, z_eq, z_le, z_lt, z_nn_lt, z_nn_le, z_nn_ge, z_nn_gt, z_nn_eq, z_nn_eq2, z_bit, z_wow, z_wo, z_or, z_shl, z_if, z_ifn, fbit, if_true, if_false, Nat.zero_add, Nat.add_zero, not_false_iff, not_true, z_subadd]
        rw [← e2] at ho hT ⊢
        simp (disch := omega) only [z_nn2, z0, z1, z2, z3, z4, z5, z6, z7, z8, z9, z10, z11, z12, z13, z14, z15, z16, z17, z18, z19, z20, z23, z24, z28, z31, z32, z33, z45, z46, z47, z48, z52, z57, z60, z63, z65, z70, z80, z95, z100, z126, z127, z128, z200, z240, z255, z400, z480, z500, z840, z1023, z2000, z99999, z1073741824, z_nn, z_add, z_sub, z_mul, z_div, z_rem, z_cl, z_in, z_chk, z_chkp, z_bnd, z_bn2, z_wth, z_bxr, z_bxl, z_bx2r, z_bx2l, z_bz0, z_bz1, z_mx, z_mn, z_tb1, z_tb0, z_eq, z_le, z_lt, z_nn_lt, z_nn_le, z_nn_ge, z_nn_gt, z_nn_eq, z_nn_eq2, z_bit, z_wow, z_wo, z_or, z_shl, z_if, z_ifn, fbit, if_true, if_false, Nat.zero_add, Nat.add_zero, not_false_iff, not_true, h.time]
        by_cases c2 : A (10 + 4 * (i + 6 - b)) = 0
        · rw [if_pos (by omega), if_pos c2]
        · rw [if_neg (by omega), if_neg c2]
      · have e2 : i - b = (i + 6 - b) % 6 := by omega
        simp (disch := omega) only [z_nn2, z0, z1, z2, z3, z4, z5, z6, z7, z8, z9, z10, z11, z12, z13, z14, z15, z16, z17, z18, z19, z20, z23, z24, z28, z31, z32, z33, z45, z46, z47, z48, z52, z57, z60, z63, z65, z70, z80, z95, z100, z126, z127, z128, z200, z240, z255, z400, z480, z500, z840, z1023, z2000, z99999, z1073741824, z_nn, z_add, z_sub, z_mul, z_div, z_rem, z_cl, z_in, z_chk, z_chkp, z_bnd, z_bn2, z_wth, z_bxr, z_bxl, z_bx2r, z_bx2l, z_bz0, z_bz1, z_mx, z_mn, z_tb1, z_tb0, z_eq, z_le, z_lt, z_nn_lt, z_nn_le, z_nn_ge, z_nn_gt, z_nn_eq, z_nn_eq2, z_bit, z_wow, z_wo, z_or, z_shl, z_if, z_ifn, fbit, if_true, if_false, Nat.zero_add, Nat.add_zero, not_false_iff, not_true]
        rw [← e2] at ho hT ⊢
        simp (disch := omega) only [z_nn2, z0, z1, z2, z3, z4, z5, z6, z7, z8, z9, z10, z11, z12, z13, z14, z15, z16, z17, z18, z19, z20, z23, z24, z28, z31, z32, z33, z45, z46, z47, z48, z52, z57, z60, z63, z65, z70, z80, z95, z100, z126, z127, z128, z200, z240, z255, z400, z480, z500, z840, z1023, z2000, z99999, z1073741824, z_nn, z_add, z_sub, z_mul, z_div, z_rem, z_cl, z_in, z_chk, z_chkp, z_bnd, z_bn2, z_wth, z_bxr, z_bxl, z_bx2r, z_bx2l, z_bz0, z_bz1, z_mx, z_mn, z_tb1, z_tb0, z_eq, z_le, z_lt, z_nn_lt, z_nn_le, z_nn_ge, z_nn_gt, z_nn_eq, z_nn_eq2, z_bit, z_wow, z_wo, z_or, z_shl, z_if, z_ifn, fbit, if_true, if_false, Nat.zero_add, Nat.add_zero, not_false_iff, not_true, h.time]
        by_cases c2 : A (10 + 4 * (i - b)) = 0
        · rw [if_pos (by omega), if_pos c2]
        · rw [if_neg (by omega), if_neg c2]
    rw [if_neg (show ¬ (6 : Int32) ≤ nI b by rw [z6, z_le (by omega) (by omega)]; omega), e]
    by_cases c : A (10 + 4 * ((i + 6 - b) % 6)) = 0
    · rw [if_pos c, if_pos c]
      exact ih (b + 1) m (by omega) (by omega) (by omega)
    · rw [if_neg c, if_neg c, if_neg (by omega)]
theorem fahead {t : Nat} {A : Nat → Nat} {mm : gM} (h : CS t A mm) (w : WF A) {i : Nat} (hi : i < 6) : fX2_litAheadOf t (nI i) mm = some (if ahd A i = i then nn else nI (ahd A i)) := fahead_s h w hi 5 1 FU rfl (by decide) (by decide)
theorem fahead6_s {A : Nat → Nat} {mm : gM} (h : RMq A mm) (w : WF A) {i : Nat} (hi : i < 6) : ∀ k b n, b + k = 6 → 1 ≤ b → k < n → lX6_slotAhead_10 mm n (nI i) (nI ((i + 6 - b) % 6)) = some (nI (ahs A i k b)) := by
  intro k
  induction k with
  | zero =>
    intro b n hb h1 hn
    obtain ⟨m, rfl⟩ : ∃ m, n = m + 1 := ⟨n - 1, by omega⟩
    rw [lX6_slotAhead_10_s]
    simp (disch := omega) only [z_nn2, z0, z1, z2, z3, z4, z5, z6, z7, z8, z9, z10, z11, z12, z13, z14, z15, z16, z17, z18, z19, z20, z23, z24, z28, z31, z32, z33, z45, z46, z47, z48, z52, z57, z60, z63, z65, z70, z80, z95, z100, z126, z127, z128, z200, z240, z255, z400, z480, z500, z840, z1023, z2000, z99999, z1073741824, z_nn, z_add, z_sub, z_mul, z_div, z_rem, z_cl, z_in, z_chk, z_chkp, z_bnd, z_bn2, z_wth, z_bxr, z_bxl, z_bx2r, z_bx2l, z_bz0, z_bz1, z_mx, z_mn, z_tb1, z_tb0, z_eq, z_le, z_lt, z_nn_lt, z_nn_le, z_nn_ge, z_nn_gt, z_nn_eq, z_nn_eq2, z_bit, z_wow, z_wo, z_or, z_shl, z_if, z_ifn, fbit, if_true, if_false, Nat.zero_add, Nat.add_zero, not_false_iff, not_true, ahs, jX6_slotAhead_37]
    exact congrArg some (congrArg nI (by omega))
  | succ k ih =>
    intro b n hb h1 hn
    obtain ⟨m, rfl⟩ : ∃ m, n = m + 1 := ⟨n - 1, by omega⟩
    have ho : (i + 6 - b) % 6 < 6 := Nat.mod_lt _ (by decide)
    have hT := w.time ho
    rw [lX6_slotAhead_10_s]
    unfold jX6_slotAhead_37 ahs
    simp (disch := omega) only [z_nn2, z0, z1, z2, z3, z4, z5, z6, z7, z8, z9, z10, z11, z12, z13, z14, z15, z16, z17, z18, z19, z20, z23, z24, z28, z31, z32, z33, z45, z46, z47, z48, z52, z57, z60, z63, z65, z70, z80, z95, z100, z126, z127, z128, z200, z240, z255, z400, z480, z500, z840, z1023, z2000, z99999, z1073741824, z_nn, z_add, z_sub, z_mul, z_div, z_rem, z_cl, z_in, z_chk, z_chkp, z_bnd, z_bn2, z_wth, z_bxr, z_bxl, z_bx2r, z_bx2l, z_bz0, z_bz1, z_mx, z_mn, z_tb1, z_tb0, z_eq, z_le, z_lt, z_nn_lt, z_nn_le, z_nn_ge, z_nn_gt, z_nn_eq, z_nn_eq2, z_bit, z_wow, z_wo, z_or, z_shl, z_if, z_ifn, fbit, if_true, if_false, Nat.zero_add, Nat.add_zero, not_false_iff, not_true, fof h, show 8 + 4 * ((i + 6 - b) % 6) + 2 = 10 + 4 * ((i + 6 - b) % 6) by omega]
    by_cases c : A (10 + 4 * ((i + 6 - b) % 6)) = 0
    · rw [if_pos c, if_pos c, ← ih (b + 1) m (by omega) (by omega) (by omega)]
      congr 2
      omega
    · rw [if_neg c, if_neg c]
theorem fahead6 {A : Nat → Nat} {mm : gM} (h : RMq A mm) (w : WF A) {i : Nat} (hi : i < 6) : fX6_slotAhead (nI i) mm = some (nI (ahd A i)) := by
  unfold fX6_slotAhead
  simp (disch := omega) only [z_nn2, z0, z1, z2, z3, z4, z5, z6, z7, z8, z9, z10, z11, z12, z13, z14, z15, z16, z17, z18, z19, z20, z23, z24, z28, z31, z32, z33, z45, z46, z47, z48, z52, z57, z60, z63, z65, z70, z80, z95, z100, z126, z127, z128, z200, z240, z255, z400, z480, z500, z840, z1023, z2000, z99999, z1073741824, z_nn, z_add, z_sub, z_mul, z_div, z_rem, z_cl, z_in, z_chk, z_chkp, z_bnd, z_bn2, z_wth, z_bxr, z_bxl, z_bx2r, z_bx2l, z_bz0, z_bz1, z_mx, z_mn, z_tb1, z_tb0, z_eq, z_le, z_lt, z_nn_lt, z_nn_le, z_nn_ge, z_nn_gt, z_nn_eq, z_nn_eq2, z_bit, z_wow, z_wo, z_or, z_shl, z_if, z_ifn, fbit, if_true, if_false, Nat.zero_add, Nat.add_zero, not_false_iff, not_true]
  exact fahead6_s h w hi 5 1 FU rfl (by decide) (by decide)
def bg (A : Nat → Nat) (i : Nat) : Nat := en A (i + 1) - A (10 + 4 * i)
def ed (A : Nat → Nat) (i : Nat) : Nat := en A (i + 1)
def gh (A : Nat → Nat) (i : Nat) : Nat := if A 0 = 0 then (if ahd A i = i then 0 else wo (wkq A (ahd A i)) (A (11 + 4 * i))) else 0
def gq (A : Nat → Nat) (i : Nat) : Nat := if A 0 = 0 then (if ahd A i = i then 0 else lfq A (wkq A (ahd A i)) / 4) else 0
theorem gh_lt {A : Nat → Nat} (w : WF A) {i : Nat} (hi : i < 6) : gh A i < 256 := by
  unfold gh
  split
  · split
    · decide
    · exact wo_lt (wk_lt w (ahd_lt A hi))
  · decide
theorem gq_le {A : Nat → Nat} (w : WF A) (i : Nat) : gq A i ≤ 2000 := by
  unfold gq
  have h := lf_le w (wkq A (ahd A i))
  split
  · split
    · decide
    · omega
  · decide
theorem time_le_ed {A : Nat → Nat} (i : Nat) : A (10 + 4 * i) ≤ en A (i + 1) := by
  show _ ≤ en A i + tk A i
  unfold tk
  split <;> omega
/-- the cells of a turn hold what is so of slot i -/
def TSq (t2 : Nat) (A : Nat → Nat) (i : Nat) (mm : gM) : Prop :=
  gi mm 11 t2 0 = nI (rt A) ∧ gi mm 11 t2 1 = nI (bg A i) ∧ gi mm 11 t2 2 = nI (ed A i) ∧ gi mm 11 t2 3 = nI (wkq A i) ∧ gi mm 11 t2 4 = nI (lfq A (wkq A i)) ∧ gi mm 11 t2 5 = nI (gh A i) ∧ gi mm 11 t2 6 = nI (gq A i) ∧ gi mm 11 t2 7 = nI (A 2)
def PTq (t2 : Nat) : Nat → Nat → Bool := fun c t => c == 11 && t == t2
theorem PT_self (t2 : Nat) : PTq t2 11 t2 = true := by unfold PTq; simp
theorem CS_si {t : Nat} {A : Nat → Nat} {m : gM} {c t1 i : Nat} {v : Int32} (hc : 6 ≤ c) (h : CS t A m) : CS t A (si m c t1 i v) := by
  refine h.fr (P := fun c1 _ => c1 == c) (Frq.si (by simp)) (fun c1 h1 => ?_)
  simp
  omega
theorem RM_si {A : Nat → Nat} {m : gM} {c t1 i : Nat} {v : Int32} (hc : c ≠ 22) (h : RMq A m) : RMq A (si m c t1 i v) := by
  refine h.fr (P := fun c1 _ => c1 == c) (Frq.si (by simp)) ?_
  simp
  omega
theorem ftake_end {t t2 : Nat} {A : Nat → Nat} {mm : gM} (h : CS t A mm) (w : WF A) {i : Nat} (hi : i < 6) (h0 : gi mm 11 t2 0 = nI (rt A)) (h2 : gi mm 11 t2 2 = nI (ed A i)) : ∃ m1, jX4_take_40 t2 t (nI i) mm = some m1 ∧ Frq (PTq t2) mm m1 ∧ TSq t2 A i m1 := by
  have fw : ∀ m, CS t A m → ∀ i, i < 6 → fX2_works t (nI i) m = some (nI (wkq A i)) := fun m h i hi => fworks h w hi
  have fli : ∀ m, CS t A m → ∀ x, x < 256 → fX2_lightFor t (nI x) m = some (nI (lfq A x)) := fun m h x hx => flight h w hx
  have fah : ∀ m, CS t A m → fX2_litAheadOf t (nI i) m = some (if ahd A i = i then nn else nI (ahd A i)) := fun m h => fahead h w hi
  have cset : ∀ m, CS t A m → ∀ j, j < 4 → gi m 5 t j = nI (A j) := fun m h j hj => h.set hj
  have ctim : ∀ m, CS t A m → ∀ j, j < 6 → gi m 3 t j = nI (A (10 + 4 * j)) := fun m h j hj => h.time hj
  have cbur : ∀ m, CS t A m → ∀ j, j < 6 → gi m 2 t j = nI (A (11 + 4 * j)) := fun m h j hj => h.burnt hj
  have hwk := wk_lt w hi
  have hah := ahd_lt A hi
  have hwa := wk_lt w hah
  have hw := w.wd
  have hte := time_le_ed (A := A) i
  have hle := lf_le w (wkq A i)
  have hle2 := lf_le w (wkq A (ahd A i))
  have hed : ed A i = en A (i + 1) := rfl
  have hbg : ed A i - A (10 + 4 * i) = bg A i := rfl
  unfold jX4_take_40
  simp (disch := first | ((repeat refine CS_si (by decide) ?_); assumption) | omega) only [z_nn2, z0, z1, z2, z3, z4, z5, z6, z7, z8, z9, z10, z11, z12, z13, z14, z15, z16, z17, z18, z19, z20, z23, z24, z28, z31, z32, z33, z45, z46, z47, z48, z52, z57, z60, z63, z65, z70, z80, z95, z100, z126, z127, z128, z200, z240, z255, z400, z480, z500, z840, z1023, z2000, z99999, z1073741824, z_nn, z_add, z_sub, z_mul, z_div, z_rem, z_cl, z_in, z_chk, z_chkp, z_bnd, z_bn2, z_wth, z_bxr, z_bxl, z_bx2r, z_bx2l, z_bz0, z_bz1, z_mx, z_mn, z_tb1, z_tb0, z_eq, z_le, z_lt, z_nn_lt, z_nn_le, z_nn_ge, z_nn_gt, z_nn_eq, z_nn_eq2, z_bit, z_wow, z_wo, z_or, z_shl, z_if, z_ifn, fbit, if_true, if_false, Nat.zero_add, Nat.add_zero, not_false_iff, not_true, ctim, h2, hbg, fw, fli, fah, cset, cbur]
  have g1 : gi (si (si mm 11 t2 1 (nI (bg A i))) 11 t2 3 (nI (wkq A i))) 11 t2 3 = nI (wkq A i) := by
    rw [gi_si, if_pos ⟨rfl, rfl, rfl⟩]
  rw [g1]
  simp (disch := first | ((repeat refine CS_si (by decide) ?_); assumption) | omega) only [z_nn2, z0, z1, z2, z3, z4, z5, z6, z7, z8, z9, z10, z11, z12, z13, z14, z15, z16, z17, z18, z19, z20, z23, z24, z28, z31, z32, z33, z45, z46, z47, z48, z52, z57, z60, z63, z65, z70, z80, z95, z100, z126, z127, z128, z200, z240, z255, z400, z480, z500, z840, z1023, z2000, z99999, z1073741824, z_nn, z_add, z_sub, z_mul, z_div, z_rem, z_cl, z_in, z_chk, z_chkp, z_bnd, z_bn2, z_wth, z_bxr, z_bxl, z_bx2r, z_bx2l, z_bz0, z_bz1, z_mx, z_mn, z_tb1, z_tb0, z_eq, z_le, z_lt, z_nn_lt, z_nn_le, z_nn_ge, z_nn_gt, z_nn_eq, z_nn_eq2, z_bit, z_wow, z_wo, z_or, z_shl, z_if, z_ifn, fbit, if_true, if_false, Nat.zero_add, Nat.add_zero, not_false_iff, not_true, ctim, h2, hbg, fw, fli, fah, cset, cbur]
  by_cases c0 : A 0 = 0
  · rw [if_pos c0]
    by_cases c1 : ahd A i = i
    · simp only [c1, if_true]
      refine ⟨_, rfl, ?_, ?_⟩
      · repeat' first | exact (Frq.si (PT_self t2)) | refine Frq.tr ?_ (Frq.si (PT_self t2))
      · have e1 : gh A i = 0 := by unfold gh; rw [if_pos c0, if_pos c1]
        have e2 : gq A i = 0 := by unfold gq; rw [if_pos c0, if_pos c1]
        refine ⟨?_, ?_, ?_, ?_, ?_, ?_, ?_, ?_⟩ <;> simp (disch := omega) only [gi_si, z_if, z_ifn, and_self, if_true, h0, h2, e1, e2]
    · rw [if_neg c1]
      simp (disch := first | ((repeat refine CS_si (by decide) ?_); assumption) | omega) only [z_nn2, z0, z1, z2, z3, z4, z5, z6, z7, z8, z9, z10, z11, z12, z13, z14, z15, z16, z17, z18, z19, z20, z23, z24, z28, z31, z32, z33, z45, z46, z47, z48, z52, z57, z60, z63, z65, z70, z80, z95, z100, z126, z127, z128, z200, z240, z255, z400, z480, z500, z840, z1023, z2000, z99999, z1073741824, z_nn, z_add, z_sub, z_mul, z_div, z_rem, z_cl, z_in, z_chk, z_chkp, z_bnd, z_bn2, z_wth, z_bxr, z_bxl, z_bx2r, z_bx2l, z_bz0, z_bz1, z_mx, z_mn, z_tb1, z_tb0, z_eq, z_le, z_lt, z_nn_lt, z_nn_le, z_nn_ge, z_nn_gt, z_nn_eq, z_nn_eq2, z_bit, z_wow, z_wo, z_or, z_shl, z_if, z_ifn, fbit, if_true, if_false, Nat.zero_add, Nat.add_zero, not_false_iff, not_true, ctim, h2, hbg, fw, fli, fah, cset, cbur]
      refine ⟨_, rfl, ?_, ?_⟩
      · repeat' first | exact (Frq.si (PT_self t2)) | refine Frq.tr ?_ (Frq.si (PT_self t2))
      · have e1 : gh A i = wo (wkq A (ahd A i)) (A (11 + 4 * i)) := by unfold gh; rw [if_pos c0, if_neg c1]
        have e2 : gq A i = lfq A (wkq A (ahd A i)) / 4 := by unfold gq; rw [if_pos c0, if_neg c1]
        refine ⟨?_, ?_, ?_, ?_, ?_, ?_, ?_, ?_⟩ <;> simp (disch := omega) only [gi_si, z_if, z_ifn, and_self, if_true, h0, h2, e1, e2]
  · rw [if_neg c0]
    refine ⟨_, rfl, ?_, ?_⟩
    · repeat' first | exact (Frq.si (PT_self t2)) | refine Frq.tr ?_ (Frq.si (PT_self t2))
    · have e1 : gh A i = 0 := by unfold gh; rw [if_neg c0]
      have e2 : gq A i = 0 := by unfold gq; rw [if_neg c0]
      refine ⟨?_, ?_, ?_, ?_, ?_, ?_, ?_, ?_⟩ <;> simp (disch := omega) only [gi_si, z_if, z_ifn, and_self, if_true, h0, h2, e1, e2]
theorem ftake {t t2 : Nat} {A : Nat → Nat} {mm : gM} (h : CS t A mm) (w : WF A) {i : Nat} (hi : i < 6) : ∃ m1, fX4_take t2 t (nI i) mm = some m1 ∧ Frq (PTq t2) mm m1 ∧ TSq t2 A i m1 := by
  unfold fX4_take
  rw [frt h w]
  simp only [z_bnd, z_wth, z0]
  refine loop_ex (fun n x3 m => lX4_take_15 t2 t n (nI i) (nI x3) m) (fun x3 m => Frq (PTq t2) mm m ∧ gi m 11 t2 0 = nI (rt A) ∧ gi m 11 t2 2 = nI (en A x3)) (fun o => ∃ m1, o = some m1 ∧ Frq (PTq t2) mm m1 ∧ TSq t2 A i m1) (i + 1) (fun n x3 m hx hI => ?_) (fun n m hI => ?_) FU 0 _ (by omega) (by unfold FU; omega) ⟨?_, ?_, ?_⟩
  · obtain ⟨hf, g0, g2⟩ := hI
    have hm : CS t A m := h.fr hf (fun c hc => by unfold PTq; simp; omega)
    refine ⟨si m 11 t2 2 (nI (en A x3 + tk A x3)), ⟨hf.tr (Frq.si (PT_self t2)), ?_, ?_⟩, ?_⟩
    rotate_left 2
    · show lX4_take_15 t2 t (n + 1) (nI i) (nI x3) m = lX4_take_15 t2 t n (nI i) (nI (x3 + 1)) (si m 11 t2 2 (nI (en A x3 + tk A x3)))
      rw [lX4_take_15_s]
      simp (disch := omega) only [z_nn2, z0, z1, z2, z3, z4, z5, z6, z7, z8, z9, z10, z11, z12, z13, z14, z15, z16, z17, z18, z19, z20, z23, z24, z28, z31, z32, z33, z45, z46, z47, z48, z52, z57, z60, z63, z65, z70, z80, z95, z100, z126, z127, z128, z200, z240, z255, z400, z480, z500, z840, z1023, z2000, z99999, z1073741824, z_nn, z_add, z_sub, z_mul, z_div, z_rem, z_cl, z_in, z_chk, z_chkp, z_bnd, z_bn2, z_wth, z_bxr, z_bxl, z_bx2r, z_bx2l, z_bz0, z_bz1, z_mx, z_mn, z_tb1, z_tb0, z_eq, z_le, z_lt, z_nn_lt, z_nn_le, z_nn_ge, z_nn_gt, z_nn_eq, z_nn_eq2, z_bit, z_wow, z_wo, z_or, z_shl, z_if, z_ifn, fbit, if_true, if_false, Nat.zero_add, Nat.add_zero, not_false_iff, not_true, ftk hm w, g2]
    · simp (disch := omega) only [gi_si, z_if, z_ifn, and_self, if_true, g0]
    · simp (disch := omega) only [gi_si, z_if, z_ifn, and_self, if_true]
      rfl
  · obtain ⟨hf, g0, g2⟩ := hI
    have hm : CS t A m := h.fr hf (fun c hc => by unfold PTq; simp; omega)
    rw [lX4_take_15_s]
    simp (disch := omega) only [z_nn2, z0, z1, z2, z3, z4, z5, z6, z7, z8, z9, z10, z11, z12, z13, z14, z15, z16, z17, z18, z19, z20, z23, z24, z28, z31, z32, z33, z45, z46, z47, z48, z52, z57, z60, z63, z65, z70, z80, z95, z100, z126, z127, z128, z200, z240, z255, z400, z480, z500, z840, z1023, z2000, z99999, z1073741824, z_nn, z_add, z_sub, z_mul, z_div, z_rem, z_cl, z_in, z_chk, z_chkp, z_bnd, z_bn2, z_wth, z_bxr, z_bxl, z_bx2r, z_bx2l, z_bz0, z_bz1, z_mx, z_mn, z_tb1, z_tb0, z_eq, z_le, z_lt, z_nn_lt, z_nn_le, z_nn_ge, z_nn_gt, z_nn_eq, z_nn_eq2, z_bit, z_wow, z_wo, z_or, z_shl, z_if, z_ifn, fbit, if_true, if_false, Nat.zero_add, Nat.add_zero, not_false_iff, not_true]
    obtain ⟨m1, e1, e2, e3⟩ := ftake_end hm w hi g0 g2
    exact ⟨m1, e1, hf.tr e2, e3⟩
  · exact (Frq.si (PT_self t2)).tr (Frq.si (PT_self t2))
  · simp (disch := omega) only [gi_si, z_if, z_ifn, and_self, if_true]
  · simp (disch := omega) only [gi_si, z_if, z_ifn, and_self, if_true]
    rfl
/-- the glow of a segment behind a tick of a round -/
def gs (A : Nat → Nat) (i k tick g : Nat) : Nat := max (max (g - g / A 2 - 1) (if bg A i ≤ tick ∧ tick < ed A i ∧ tbq (wkq A i) k = 1 then lfq A (wkq A i) else 0)) (if tick = bg A i ∧ bg A i < ed A i ∧ tbq (gh A i) k = 1 then gq A i else 0)
theorem gs_le {A : Nat → Nat} (w : WF A) {i k tick g : Nat} (hg : g ≤ 2000) : gs A i k tick g ≤ 2000 := by
  have h1 := lf_le w (wkq A i)
  have h2 := gq_le w i
  unfold gs
  refine Nat.max_le.mpr ⟨Nat.max_le.mpr ⟨Nat.le_trans (Nat.sub_le _ _) (Nat.le_trans (Nat.sub_le _ _) hg), ?_⟩, ?_⟩
  · split
    · exact h1
    · omega
  · split
    · exact h2
    · omega
theorem z_mx1 {a : Nat} (ha : a < 2147483648) : mx (nI 0) (nI a - nI 1) = nI (a - 1) := by
  by_cases h : a = 0
  · subst h; decide
  · rw [z_sub (by omega), z_mx (by omega) (by omega), Nat.max_eq_right (Nat.zero_le _)]
theorem fglow {t2 : Nat} {A : Nat → Nat} {mm : gM} (w : WF A) {i k tick g : Nat} (hi : i < 6) (hT : TSq t2 A i mm) (hk : k < 8) (hg : g ≤ 2000) (ht : tick < 2147483648) : fX4_glowBehind t2 (nI tick) (nI g) (nI k) mm = some (nI (gs A i k tick g)) := by
  obtain ⟨-, h1, h2, h3, h4, h5, h6, h7⟩ := hT
  have hw := w.wd
  have hwk := wk_lt w hi
  have hgh := gh_lt w hi
  have hle := lf_le w (wkq A i)
  have hgq := gq_le w i
  have hrt := en_le w (i + 1) (by omega)
  have hed : ed A i = en A (i + 1) := rfl
  have hbg : bg A i ≤ ed A i := Nat.sub_le _ _
  have hd : g / A 2 ≤ g := Nat.div_le_self _ _
  have hd2 : g - g / A 2 ≤ 2000 := Nat.le_trans (Nat.sub_le _ _) hg
  have hx1 : g - g / A 2 - 1 ≤ 2000 := Nat.le_trans (Nat.sub_le _ _) hd2
  unfold fX4_glowBehind jX4_glowBehind_21
  simp (disch := omega) only [z_nn2, z0, z1, z2, z3, z4, z5, z6, z7, z8, z9, z10, z11, z12, z13, z14, z15, z16, z17, z18, z19, z20, z23, z24, z28, z31, z32, z33, z45, z46, z47, z48, z52, z57, z60, z63, z65, z70, z80, z95, z100, z126, z127, z128, z200, z240, z255, z400, z480, z500, z840, z1023, z2000, z99999, z1073741824, z_nn, z_add, z_sub, z_mul, z_div, z_rem, z_cl, z_in, z_chk, z_chkp, z_bnd, z_bn2, z_wth, z_bxr, z_bxl, z_bx2r, z_bx2l, z_bz0, z_bz1, z_mx, z_mn, z_tb1, z_tb0, z_eq, z_le, z_lt, z_nn_lt, z_nn_le, z_nn_ge, z_nn_gt, z_nn_eq, z_nn_eq2, z_bit, z_wow, z_wo, z_or, z_shl, z_if, z_ifn, fbit, if_true, if_false, Nat.zero_add, Nat.add_zero, not_false_iff, not_true, h1, h2, h3, h4, h5, h6, h7, z_mx1]
  have key : ∀ x, x ≤ 2000 → jX4_glowBehind_70 t2 mm (nI tick) (nI k) (nI x) = some (nI (max x (if tick = bg A i ∧ bg A i < ed A i ∧ tbq (gh A i) k = 1 then gq A i else 0))) := by
    intro x hx
    unfold jX4_glowBehind_70 jX4_glowBehind_112
    simp (disch := omega) only [z_nn2, z0, z1, z2, z3, z4, z5, z6, z7, z8, z9, z10, z11, z12, z13, z14, z15, z16, z17, z18, z19, z20, z23, z24, z28, z31, z32, z33, z45, z46, z47, z48, z52, z57, z60, z63, z65, z70, z80, z95, z100, z126, z127, z128, z200, z240, z255, z400, z480, z500, z840, z1023, z2000, z99999, z1073741824, z_nn, z_add, z_sub, z_mul, z_div, z_rem, z_cl, z_in, z_chk, z_chkp, z_bnd, z_bn2, z_wth, z_bxr, z_bxl, z_bx2r, z_bx2l, z_bz0, z_bz1, z_mx, z_mn, z_tb1, z_tb0, z_eq, z_le, z_lt, z_nn_lt, z_nn_le, z_nn_ge, z_nn_gt, z_nn_eq, z_nn_eq2, z_bit, z_wow, z_wo, z_or, z_shl, z_if, z_ifn, fbit, if_true, if_false, Nat.zero_add, Nat.add_zero, not_false_iff, not_true, h1, h2, h3, h4, h5, h6, h7]
    by_cases c1 : tick = bg A i
    · by_cases c2 : ed A i ≤ bg A i
      · rw [if_pos c1, if_pos c2, if_neg (by omega), Nat.max_eq_left (by omega)]
      · by_cases c3 : tbq (gh A i) k = 1
        · rw [if_pos c1, if_neg c2, if_pos c3, if_pos ⟨c1, by omega, c3⟩]
        · rw [if_pos c1, if_neg c2, if_neg c3, if_neg (fun z => c3 z.2.2), Nat.max_eq_left (by omega)]
    · rw [if_neg c1, if_neg (fun z => c1 z.1), Nat.max_eq_left (by omega)]
  unfold gs
  by_cases c1 : tick < bg A i
  · rw [if_pos c1, key _ hx1, if_neg (show ¬ (bg A i ≤ tick ∧ tick < ed A i ∧ tbq (wkq A i) k = 1) from fun z => by omega), Nat.max_eq_left (Nat.zero_le _)]
  · rw [if_neg c1]
    by_cases c2 : ed A i ≤ tick
    · rw [if_pos c2, key _ hx1, if_neg (show ¬ (bg A i ≤ tick ∧ tick < ed A i ∧ tbq (wkq A i) k = 1) from fun z => by omega), Nat.max_eq_left (Nat.zero_le _)]
    · rw [if_neg c2]
      by_cases c3 : tbq (wkq A i) k = 1
      · rw [if_pos c3, key _ (by omega), if_pos (show bg A i ≤ tick ∧ tick < ed A i ∧ tbq (wkq A i) k = 1 from ⟨by omega, by omega, c3⟩)]
      · rw [if_neg c3, key _ hx1, if_neg (show ¬ (bg A i ≤ tick ∧ tick < ed A i ∧ tbq (wkq A i) k = 1) from fun z => c3 z.2.2), Nat.max_eq_left (Nat.zero_le _)]
