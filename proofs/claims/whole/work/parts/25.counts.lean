/-! NUMBERS that are told of a state -/
theorem bg_eq {A : Nat → Nat} {s tick : Nat} (h1 : en A s ≤ tick) (h2 : tick < en A (s + 1)) : bg A s = en A s + A 0 ∧ tk A s = A 0 + A (10 + 4 * s) := by
  have h2' : tick < en A s + tk A s := h2
  have htk : tk A s = A 0 + A (10 + 4 * s) := by
    unfold tk at h2' ⊢
    split at h2'
    · omega
    · rw [if_neg (by assumption)]
  refine ⟨?_, htk⟩
  show en A s + tk A s - A (10 + 4 * s) = _
  omega
theorem flitIn {t : Nat} {A : Nat → Nat} {mm : gM} (h : CS t A mm) (w : WF A) {s tick : Nat} (hs : s < 6) (h1 : en A s ≤ tick) (h2 : tick < en A (s + 1)) : fX2_litIn t (nI tick) mm = some (if tick < bg A s then nn else nI s) := by
  have h3 := en_le w (s + 1) (by omega)
  refine loop_up (fun n j => lX2_litIn_4 t mm n (nI tick) (nI (en A j)) (nI j)) _ s (fun n j hj => ?_) (fun n => ?_) FU 0 (Nat.zero_le _) (by unfold FU; omega)
  · have h4 := en_mono A (i := j + 1) (j := s) (by omega)
    have h5 : en A (j + 1) = en A j + tk A j := rfl
    rw [lX2_litIn_4_s]
    simp (disch := omega) only [z_nn2, z0, z1, z2, z3, z4, z5, z6, z7, z8, z9, z10, z11, z12, z13, z14, z15, z16, z17, z18, z19, z20, z23, z24, z28, z31, z32, z33, z45, z46, z47, z48, z52, z57, z60, z63, z65, z70, z80, z95, z100, z126, z127, z128, z200, z240, z255, z400, z480, z500, z840, z1023, z2000, z99999, z1073741824, z_nn, z_add, z_sub, z_mul, z_div, z_rem, z_cl, z_in, z_chk, z_chkp, z_bnd, z_bn2, z_wth, z_bxr, z_bxl, z_bx2r, z_bx2l, z_bz0, z_bz1, z_mx, z_mn, z_tb1, z_tb0, z_eq, z_le, z_lt, z_nn_lt, z_nn_le, z_nn_ge, z_nn_gt, z_nn_eq, z_nn_eq2, z_bit, z_wow, z_wo, z_or, z_shl, z_if, z_ifn, fbit, if_true, if_false, Nat.zero_add, Nat.add_zero, not_false_iff, not_true, ftk h w, h5]
  · have h5 : en A (s + 1) = en A s + tk A s := rfl
    have h6 := time_le_ed (A := A) s
    have h7 : en A s + tk A s - A (10 + 4 * s) = bg A s := rfl
    have h8 : bg A s ≤ en A (s + 1) := Nat.sub_le _ _
    rw [lX2_litIn_4_s]
    simp (disch := omega) only [z_nn2, z0, z1, z2, z3, z4, z5, z6, z7, z8, z9, z10, z11, z12, z13, z14, z15, z16, z17, z18, z19, z20, z23, z24, z28, z31, z32, z33, z45, z46, z47, z48, z52, z57, z60, z63, z65, z70, z80, z95, z100, z126, z127, z128, z200, z240, z255, z400, z480, z500, z840, z1023, z2000, z99999, z1073741824, z_nn, z_add, z_sub, z_mul, z_div, z_rem, z_cl, z_in, z_chk, z_chkp, z_bnd, z_bn2, z_wth, z_bxr, z_bxl, z_bx2r, z_bx2l, z_bz0, z_bz1, z_mx, z_mn, z_tb1, z_tb0, z_eq, z_le, z_lt, z_nn_lt, z_nn_le, z_nn_ge, z_nn_gt, z_nn_eq, z_nn_eq2, z_bit, z_wow, z_wo, z_or, z_shl, z_if, z_ifn, fbit, if_true, if_false, Nat.zero_add, Nat.add_zero, not_false_iff, not_true, ftk h w, jX2_litIn_23, h.time, h7]
    split <;> rfl
theorem flitIn0 {t : Nat} {A : Nat → Nat} {mm : gM} (h : CS t A mm) (w : WF A) {tick : Nat} (h1 : rt A ≤ tick) (h2 : tick < 2147483648) : fX2_litIn t (nI tick) mm = some nn := by
  refine loop_up (fun n j => lX2_litIn_4 t mm n (nI tick) (nI (en A j)) (nI j)) _ 6 (fun n j hj => ?_) (fun n => ?_) FU 0 (Nat.zero_le _) (by decide)
  · have h4 := en_mono A (i := j + 1) (j := 6) (by omega)
    have h5 : en A (j + 1) = en A j + tk A j := rfl
    have h6 : rt A = en A 6 := rfl
    rw [lX2_litIn_4_s]
    simp (disch := omega) only [z_nn2, z0, z1, z2, z3, z4, z5, z6, z7, z8, z9, z10, z11, z12, z13, z14, z15, z16, z17, z18, z19, z20, z23, z24, z28, z31, z32, z33, z45, z46, z47, z48, z52, z57, z60, z63, z65, z70, z80, z95, z100, z126, z127, z128, z200, z240, z255, z400, z480, z500, z840, z1023, z2000, z99999, z1073741824, z_nn, z_add, z_sub, z_mul, z_div, z_rem, z_cl, z_in, z_chk, z_chkp, z_bnd, z_bn2, z_wth, z_bxr, z_bxl, z_bx2r, z_bx2l, z_bz0, z_bz1, z_mx, z_mn, z_tb1, z_tb0, z_eq, z_le, z_lt, z_nn_lt, z_nn_le, z_nn_ge, z_nn_gt, z_nn_eq, z_nn_eq2, z_bit, z_wow, z_wo, z_or, z_shl, z_if, z_ifn, fbit, if_true, if_false, Nat.zero_add, Nat.add_zero, not_false_iff, not_true, ftk h w, h5]
  · rw [lX2_litIn_4_s]
    simp (disch := omega) only [z_nn2, z0, z1, z2, z3, z4, z5, z6, z7, z8, z9, z10, z11, z12, z13, z14, z15, z16, z17, z18, z19, z20, z23, z24, z28, z31, z32, z33, z45, z46, z47, z48, z52, z57, z60, z63, z65, z70, z80, z95, z100, z126, z127, z128, z200, z240, z255, z400, z480, z500, z840, z1023, z2000, z99999, z1073741824, z_nn, z_add, z_sub, z_mul, z_div, z_rem, z_cl, z_in, z_chk, z_chkp, z_bnd, z_bn2, z_wth, z_bxr, z_bxl, z_bx2r, z_bx2l, z_bz0, z_bz1, z_mx, z_mn, z_tb1, z_tb0, z_eq, z_le, z_lt, z_nn_lt, z_nn_le, z_nn_ge, z_nn_gt, z_nn_eq, z_nn_eq2, z_bit, z_wow, z_wo, z_or, z_shl, z_if, z_ifn, fbit, if_true, if_false, Nat.zero_add, Nat.add_zero, not_false_iff, not_true]
/-- the position lies in the round -/
def WP (A : Nat → Nat) : Prop := A 6 = 0 ∨ A 6 < rt A
theorem fnext {A : Nat → Nat} (w : WF A) (wp : WP A) : ∃ v : Int32, (∀ m, CS 0 A m → fX2_litIn 0 (nI (A 6)) m = some v) ∧ ∀ m, RMq A m → fX6_nextLit m = some v := by
  have hR := rt_le w
  have hw := w.wd
  by_cases c : rt A = 0
  · refine ⟨nn, fun m h => flitIn0 h w (by omega) (by omega), fun m h => ?_⟩
    unfold fX6_nextLit
    simp (disch := omega) only [z_nn2, z0, z1, z2, z3, z4, z5, z6, z7, z8, z9, z10, z11, z12, z13, z14, z15, z16, z17, z18, z19, z20, z23, z24, z28, z31, z32, z33, z45, z46, z47, z48, z52, z57, z60, z63, z65, z70, z80, z95, z100, z126, z127, z128, z200, z240, z255, z400, z480, z500, z840, z1023, z2000, z99999, z1073741824, z_nn, z_add, z_sub, z_mul, z_div, z_rem, z_cl, z_in, z_chk, z_chkp, z_bnd, z_bn2, z_wth, z_bxr, z_bxl, z_bx2r, z_bx2l, z_bz0, z_bz1, z_mx, z_mn, z_tb1, z_tb0, z_eq, z_le, z_lt, z_nn_lt, z_nn_le, z_nn_ge, z_nn_gt, z_nn_eq, z_nn_eq2, z_bit, z_wow, z_wo, z_or, z_shl, z_if, z_ifn, fbit, if_true, if_false, Nat.zero_add, Nat.add_zero, not_false_iff, not_true, frt6 h w]
  · have h6 : A 6 < en A 6 := by rcases wp with e | e; (· show A 6 < rt A; omega); exact e
    obtain ⟨s, hs, h1, h2⟩ := slot_ex A 6 h6
    obtain ⟨h3, h4⟩ := bg_eq h1 h2
    have h5 : en A (s + 1) = en A s + tk A s := rfl
    have h7 := w.time hs
    refine ⟨_, fun m h => flitIn h w hs h1 h2, fun m h => ?_⟩
    unfold fX6_nextLit
    simp (disch := omega) only [z_nn2, z0, z1, z2, z3, z4, z5, z6, z7, z8, z9, z10, z11, z12, z13, z14, z15, z16, z17, z18, z19, z20, z23, z24, z28, z31, z32, z33, z45, z46, z47, z48, z52, z57, z60, z63, z65, z70, z80, z95, z100, z126, z127, z128, z200, z240, z255, z400, z480, z500, z840, z1023, z2000, z99999, z1073741824, z_nn, z_add, z_sub, z_mul, z_div, z_rem, z_cl, z_in, z_chk, z_chkp, z_bnd, z_bn2, z_wth, z_bxr, z_bxl, z_bx2r, z_bx2l, z_bz0, z_bz1, z_mx, z_mn, z_tb1, z_tb0, z_eq, z_le, z_lt, z_nn_lt, z_nn_le, z_nn_ge, z_nn_gt, z_nn_eq, z_nn_eq2, z_bit, z_wow, z_wo, z_or, z_shl, z_if, z_ifn, fbit, if_true, if_false, Nat.zero_add, Nat.add_zero, not_false_iff, not_true, frt6 h w, h 6, fslotAt h w hs h1 h2, h 0, show (100 * s + (A 6 - en A s)) / 100 = s by omega, show (100 * s + (A 6 - en A s)) % 100 = A 6 - en A s by omega]
    by_cases c2 : A 6 < bg A s
    · rw [if_pos (by omega), if_pos c2]
    · rw [if_neg (by omega), if_neg c2]
def LT (A : Nat → Nat) (i : Nat) : Nat := pc (wkq A i) * lfq A (wkq A i)
theorem LT_le {A : Nat → Nat} (w : WF A) (i : Nat) : LT A i ≤ 2000 := by
  have hw := w.wd
  unfold LT lfq
  split
  · rename_i c
    rw [c]
    omega
  · exact Nat.le_trans (Nat.mul_div_le _ _) hw.2.2.1
theorem flightInTick {A : Nat → Nat} {mm : gM} (h : CS 0 A mm) (w : WF A) {i : Nat} (hi : i < 6) : fX5_lightInTick (nI i) mm = some (nI (LT A i)) := by
  have h1 := wk_lt w hi
  unfold fX5_lightInTick
  rw [fworks h w hi]
  simp only [z_bnd]
  rw [fpop h1]
  simp only [z_bnd]
  rw [flight h w h1]
  simp only [z_bnd, z_mul]
  rfl
def lbs (A : Nat → Nat) : Nat → Nat
  | 0 => 0
  | i + 1 => lbs A i + A (10 + 4 * i) * LT A i
theorem flightBySlots {A : Nat → Nat} {mm : gM} (h : CS 0 A mm) (w : WF A) : fX5_lightBySlots mm = some (nI (lbs A 6)) := by
  refine loop_up (fun n i => lX5_lightBySlots_4 mm n (nI (lbs A i)) (nI i)) _ 6 (fun n i hi => ?_) (fun n => ?_) FU 0 (by decide) (by decide)
  · rw [lX5_lightBySlots_4_s]
    simp (disch := omega) only [z_nn2, z0, z1, z2, z3, z4, z5, z6, z7, z8, z9, z10, z11, z12, z13, z14, z15, z16, z17, z18, z19, z20, z23, z24, z28, z31, z32, z33, z45, z46, z47, z48, z52, z57, z60, z63, z65, z70, z80, z95, z100, z126, z127, z128, z200, z240, z255, z400, z480, z500, z840, z1023, z2000, z99999, z1073741824, z_nn, z_add, z_sub, z_mul, z_div, z_rem, z_cl, z_in, z_chk, z_chkp, z_bnd, z_bn2, z_wth, z_bxr, z_bxl, z_bx2r, z_bx2l, z_bz0, z_bz1, z_mx, z_mn, z_tb1, z_tb0, z_eq, z_le, z_lt, z_nn_lt, z_nn_le, z_nn_ge, z_nn_gt, z_nn_eq, z_nn_eq2, z_bit, z_wow, z_wo, z_or, z_shl, z_if, z_ifn, fbit, if_true, if_false, Nat.zero_add, Nat.add_zero, not_false_iff, not_true, flightInTick h w, h.time]
    rfl
  · rw [lX5_lightBySlots_4_s]
    simp (disch := omega) only [z_nn2, z0, z1, z2, z3, z4, z5, z6, z7, z8, z9, z10, z11, z12, z13, z14, z15, z16, z17, z18, z19, z20, z23, z24, z28, z31, z32, z33, z45, z46, z47, z48, z52, z57, z60, z63, z65, z70, z80, z95, z100, z126, z127, z128, z200, z240, z255, z400, z480, z500, z840, z1023, z2000, z99999, z1073741824, z_nn, z_add, z_sub, z_mul, z_div, z_rem, z_cl, z_in, z_chk, z_chkp, z_bnd, z_bn2, z_wth, z_bxr, z_bxl, z_bx2r, z_bx2l, z_bz0, z_bz1, z_mx, z_mn, z_tb1, z_tb0, z_eq, z_le, z_lt, z_nn_lt, z_nn_le, z_nn_ge, z_nn_gt, z_nn_eq, z_nn_eq2, z_bit, z_wow, z_wo, z_or, z_shl, z_if, z_ifn, fbit, if_true, if_false, Nat.zero_add, Nat.add_zero, not_false_iff, not_true]
theorem fallLight {A : Nat → Nat} {mm : gM} (h : RMq A mm) (w : WF A) : fX6_allLight mm = some (nI (lbs A 6)) := by
  refine loop_up (fun n i => lX6_allLight_4 mm n (nI (lbs A i)) (nI i)) _ 6 (fun n i hi => ?_) (fun n => ?_) FU 0 (by decide) (by decide)
  · have h1 := wk_lt w hi
    rw [lX6_allLight_4_s]
    simp (disch := omega) only [z_nn2, z0, z1, z2, z3, z4, z5, z6, z7, z8, z9, z10, z11, z12, z13, z14, z15, z16, z17, z18, z19, z20, z23, z24, z28, z31, z32, z33, z45, z46, z47, z48, z52, z57, z60, z63, z65, z70, z80, z95, z100, z126, z127, z128, z200, z240, z255, z400, z480, z500, z840, z1023, z2000, z99999, z1073741824, z_nn, z_add, z_sub, z_mul, z_div, z_rem, z_cl, z_in, z_chk, z_chkp, z_bnd, z_bn2, z_wth, z_bxr, z_bxl, z_bx2r, z_bx2l, z_bz0, z_bz1, z_mx, z_mn, z_tb1, z_tb0, z_eq, z_le, z_lt, z_nn_lt, z_nn_le, z_nn_ge, z_nn_gt, z_nn_eq, z_nn_eq2, z_bit, z_wow, z_wo, z_or, z_shl, z_if, z_ifn, fbit, if_true, if_false, Nat.zero_add, Nat.add_zero, not_false_iff, not_true, fof h, flight6 h w, fworks6 h w, fones, show 8 + 4 * i + 2 = 10 + 4 * i by omega]
    show _ = lX6_allLight_4 mm n (nI (lbs A i + A (10 + 4 * i) * (pc (wkq A i) * lfq A (wkq A i)))) (nI (i + 1))
    rw [Nat.mul_assoc, Nat.mul_comm (lfq A (wkq A i))]
  · rw [lX6_allLight_4_s]
    simp (disch := omega) only [z_nn2, z0, z1, z2, z3, z4, z5, z6, z7, z8, z9, z10, z11, z12, z13, z14, z15, z16, z17, z18, z19, z20, z23, z24, z28, z31, z32, z33, z45, z46, z47, z48, z52, z57, z60, z63, z65, z70, z80, z95, z100, z126, z127, z128, z200, z240, z255, z400, z480, z500, z840, z1023, z2000, z99999, z1073741824, z_nn, z_add, z_sub, z_mul, z_div, z_rem, z_cl, z_in, z_chk, z_chkp, z_bnd, z_bn2, z_wth, z_bxr, z_bxl, z_bx2r, z_bx2l, z_bz0, z_bz1, z_mx, z_mn, z_tb1, z_tb0, z_eq, z_le, z_lt, z_nn_lt, z_nn_le, z_nn_ge, z_nn_gt, z_nn_eq, z_nn_eq2, z_bit, z_wow, z_wo, z_or, z_shl, z_if, z_ifn, fbit, if_true, if_false, Nat.zero_add, Nat.add_zero, not_false_iff, not_true]
/-- the light of the slots below n in the first T ticks -/
def lT (A : Nat → Nat) (T : Nat) : Nat → Nat
  | 0 => 0
  | i + 1 => lT A T i + (min T (ed A i) - bg A i) * LT A i
theorem lT_s {A : Nat → Nat} {s T : Nat} (h1 : en A s ≤ T) (h2 : T < en A (s + 1)) : ∀ n, lT A (T + 1) n = lT A T n + (if s < n ∧ bg A s ≤ T then LT A s else 0)
  | 0 => by rw [if_neg (fun z => Nat.not_lt_zero _ z.1)]; rfl
  | n + 1 => by
    have ih := lT_s h1 h2 n
    show lT A (T + 1) n + (min (T + 1) (ed A n) - bg A n) * LT A n = lT A T n + (min T (ed A n) - bg A n) * LT A n + _
    rw [ih]
    have hed : ed A n = en A (n + 1) := rfl
    have hbg := en_le_bg A n
    rcases Nat.lt_trichotomy n s with c | c | c
    · have := en_mono A (i := n + 1) (j := s) (by omega)
      rw [if_neg (by omega), if_neg (by omega), Nat.min_eq_right (by omega), Nat.min_eq_right (by omega)]
      omega
    · subst c
      rw [if_neg (by omega), Nat.min_eq_left (by omega), Nat.min_eq_left (by omega)]
      by_cases c2 : bg A n ≤ T
      · rw [if_pos ⟨by omega, c2⟩, show T + 1 - bg A n = (T - bg A n) + 1 by omega, Nat.succ_mul]
        omega
      · rw [if_neg (fun z => c2 z.2), show T + 1 - bg A n = 0 by omega, show T - bg A n = 0 by omega]
        simp only [Nat.zero_mul, Nat.add_zero]
    · have := en_mono A (i := s + 1) (j := n) (by omega)
      have e1 : min (T + 1) (ed A n) - bg A n = 0 := by
        have := Nat.min_le_left (T + 1) (ed A n)
        omega
      have e2 : min T (ed A n) - bg A n = 0 := by
        have := Nat.min_le_left T (ed A n)
        omega
      rw [e1, e2]
      by_cases c2 : bg A s ≤ T
      · rw [if_pos ⟨by omega, c2⟩, if_pos ⟨by omega, c2⟩]
        omega
      · rw [if_neg (fun z => c2 z.2), if_neg (fun z => c2 z.2)]
        simp only [Nat.zero_mul, Nat.add_zero]
theorem lT_0 {A : Nat → Nat} : ∀ n, lT A 0 n = 0
  | 0 => rfl
  | n + 1 => by
    show lT A 0 n + (min 0 (ed A n) - bg A n) * LT A n = 0
    rw [lT_0 n, Nat.zero_min, Nat.zero_sub, Nat.zero_mul]
theorem lT_R {A : Nat → Nat} : ∀ n, n ≤ 6 → lT A (rt A) n = lbs A n
  | 0, _ => rfl
  | n + 1, h => by
    have h1 := en_mono A (i := n + 1) (j := 6) h
    have h2 := time_le_ed (A := A) n
    have hed : ed A n = en A (n + 1) := rfl
    have hbg : bg A n = en A (n + 1) - A (10 + 4 * n) := rfl
    have h3 : rt A = en A 6 := rfl
    show lT A (rt A) n + (min (rt A) (ed A n) - bg A n) * LT A n = lbs A n + A (10 + 4 * n) * LT A n
    rw [lT_R n (by omega), Nat.min_eq_right (by omega), show ed A n - bg A n = A (10 + 4 * n) by omega]
theorem flightByTicks {A : Nat → Nat} {mm : gM} (h : CS 0 A mm) (w : WF A) : fX5_lightByTicks mm = some (nI (lbs A 6)) := by
  have hR := rt_le w
  unfold fX5_lightByTicks
  rw [frt h w]
  simp only [z_bnd, z0]
  rw [← lT_R 6 (Nat.le_refl _)]
  have e0 : nI 0 = nI (lT A 0 6) := by rw [lT_0]
  have key := loop_up (fun n T => lX5_lightByTicks_12 mm n (nI (lT A T 6)) (nI (rt A)) (nI T)) (some (nI (lT A (rt A) 6))) (rt A) (fun n T hT => ?_) (fun n => ?_) FU 0 (Nat.zero_le _) (by unfold FU; omega)
  · rw [lT_0] at key
    exact key
  · obtain ⟨s, hs, h1, h2⟩ := slot_ex A 6 hT
    rw [lX5_lightByTicks_12_s]
    simp (disch := omega) only [z_nn2, z0, z1, z2, z3, z4, z5, z6, z7, z8, z9, z10, z11, z12, z13, z14, z15, z16, z17, z18, z19, z20, z23, z24, z28, z31, z32, z33, z45, z46, z47, z48, z52, z57, z60, z63, z65, z70, z80, z95, z100, z126, z127, z128, z200, z240, z255, z400, z480, z500, z840, z1023, z2000, z99999, z1073741824, z_nn, z_add, z_sub, z_mul, z_div, z_rem, z_cl, z_in, z_chk, z_chkp, z_bnd, z_bn2, z_wth, z_bxr, z_bxl, z_bx2r, z_bx2l, z_bz0, z_bz1, z_mx, z_mn, z_tb1, z_tb0, z_eq, z_le, z_lt, z_nn_lt, z_nn_le, z_nn_ge, z_nn_gt, z_nn_eq, z_nn_eq2, z_bit, z_wow, z_wo, z_or, z_shl, z_if, z_ifn, fbit, if_true, if_false, Nat.zero_add, Nat.add_zero, not_false_iff, not_true, flitIn h w hs h1 h2, jX5_lightByTicks_42]
    rw [lT_s h1 h2]
    by_cases c : T < bg A s
    · rw [if_neg (show ¬ (s < 6 ∧ bg A s ≤ T) from fun z => by omega)]
      simp only [if_pos c, if_true, Nat.add_zero]
    · rw [if_pos (show s < 6 ∧ bg A s ≤ T from ⟨hs, by omega⟩)]
      simp (disch := omega) only [if_neg c, z_nn2, z0, z1, z2, z3, z4, z5, z6, z7, z8, z9, z10, z11, z12, z13, z14, z15, z16, z17, z18, z19, z20, z23, z24, z28, z31, z32, z33, z45, z46, z47, z48, z52, z57, z60, z63, z65, z70, z80, z95, z100, z126, z127, z128, z200, z240, z255, z400, z480, z500, z840, z1023, z2000, z99999, z1073741824, z_nn, z_add, z_sub, z_mul, z_div, z_rem, z_cl, z_in, z_chk, z_chkp, z_bnd, z_bn2, z_wth, z_bxr, z_bxl, z_bx2r, z_bx2l, z_bz0, z_bz1, z_mx, z_mn, z_tb1, z_tb0, z_eq, z_le, z_lt, z_nn_lt, z_nn_le, z_nn_ge, z_nn_gt, z_nn_eq, z_nn_eq2, z_bit, z_wow, z_wo, z_or, z_shl, z_if, z_ifn, fbit, if_true, if_false, Nat.zero_add, Nat.add_zero, not_false_iff, not_true, flightInTick h w]
  · rw [lX5_lightByTicks_12_s]
    simp (disch := omega) only [z_nn2, z0, z1, z2, z3, z4, z5, z6, z7, z8, z9, z10, z11, z12, z13, z14, z15, z16, z17, z18, z19, z20, z23, z24, z28, z31, z32, z33, z45, z46, z47, z48, z52, z57, z60, z63, z65, z70, z80, z95, z100, z126, z127, z128, z200, z240, z255, z400, z480, z500, z840, z1023, z2000, z99999, z1073741824, z_nn, z_add, z_sub, z_mul, z_div, z_rem, z_cl, z_in, z_chk, z_chkp, z_bnd, z_bn2, z_wth, z_bxr, z_bxl, z_bx2r, z_bx2l, z_bz0, z_bz1, z_mx, z_mn, z_tb1, z_tb0, z_eq, z_le, z_lt, z_nn_lt, z_nn_le, z_nn_ge, z_nn_gt, z_nn_eq, z_nn_eq2, z_bit, z_wow, z_wo, z_or, z_shl, z_if, z_ifn, fbit, if_true, if_false, Nat.zero_add, Nat.add_zero, not_false_iff, not_true]
def wsl (A : Nat → Nat) : Nat → Nat
  | 0 => 0
  | i + 1 => wsl A i + (if wkq A i = 0 then 0 else 1)
theorem wsl_le (A : Nat → Nat) : ∀ n, wsl A n ≤ n
  | 0 => Nat.le_refl _
  | n + 1 => by
    have := wsl_le A n
    show wsl A n + _ ≤ _
    split <;> omega
theorem fworkingSlots {A : Nat → Nat} {mm : gM} (h : CS 0 A mm) (w : WF A) : fX5_workingSlots mm = some (nI (wsl A 6)) := by
  refine loop_up (fun n i => lX5_workingSlots_4 mm n (nI (wsl A i)) (nI i)) _ 6 (fun n i hi => ?_) (fun n => ?_) FU 0 (by decide) (by decide)
  · have h1 := wk_lt w hi
    rw [lX5_workingSlots_4_s]
    simp (disch := omega) only [z_nn2, z0, z1, z2, z3, z4, z5, z6, z7, z8, z9, z10, z11, z12, z13, z14, z15, z16, z17, z18, z19, z20, z23, z24, z28, z31, z32, z33, z45, z46, z47, z48, z52, z57, z60, z63, z65, z70, z80, z95, z100, z126, z127, z128, z200, z240, z255, z400, z480, z500, z840, z1023, z2000, z99999, z1073741824, z_nn, z_add, z_sub, z_mul, z_div, z_rem, z_cl, z_in, z_chk, z_chkp, z_bnd, z_bn2, z_wth, z_bxr, z_bxl, z_bx2r, z_bx2l, z_bz0, z_bz1, z_mx, z_mn, z_tb1, z_tb0, z_eq, z_le, z_lt, z_nn_lt, z_nn_le, z_nn_ge, z_nn_gt, z_nn_eq, z_nn_eq2, z_bit, z_wow, z_wo, z_or, z_shl, z_if, z_ifn, fbit, if_true, if_false, Nat.zero_add, Nat.add_zero, not_false_iff, not_true, fworks h w, jX5_workingSlots_24]
    show _ = lX5_workingSlots_4 mm n (nI (wsl A i + (if wkq A i = 0 then 0 else 1))) (nI (i + 1))
    split <;> rfl
  · rw [lX5_workingSlots_4_s]
    simp (disch := omega) only [z_nn2, z0, z1, z2, z3, z4, z5, z6, z7, z8, z9, z10, z11, z12, z13, z14, z15, z16, z17, z18, z19, z20, z23, z24, z28, z31, z32, z33, z45, z46, z47, z48, z52, z57, z60, z63, z65, z70, z80, z95, z100, z126, z127, z128, z200, z240, z255, z400, z480, z500, z840, z1023, z2000, z99999, z1073741824, z_nn, z_add, z_sub, z_mul, z_div, z_rem, z_cl, z_in, z_chk, z_chkp, z_bnd, z_bn2, z_wth, z_bxr, z_bxl, z_bx2r, z_bx2l, z_bz0, z_bz1, z_mx, z_mn, z_tb1, z_tb0, z_eq, z_le, z_lt, z_nn_lt, z_nn_le, z_nn_ge, z_nn_gt, z_nn_eq, z_nn_eq2, z_bit, z_wow, z_wo, z_or, z_shl, z_if, z_ifn, fbit, if_true, if_false, Nat.zero_add, Nat.add_zero, not_false_iff, not_true]
theorem fworkingSlots6 {A : Nat → Nat} {mm : gM} (h : RMq A mm) (w : WF A) : fX6_workingSlots mm = some (nI (wsl A 6)) := by
  refine loop_up (fun n i => lX6_workingSlots_4 mm n (nI (wsl A i)) (nI i)) _ 6 (fun n i hi => ?_) (fun n => ?_) FU 0 (by decide) (by decide)
  · have h1 := wk_lt w hi
    rw [lX6_workingSlots_4_s]
    simp (disch := omega) only [z_nn2, z0, z1, z2, z3, z4, z5, z6, z7, z8, z9, z10, z11, z12, z13, z14, z15, z16, z17, z18, z19, z20, z23, z24, z28, z31, z32, z33, z45, z46, z47, z48, z52, z57, z60, z63, z65, z70, z80, z95, z100, z126, z127, z128, z200, z240, z255, z400, z480, z500, z840, z1023, z2000, z99999, z1073741824, z_nn, z_add, z_sub, z_mul, z_div, z_rem, z_cl, z_in, z_chk, z_chkp, z_bnd, z_bn2, z_wth, z_bxr, z_bxl, z_bx2r, z_bx2l, z_bz0, z_bz1, z_mx, z_mn, z_tb1, z_tb0, z_eq, z_le, z_lt, z_nn_lt, z_nn_le, z_nn_ge, z_nn_gt, z_nn_eq, z_nn_eq2, z_bit, z_wow, z_wo, z_or, z_shl, z_if, z_ifn, fbit, if_true, if_false, Nat.zero_add, Nat.add_zero, not_false_iff, not_true, fworks6 h w, jX6_workingSlots_24]
    show _ = lX6_workingSlots_4 mm n (nI (wsl A i + (if wkq A i = 0 then 0 else 1))) (nI (i + 1))
    split <;> rfl
  · rw [lX6_workingSlots_4_s]
    simp (disch := omega) only [z_nn2, z0, z1, z2, z3, z4, z5, z6, z7, z8, z9, z10, z11, z12, z13, z14, z15, z16, z17, z18, z19, z20, z23, z24, z28, z31, z32, z33, z45, z46, z47, z48, z52, z57, z60, z63, z65, z70, z80, z95, z100, z126, z127, z128, z200, z240, z255, z400, z480, z500, z840, z1023, z2000, z99999, z1073741824, z_nn, z_add, z_sub, z_mul, z_div, z_rem, z_cl, z_in, z_chk, z_chkp, z_bnd, z_bn2, z_wth, z_bxr, z_bxl, z_bx2r, z_bx2l, z_bz0, z_bz1, z_mx, z_mn, z_tb1, z_tb0, z_eq, z_le, z_lt, z_nn_lt, z_nn_le, z_nn_ge, z_nn_gt, z_nn_eq, z_nn_eq2, z_bit, z_wow, z_wo, z_or, z_shl, z_if, z_ifn, fbit, if_true, if_false, Nat.zero_add, Nat.add_zero, not_false_iff, not_true]
theorem rI_eq {r s : Nat} (hr : r ≤ 18) (hs : s < 18) : (rI r = nI s) = (r = s) := by
  unfold rI
  by_cases c : r = 18
  · rw [if_pos c, z_nn_eq2 (by omega)]
    exact propext ⟨fun h => h.elim, fun h => by omega⟩
  · rw [if_neg c, z_eq (by omega) (by omega)]
def rws (A : Nat → Nat) : Nat → Nat
  | 0 => 0
  | i + 1 => rws A i + (if rdq A i = A (8 + 4 * i) then 1 else 0)
theorem rws_le (A : Nat → Nat) : ∀ n, rws A n ≤ n
  | 0 => Nat.le_refl _
  | n + 1 => by
    have := rws_le A n
    show rws A n + _ ≤ _
    split <;> omega
theorem freadWell6 {A : Nat → Nat} {mm : gM} (h : RMq A mm) (w : WF A) (hv : VCq A mm) : fX6_readWell mm = some (nI (rws A 6)) := by
  refine loop_up (fun n i => lX6_readWell_4 mm n (nI (rws A i)) (nI i)) _ 6 (fun n i hi => ?_) (fun n => ?_) FU 0 (by decide) (by decide)
  · have h1 := w.sign hi
    have h2 := rd_le A i
    rw [lX6_readWell_4_s]
    simp (disch := omega) only [z_nn2, z0, z1, z2, z3, z4, z5, z6, z7, z8, z9, z10, z11, z12, z13, z14, z15, z16, z17, z18, z19, z20, z23, z24, z28, z31, z32, z33, z45, z46, z47, z48, z52, z57, z60, z63, z65, z70, z80, z95, z100, z126, z127, z128, z200, z240, z255, z400, z480, z500, z840, z1023, z2000, z99999, z1073741824, z_nn, z_add, z_sub, z_mul, z_div, z_rem, z_cl, z_in, z_chk, z_chkp, z_bnd, z_bn2, z_wth, z_bxr, z_bxl, z_bx2r, z_bx2l, z_bz0, z_bz1, z_mx, z_mn, z_tb1, z_tb0, z_eq, z_le, z_lt, z_nn_lt, z_nn_le, z_nn_ge, z_nn_gt, z_nn_eq, z_nn_eq2, z_bit, z_wow, z_wo, z_or, z_shl, z_if, z_ifn, fbit, if_true, if_false, Nat.zero_add, Nat.add_zero, not_false_iff, not_true, fread6 h w hv, fof h, jX6_readWell_30, Nat.add_zero, rI_eq]
    show _ = lX6_readWell_4 mm n (nI (rws A i + (if rdq A i = A (8 + 4 * i) then 1 else 0))) (nI (i + 1))
    split <;> rfl
  · rw [lX6_readWell_4_s]
    simp (disch := omega) only [z_nn2, z0, z1, z2, z3, z4, z5, z6, z7, z8, z9, z10, z11, z12, z13, z14, z15, z16, z17, z18, z19, z20, z23, z24, z28, z31, z32, z33, z45, z46, z47, z48, z52, z57, z60, z63, z65, z70, z80, z95, z100, z126, z127, z128, z200, z240, z255, z400, z480, z500, z840, z1023, z2000, z99999, z1073741824, z_nn, z_add, z_sub, z_mul, z_div, z_rem, z_cl, z_in, z_chk, z_chkp, z_bnd, z_bn2, z_wth, z_bxr, z_bxl, z_bx2r, z_bx2l, z_bz0, z_bz1, z_mx, z_mn, z_tb1, z_tb0, z_eq, z_le, z_lt, z_nn_lt, z_nn_le, z_nn_ge, z_nn_gt, z_nn_eq, z_nn_eq2, z_bit, z_wow, z_wo, z_or, z_shl, z_if, z_ifn, fbit, if_true, if_false, Nat.zero_add, Nat.add_zero, not_false_iff, not_true]
/-- a call that looks: its answer, and that the eye's rows alone have changed, and hold what is so -/
def LK (A : Nat → Nat) (mm : gM) (o : Option (Int32 × gM)) (v : Int32) : Prop := ∃ m1, o = some (v, m1) ∧ Frq (PEq 0) mm m1 ∧ ECq 0 A m1
theorem freadWell {A : Nat → Nat} {mm : gM} (h : CS 0 A mm) (w : WF A) (he : ECq 0 A mm) : LK A mm (fX5_slotsReadAsTheirSigns mm) (nI (rws A 6)) := by
  refine loop_ex (fun n i m => lX5_slotsReadAsTheirSigns_4 n (nI (rws A i)) (nI i) m) (fun i m => Frq (PEq 0) mm m ∧ ECq 0 A m) (fun o => LK A mm o (nI (rws A 6))) 6 (fun n i m hi hI => ?_) (fun n m hI => ?_) FU 0 mm (by decide) (by decide) ⟨Frq.rf, he⟩
  · obtain ⟨f1, e1⟩ := hI
    have hc : CS 0 A m := h.fr f1 (fun c hc => PE_cs c 0 hc)
    obtain ⟨m2, b1, b2, b3, b4⟩ := flook hc w e1 hi
    have hc2 : CS 0 A m2 := hc.fr b2 (fun c hc => PE_cs c 0 hc)
    have h1 := w.sign hi
    have h2 := rd_le A i
    refine ⟨m2, ⟨f1.tr b2, b3⟩, ?_⟩
    rw [lX5_slotsReadAsTheirSigns_4_s]
    simp (disch := omega) only [z_nn2, z0, z1, z2, z3, z4, z5, z6, z7, z8, z9, z10, z11, z12, z13, z14, z15, z16, z17, z18, z19, z20, z23, z24, z28, z31, z32, z33, z45, z46, z47, z48, z52, z57, z60, z63, z65, z70, z80, z95, z100, z126, z127, z128, z200, z240, z255, z400, z480, z500, z840, z1023, z2000, z99999, z1073741824, z_nn, z_add, z_sub, z_mul, z_div, z_rem, z_cl, z_in, z_chk, z_chkp, z_bnd, z_bn2, z_wth, z_bxr, z_bxl, z_bx2r, z_bx2l, z_bz0, z_bz1, z_mx, z_mn, z_tb1, z_tb0, z_eq, z_le, z_lt, z_nn_lt, z_nn_le, z_nn_ge, z_nn_gt, z_nn_eq, z_nn_eq2, z_bit, z_wow, z_wo, z_or, z_shl, z_if, z_ifn, fbit, if_true, if_false, Nat.zero_add, Nat.add_zero, not_false_iff, not_true, b1, fread hc2 w hi b4, hc2.sign, jX5_slotsReadAsTheirSigns_41, rI_eq]
    show _ = lX5_slotsReadAsTheirSigns_4 n (nI (rws A i + (if rdq A i = A (8 + 4 * i) then 1 else 0))) (nI (i + 1)) m2
    split <;> rfl
  · rw [lX5_slotsReadAsTheirSigns_4_s]
    simp (disch := omega) only [z_nn2, z0, z1, z2, z3, z4, z5, z6, z7, z8, z9, z10, z11, z12, z13, z14, z15, z16, z17, z18, z19, z20, z23, z24, z28, z31, z32, z33, z45, z46, z47, z48, z52, z57, z60, z63, z65, z70, z80, z95, z100, z126, z127, z128, z200, z240, z255, z400, z480, z500, z840, z1023, z2000, z99999, z1073741824, z_nn, z_add, z_sub, z_mul, z_div, z_rem, z_cl, z_in, z_chk, z_chkp, z_bnd, z_bn2, z_wth, z_bxr, z_bxl, z_bx2r, z_bx2l, z_bz0, z_bz1, z_mx, z_mn, z_tb1, z_tb0, z_eq, z_le, z_lt, z_nn_lt, z_nn_le, z_nn_ge, z_nn_gt, z_nn_eq, z_nn_eq2, z_bit, z_wow, z_wo, z_or, z_shl, z_if, z_ifn, fbit, if_true, if_false, Nat.zero_add, Nat.add_zero, not_false_iff, not_true]
    exact ⟨m, rfl, hI⟩
def hiM (A : Nat → Nat) : Nat → Nat
  | 0 => 0
  | i + 1 => if wkq A i = 0 then hiM A i else max (hiM A i) (mn2 A i)
def loM (A : Nat → Nat) : Nat → Nat
  | 0 => 1073741824
  | i + 1 => if wkq A i = 0 then loM A i else min (loM A i) (mn2 A i)
theorem hiM_s (A : Nat → Nat) (i : Nat) : hiM A (i + 1) = if wkq A i = 0 then hiM A i else max (hiM A i) (mn2 A i) := rfl
theorem loM_s (A : Nat → Nat) (i : Nat) : loM A (i + 1) = if wkq A i = 0 then loM A i else min (loM A i) (mn2 A i) := rfl
theorem wsl_s (A : Nat → Nat) (i : Nat) : wsl A (i + 1) = wsl A i + (if wkq A i = 0 then 0 else 1) := rfl
theorem hiM_le {A : Nat → Nat} (w : WF A) : ∀ n, n ≤ 6 → hiM A n ≤ 2000
  | 0, _ => Nat.zero_le _
  | n + 1, h => by
    have h1 := hiM_le w n (by omega)
    have h2 := mn2_le w (i := n) (by omega)
    unfold hiM
    split
    · exact h1
    · exact Nat.max_le.mpr ⟨h1, h2⟩
theorem loM_le (A : Nat → Nat) : ∀ n, loM A n ≤ 1073741824
  | 0 => Nat.le_refl _
  | n + 1 => by
    have h1 := loM_le A n
    unfold loM
    split
    · exact h1
    · exact Nat.le_trans (Nat.min_le_left _ _) h1
theorem lohi {A : Nat → Nat} : ∀ n, (wsl A n = 0 → hiM A n = 0 ∧ loM A n = 1073741824) ∧ (wsl A n ≠ 0 → loM A n ≤ hiM A n)
  | 0 => ⟨fun _ => ⟨rfl, rfl⟩, fun h => absurd rfl h⟩
  | n + 1 => by
    obtain ⟨h1, h2⟩ := lohi (A := A) n
    unfold wsl hiM loM
    by_cases c : wkq A n = 0
    · rw [if_pos c, if_pos c, if_pos c, Nat.add_zero]
      exact ⟨h1, h2⟩
    · rw [if_neg c, if_neg c, if_neg c]
      exact ⟨fun z => by omega, fun _ => Nat.le_trans (Nat.min_le_right _ _) (Nat.le_max_right _ _)⟩
theorem funeven {A : Nat → Nat} {mm : gM} (h : CS 0 A mm) (w : WF A) (he : ECq 0 A mm) : LK A mm (fX5_unevenness mm) (nI (hiM A 6 - loM A 6)) := by
  refine loop_ex (fun n i m => lX5_unevenness_8 n (nI (hiM A i)) (nI (loM A i)) (nI i) m) (fun i m => Frq (PEq 0) mm m ∧ ECq 0 A m) (fun o => LK A mm o (nI (hiM A 6 - loM A 6))) 6 (fun n i m hi hI => ?_) (fun n m hI => ?_) FU 0 mm (by decide) (by decide) ⟨Frq.rf, he⟩
  · obtain ⟨f1, e1⟩ := hI
    have hc : CS 0 A m := h.fr f1 (fun c hc => PE_cs c 0 hc)
    have h1 := wk_lt w hi
    have h3 := hiM_le w i (by omega)
    have h4 := loM_le A i
    have h5 := mn2_le w hi
    by_cases c : wkq A i = 0
    · refine ⟨m, ⟨f1, e1⟩, ?_⟩
      rw [lX5_unevenness_8_s]
      simp (disch := omega) only [z_nn2, z0, z1, z2, z3, z4, z5, z6, z7, z8, z9, z10, z11, z12, z13, z14, z15, z16, z17, z18, z19, z20, z23, z24, z28, z31, z32, z33, z45, z46, z47, z48, z52, z57, z60, z63, z65, z70, z80, z95, z100, z126, z127, z128, z200, z240, z255, z400, z480, z500, z840, z1023, z2000, z99999, z1073741824, z_nn, z_add, z_sub, z_mul, z_div, z_rem, z_cl, z_in, z_chk, z_chkp, z_bnd, z_bn2, z_wth, z_bxr, z_bxl, z_bx2r, z_bx2l, z_bz0, z_bz1, z_mx, z_mn, z_tb1, z_tb0, z_eq, z_le, z_lt, z_nn_lt, z_nn_le, z_nn_ge, z_nn_gt, z_nn_eq, z_nn_eq2, z_bit, z_wow, z_wo, z_or, z_shl, z_if, z_ifn, fbit, if_true, if_false, Nat.zero_add, Nat.add_zero, not_false_iff, not_true, fworks hc w, jX5_unevenness_57]
      rw [hiM_s, loM_s, if_pos c, if_pos c]
    · obtain ⟨m2, b1, b2, b3, b4⟩ := flook hc w e1 hi
      have hc2 : CS 0 A m2 := hc.fr b2 (fun c hc => PE_cs c 0 hc)
      refine ⟨m2, ⟨f1.tr b2, b3⟩, ?_⟩
      rw [lX5_unevenness_8_s]
      simp (disch := omega) only [z_nn2, z0, z1, z2, z3, z4, z5, z6, z7, z8, z9, z10, z11, z12, z13, z14, z15, z16, z17, z18, z19, z20, z23, z24, z28, z31, z32, z33, z45, z46, z47, z48, z52, z57, z60, z63, z65, z70, z80, z95, z100, z126, z127, z128, z200, z240, z255, z400, z480, z500, z840, z1023, z2000, z99999, z1073741824, z_nn, z_add, z_sub, z_mul, z_div, z_rem, z_cl, z_in, z_chk, z_chkp, z_bnd, z_bn2, z_wth, z_bxr, z_bxl, z_bx2r, z_bx2l, z_bz0, z_bz1, z_mx, z_mn, z_tb1, z_tb0, z_eq, z_le, z_lt, z_nn_lt, z_nn_le, z_nn_ge, z_nn_gt, z_nn_eq, z_nn_eq2, z_bit, z_wow, z_wo, z_or, z_shl, z_if, z_ifn, fbit, if_true, if_false, Nat.zero_add, Nat.add_zero, not_false_iff, not_true, fworks hc w, jX5_unevenness_57, b1, fmean hc2 w hi b4]
      show _ = lX5_unevenness_8 n (nI (if wkq A i = 0 then hiM A i else max (hiM A i) (mn2 A i))) (nI (if wkq A i = 0 then loM A i else min (loM A i) (mn2 A i))) (nI (i + 1)) m2
      rw [if_neg c, if_neg c]
  · have h3 := hiM_le w 6 (by omega)
    have h4 := loM_le A 6
    obtain ⟨l1, l2⟩ := lohi (A := A) 6
    rw [lX5_unevenness_8_s]
    simp (disch := omega) only [z_nn2, z0, z1, z2, z3, z4, z5, z6, z7, z8, z9, z10, z11, z12, z13, z14, z15, z16, z17, z18, z19, z20, z23, z24, z28, z31, z32, z33, z45, z46, z47, z48, z52, z57, z60, z63, z65, z70, z80, z95, z100, z126, z127, z128, z200, z240, z255, z400, z480, z500, z840, z1023, z2000, z99999, z1073741824, z_nn, z_add, z_sub, z_mul, z_div, z_rem, z_cl, z_in, z_chk, z_chkp, z_bnd, z_bn2, z_wth, z_bxr, z_bxl, z_bx2r, z_bx2l, z_bz0, z_bz1, z_mx, z_mn, z_tb1, z_tb0, z_eq, z_le, z_lt, z_nn_lt, z_nn_le, z_nn_ge, z_nn_gt, z_nn_eq, z_nn_eq2, z_bit, z_wow, z_wo, z_or, z_shl, z_if, z_ifn, fbit, if_true, if_false, Nat.zero_add, Nat.add_zero, not_false_iff, not_true, jX5_unevenness_63]
    refine ⟨m, ?_, hI⟩
    congr 2
    by_cases c : wsl A 6 = 0
    · obtain ⟨g1, g2⟩ := l1 c
      rw [g1, g2]
      decide +kernel
    · have g1 := l2 c
      rw [z_sub g1, z_mx (by omega) (by omega), Nat.max_eq_right (Nat.zero_le _)]
theorem fapart {A : Nat → Nat} {mm : gM} (h : RMq A mm) (w : WF A) (hv : VCq A mm) : fX6_apart mm = some (nI (hiM A 6 - loM A 6)) := by
  refine loop_up (fun n i => lX6_apart_6 mm n (if wsl A i = 0 then nn else nI (hiM A i)) (if wsl A i = 0 then nn else nI (loM A i)) (nI i)) _ 6 (fun n i hi => ?_) (fun n => ?_) FU 0 (by decide) (by decide)
  · have h1 := wk_lt w hi
    have h3 := hiM_le w i (by omega)
    have h4 := loM_le A i
    have h5 := mn2_le w hi
    obtain ⟨l1, l2⟩ := lohi (A := A) i
    rw [lX6_apart_6_s]
    simp (disch := omega) only [z_nn2, z0, z1, z2, z3, z4, z5, z6, z7, z8, z9, z10, z11, z12, z13, z14, z15, z16, z17, z18, z19, z20, z23, z24, z28, z31, z32, z33, z45, z46, z47, z48, z52, z57, z60, z63, z65, z70, z80, z95, z100, z126, z127, z128, z200, z240, z255, z400, z480, z500, z840, z1023, z2000, z99999, z1073741824, z_nn, z_add, z_sub, z_mul, z_div, z_rem, z_cl, z_in, z_chk, z_chkp, z_bnd, z_bn2, z_wth, z_bxr, z_bxl, z_bx2r, z_bx2l, z_bz0, z_bz1, z_mx, z_mn, z_tb1, z_tb0, z_eq, z_le, z_lt, z_nn_lt, z_nn_le, z_nn_ge, z_nn_gt, z_nn_eq, z_nn_eq2, z_bit, z_wow, z_wo, z_or, z_shl, z_if, z_ifn, fbit, if_true, if_false, Nat.zero_add, Nat.add_zero, not_false_iff, not_true, fworks6 h w, fmean6 h w hv]
    rw [hiM_s, loM_s, wsl_s]
    by_cases c : wkq A i = 0
    · simp only [c, if_true, Nat.add_zero, jX6_apart_63, z1, z_add]
    · simp only [if_neg c]
      rw [if_neg (show ¬ wsl A i + 1 = 0 by omega), if_neg (show ¬ wsl A i + 1 = 0 by omega)]
      by_cases c2 : wsl A i = 0
      · obtain ⟨g1, g2⟩ := l1 c2
        simp only [if_pos c2]
        rw [g1, g2, Nat.max_eq_right (Nat.zero_le _), Nat.min_eq_right (by omega)]
        simp (disch := omega) only [z_nn2, z0, z1, z2, z3, z4, z5, z6, z7, z8, z9, z10, z11, z12, z13, z14, z15, z16, z17, z18, z19, z20, z23, z24, z28, z31, z32, z33, z45, z46, z47, z48, z52, z57, z60, z63, z65, z70, z80, z95, z100, z126, z127, z128, z200, z240, z255, z400, z480, z500, z840, z1023, z2000, z99999, z1073741824, z_nn, z_add, z_sub, z_mul, z_div, z_rem, z_cl, z_in, z_chk, z_chkp, z_bnd, z_bn2, z_wth, z_bxr, z_bxl, z_bx2r, z_bx2l, z_bz0, z_bz1, z_mx, z_mn, z_tb1, z_tb0, z_eq, z_le, z_lt, z_nn_lt, z_nn_le, z_nn_ge, z_nn_gt, z_nn_eq, z_nn_eq2, z_bit, z_wow, z_wo, z_or, z_shl, z_if, z_ifn, fbit, if_true, if_false, Nat.zero_add, Nat.add_zero, not_false_iff, not_true, jX6_apart_38, jX6_apart_44, jX6_apart_56, jX6_apart_62, jX6_apart_63]
      · simp only [if_neg c2]
        simp (disch := omega) only [z_nn2, z0, z1, z2, z3, z4, z5, z6, z7, z8, z9, z10, z11, z12, z13, z14, z15, z16, z17, z18, z19, z20, z23, z24, z28, z31, z32, z33, z45, z46, z47, z48, z52, z57, z60, z63, z65, z70, z80, z95, z100, z126, z127, z128, z200, z240, z255, z400, z480, z500, z840, z1023, z2000, z99999, z1073741824, z_nn, z_add, z_sub, z_mul, z_div, z_rem, z_cl, z_in, z_chk, z_chkp, z_bnd, z_bn2, z_wth, z_bxr, z_bxl, z_bx2r, z_bx2l, z_bz0, z_bz1, z_mx, z_mn, z_tb1, z_tb0, z_eq, z_le, z_lt, z_nn_lt, z_nn_le, z_nn_ge, z_nn_gt, z_nn_eq, z_nn_eq2, z_bit, z_wow, z_wo, z_or, z_shl, z_if, z_ifn, fbit, if_true, if_false, Nat.zero_add, Nat.add_zero, not_false_iff, not_true, jX6_apart_38, jX6_apart_44, jX6_apart_56, jX6_apart_62, jX6_apart_63]
        by_cases g1 : mn2 A i ≤ hiM A i
        · rw [if_pos g1, Nat.max_eq_left g1]
          by_cases g2 : loM A i ≤ mn2 A i
          · rw [if_pos g2, Nat.min_eq_left g2]
          · rw [if_neg g2, Nat.min_eq_right (by omega)]
        · rw [if_neg g1, Nat.max_eq_right (by omega), Nat.min_eq_left (by have := l2 c2; omega)]
  · obtain ⟨l1, l2⟩ := lohi (A := A) 6
    rw [lX6_apart_6_s]
    simp (disch := omega) only [z_nn2, z0, z1, z2, z3, z4, z5, z6, z7, z8, z9, z10, z11, z12, z13, z14, z15, z16, z17, z18, z19, z20, z23, z24, z28, z31, z32, z33, z45, z46, z47, z48, z52, z57, z60, z63, z65, z70, z80, z95, z100, z126, z127, z128, z200, z240, z255, z400, z480, z500, z840, z1023, z2000, z99999, z1073741824, z_nn, z_add, z_sub, z_mul, z_div, z_rem, z_cl, z_in, z_chk, z_chkp, z_bnd, z_bn2, z_wth, z_bxr, z_bxl, z_bx2r, z_bx2l, z_bz0, z_bz1, z_mx, z_mn, z_tb1, z_tb0, z_eq, z_le, z_lt, z_nn_lt, z_nn_le, z_nn_ge, z_nn_gt, z_nn_eq, z_nn_eq2, z_bit, z_wow, z_wo, z_or, z_shl, z_if, z_ifn, fbit, if_true, if_false, Nat.zero_add, Nat.add_zero, not_false_iff, not_true, jX6_apart_69]
    by_cases c2 : wsl A 6 = 0
    · obtain ⟨g1, g2⟩ := l1 c2
      rw [if_pos c2, if_pos c2, g1, g2]
      decide +kernel
    · rw [if_neg c2, if_neg c2, z_sub (l2 c2)]
def fkr (A : Nat → Nat) : Nat → Nat
  | 0 => 0
  | p + 1 => if tbq (wkq A (p / 8)) (p % 8) = 1 then max (fkr A p) (mq A (p / 8) (p % 8) - lq A (p / 8) (p % 8)) else fkr A p
theorem fkr_le {A : Nat → Nat} (w : WF A) : ∀ p, p ≤ 48 → fkr A p ≤ 2000
  | 0, _ => Nat.zero_le _
  | p + 1, h => by
    have h1 := fkr_le w p (by omega)
    have h2 := mq_le w (i := p / 8) (k := p % 8) (by omega) (by omega)
    unfold fkr
    split
    · exact Nat.max_le.mpr ⟨h1, by omega⟩
    · exact h1
theorem fflicker {A : Nat → Nat} {mm : gM} (h : CS 0 A mm) (w : WF A) (he : ECq 0 A mm) : LK A mm (fX5_flicker mm) (nI (fkr A 48)) := by
  refine loop_ex (fun n i m => lX5_flicker_4 n (nI (fkr A (8 * i))) (nI i) m) (fun i m => Frq (PEq 0) mm m ∧ ECq 0 A m) (fun o => LK A mm o (nI (fkr A 48))) 6 (fun n i m hi hI => ?_) (fun n m hI => ?_) FU 0 mm (by decide) (by decide) ⟨Frq.rf, he⟩
  · obtain ⟨f1, e1⟩ := hI
    have hc : CS 0 A m := h.fr f1 (fun c hc => PE_cs c 0 hc)
    have h1 := wk_lt w hi
    obtain ⟨m2, b1, b2, b3, b4⟩ := flook hc w e1 hi
    refine ⟨m2, ⟨f1.tr b2, b3⟩, ?_⟩
    rw [lX5_flicker_4_s]
    simp (disch := omega) only [z_nn2, z0, z1, z2, z3, z4, z5, z6, z7, z8, z9, z10, z11, z12, z13, z14, z15, z16, z17, z18, z19, z20, z23, z24, z28, z31, z32, z33, z45, z46, z47, z48, z52, z57, z60, z63, z65, z70, z80, z95, z100, z126, z127, z128, z200, z240, z255, z400, z480, z500, z840, z1023, z2000, z99999, z1073741824, z_nn, z_add, z_sub, z_mul, z_div, z_rem, z_cl, z_in, z_chk, z_chkp, z_bnd, z_bn2, z_wth, z_bxr, z_bxl, z_bx2r, z_bx2l, z_bz0, z_bz1, z_mx, z_mn, z_tb1, z_tb0, z_eq, z_le, z_lt, z_nn_lt, z_nn_le, z_nn_ge, z_nn_gt, z_nn_eq, z_nn_eq2, z_bit, z_wow, z_wo, z_or, z_shl, z_if, z_ifn, fbit, if_true, if_false, Nat.zero_add, Nat.add_zero, not_false_iff, not_true, fworks hc w, b1]
    have key := loop_up (fun n2 k => lX5_flicker_30 (lX5_flicker_4 n) n2 (nI (fkr A (8 * i + k))) (nI i) (nI (wkq A i)) (nI k) m2) (jX5_flicker_88 (lX5_flicker_4 n) (nI (fkr A (8 * i + 8))) (nI i) m2) 8 (fun n2 k hk => ?_) (fun n2 => ?_) FU 0 (by decide) (by decide)
    · refine key.trans ?_
      unfold jX5_flicker_88
      rw [z1, z_add]
      rfl
    · have h2 := fkr_le w (8 * i + k) (by omega)
      have h3 := mq_le w hi hk
      have h4 := lq_mq (A := A) i k
      obtain ⟨d1, d2, d3⟩ := b4 k hk
      rw [lX5_flicker_30_s]
      simp (disch := omega) only [z_nn2, z0, z1, z2, z3, z4, z5, z6, z7, z8, z9, z10, z11, z12, z13, z14, z15, z16, z17, z18, z19, z20, z23, z24, z28, z31, z32, z33, z45, z46, z47, z48, z52, z57, z60, z63, z65, z70, z80, z95, z100, z126, z127, z128, z200, z240, z255, z400, z480, z500, z840, z1023, z2000, z99999, z1073741824, z_nn, z_add, z_sub, z_mul, z_div, z_rem, z_cl, z_in, z_chk, z_chkp, z_bnd, z_bn2, z_wth, z_bxr, z_bxl, z_bx2r, z_bx2l, z_bz0, z_bz1, z_mx, z_mn, z_tb1, z_tb0, z_eq, z_le, z_lt, z_nn_lt, z_nn_le, z_nn_ge, z_nn_gt, z_nn_eq, z_nn_eq2, z_bit, z_wow, z_wo, z_or, z_shl, z_if, z_ifn, fbit, if_true, if_false, Nat.zero_add, Nat.add_zero, not_false_iff, not_true, d2, d3, jX5_flicker_82]
      show _ = lX5_flicker_30 (lX5_flicker_4 n) n2 (nI (if tbq (wkq A ((8 * i + k) / 8)) ((8 * i + k) % 8) = 1 then max (fkr A (8 * i + k)) (mq A ((8 * i + k) / 8) ((8 * i + k) % 8) - lq A ((8 * i + k) / 8) ((8 * i + k) % 8)) else fkr A (8 * i + k))) (nI i) (nI (wkq A i)) (nI (k + 1)) m2
      rw [show (8 * i + k) / 8 = i by omega, show (8 * i + k) % 8 = k by omega]
      split <;> rfl
    · rw [lX5_flicker_30_s]
      simp (disch := omega) only [z_nn2, z0, z1, z2, z3, z4, z5, z6, z7, z8, z9, z10, z11, z12, z13, z14, z15, z16, z17, z18, z19, z20, z23, z24, z28, z31, z32, z33, z45, z46, z47, z48, z52, z57, z60, z63, z65, z70, z80, z95, z100, z126, z127, z128, z200, z240, z255, z400, z480, z500, z840, z1023, z2000, z99999, z1073741824, z_nn, z_add, z_sub, z_mul, z_div, z_rem, z_cl, z_in, z_chk, z_chkp, z_bnd, z_bn2, z_wth, z_bxr, z_bxl, z_bx2r, z_bx2l, z_bz0, z_bz1, z_mx, z_mn, z_tb1, z_tb0, z_eq, z_le, z_lt, z_nn_lt, z_nn_le, z_nn_ge, z_nn_gt, z_nn_eq, z_nn_eq2, z_bit, z_wow, z_wo, z_or, z_shl, z_if, z_ifn, fbit, if_true, if_false, Nat.zero_add, Nat.add_zero, not_false_iff, not_true]
  · rw [lX5_flicker_4_s]
    simp (disch := omega) only [z_nn2, z0, z1, z2, z3, z4, z5, z6, z7, z8, z9, z10, z11, z12, z13, z14, z15, z16, z17, z18, z19, z20, z23, z24, z28, z31, z32, z33, z45, z46, z47, z48, z52, z57, z60, z63, z65, z70, z80, z95, z100, z126, z127, z128, z200, z240, z255, z400, z480, z500, z840, z1023, z2000, z99999, z1073741824, z_nn, z_add, z_sub, z_mul, z_div, z_rem, z_cl, z_in, z_chk, z_chkp, z_bnd, z_bn2, z_wth, z_bxr, z_bxl, z_bx2r, z_bx2l, z_bz0, z_bz1, z_mx, z_mn, z_tb1, z_tb0, z_eq, z_le, z_lt, z_nn_lt, z_nn_le, z_nn_ge, z_nn_gt, z_nn_eq, z_nn_eq2, z_bit, z_wow, z_wo, z_or, z_shl, z_if, z_ifn, fbit, if_true, if_false, Nat.zero_add, Nat.add_zero, not_false_iff, not_true]
    exact ⟨m, rfl, hI⟩
theorem fflicker6 {A : Nat → Nat} {mm : gM} (h : RMq A mm) (w : WF A) (hv : VCq A mm) : fX6_flicker mm = some (nI (fkr A 48)) := by
  refine loop_up (fun n p => lX6_flicker_4 mm n (nI (fkr A p)) (nI p)) _ 48 (fun n p hp => ?_) (fun n => ?_) FU 0 (by decide) (by decide)
  · have hi : p / 8 < 6 := by omega
    have hk : p % 8 < 8 := by omega
    have h1 := wk_lt w hi
    have h2 := fkr_le w p (by omega)
    have h3 := mq_le w hi hk
    have h4 := lq_mq (A := A) (p / 8) (p % 8)
    obtain ⟨d1, d2, d3⟩ := hv _ _ hi hk
    rw [show 8 * (p / 8) + p % 8 = p by omega] at d1 d2 d3
    rw [lX6_flicker_4_s]
    simp (disch := omega) only [z_nn2, z0, z1, z2, z3, z4, z5, z6, z7, z8, z9, z10, z11, z12, z13, z14, z15, z16, z17, z18, z19, z20, z23, z24, z28, z31, z32, z33, z45, z46, z47, z48, z52, z57, z60, z63, z65, z70, z80, z95, z100, z126, z127, z128, z200, z240, z255, z400, z480, z500, z840, z1023, z2000, z99999, z1073741824, z_nn, z_add, z_sub, z_mul, z_div, z_rem, z_cl, z_in, z_chk, z_chkp, z_bnd, z_bn2, z_wth, z_bxr, z_bxl, z_bx2r, z_bx2l, z_bz0, z_bz1, z_mx, z_mn, z_tb1, z_tb0, z_eq, z_le, z_lt, z_nn_lt, z_nn_le, z_nn_ge, z_nn_gt, z_nn_eq, z_nn_eq2, z_bit, z_wow, z_wo, z_or, z_shl, z_if, z_ifn, fbit, if_true, if_false, Nat.zero_add, Nat.add_zero, not_false_iff, not_true, fworks6 h w, d2, d3, jX6_flicker_72, jX6_flicker_73, jX6_flicker_34]
    show _ = lX6_flicker_4 mm n (nI (if tbq (wkq A (p / 8)) (p % 8) = 1 then max (fkr A p) (mq A (p / 8) (p % 8) - lq A (p / 8) (p % 8)) else fkr A p)) (nI (p + 1))
    by_cases c : tbq (wkq A (p / 8)) (p % 8) = 1
    · rw [if_pos c, if_pos c]
      by_cases c2 : mq A (p / 8) (p % 8) - lq A (p / 8) (p % 8) ≤ fkr A p
      · rw [if_pos c2, Nat.max_eq_left c2]
      · rw [if_neg c2, Nat.max_eq_right (by omega)]
    · rw [if_neg c, if_neg c]
  · rw [lX6_flicker_4_s]
    simp (disch := omega) only [z_nn2, z0, z1, z2, z3, z4, z5, z6, z7, z8, z9, z10, z11, z12, z13, z14, z15, z16, z17, z18, z19, z20, z23, z24, z28, z31, z32, z33, z45, z46, z47, z48, z52, z57, z60, z63, z65, z70, z80, z95, z100, z126, z127, z128, z200, z240, z255, z400, z480, z500, z840, z1023, z2000, z99999, z1073741824, z_nn, z_add, z_sub, z_mul, z_div, z_rem, z_cl, z_in, z_chk, z_chkp, z_bnd, z_bn2, z_wth, z_bxr, z_bxl, z_bx2r, z_bx2l, z_bz0, z_bz1, z_mx, z_mn, z_tb1, z_tb0, z_eq, z_le, z_lt, z_nn_lt, z_nn_le, z_nn_ge, z_nn_gt, z_nn_eq, z_nn_eq2, z_bit, z_wow, z_wo, z_or, z_shl, z_if, z_ifn, fbit, if_true, if_false, Nat.zero_add, Nat.add_zero, not_false_iff, not_true]
