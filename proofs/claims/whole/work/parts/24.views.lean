/-! THE REFERENCE'S VIEWS -/
theorem en_ge_tk (A : Nat → Nat) (i : Nat) : A (10 + 4 * i) ≤ tk A i := by
  unfold tk
  split <;> omega
theorem en_le_bg (A : Nat → Nat) (i : Nat) : en A i ≤ bg A i := by
  have h := en_ge_tk A i
  show en A i ≤ en A i + tk A i - A (10 + 4 * i)
  omega
theorem slot_ex (A : Nat → Nat) {tick : Nat} : ∀ N, tick < en A N → ∃ s, s < N ∧ en A s ≤ tick ∧ tick < en A (s + 1)
  | 0, h => absurd h (Nat.not_lt_zero _)
  | N + 1, h => by
    by_cases c : tick < en A N
    · obtain ⟨s, h1, h2⟩ := slot_ex A N c
      exact ⟨s, by omega, h2⟩
    · exact ⟨N, by omega, by omega, h⟩
theorem fslotAt {A : Nat → Nat} {mm : gM} (h : RMq A mm) (w : WF A) {s tick : Nat} (hs : s < 6) (h1 : en A s ≤ tick) (h2 : tick < en A (s + 1)) : fX6_slotAt (nI tick) mm = some (nI (100 * s + (tick - en A s))) := by
  have h3 := en_le w (s + 1) (by omega)
  refine loop_up (fun n j => lX6_slotAt_4 mm n (nI j) (nI (tick - en A j))) _ s (fun n j hj => ?_) (fun n => ?_) FU 0 (Nat.zero_le _) (by unfold FU; omega)
  · have h4 := en_mono A (i := j + 1) (j := s) (by omega)
    have h5 : en A (j + 1) = en A j + tk A j := rfl
    rw [lX6_slotAt_4_s]
    simp (disch := omega) only [z_nn2, z0, z1, z2, z3, z4, z5, z6, z7, z8, z9, z10, z11, z12, z13, z14, z15, z16, z17, z18, z19, z20, z23, z24, z28, z31, z32, z33, z45, z46, z47, z48, z52, z57, z60, z63, z65, z70, z80, z95, z100, z126, z127, z128, z200, z240, z255, z400, z480, z500, z840, z1023, z2000, z99999, z1073741824, z_nn, z_add, z_sub, z_mul, z_div, z_rem, z_cl, z_in, z_chk, z_chkp, z_bnd, z_bn2, z_wth, z_bxr, z_bxl, z_bx2r, z_bx2l, z_bz0, z_bz1, z_mx, z_mn, z_tb1, z_tb0, z_eq, z_le, z_lt, z_nn_lt, z_nn_le, z_nn_ge, z_nn_gt, z_nn_eq, z_nn_eq2, z_bit, z_wow, z_wo, z_or, z_shl, z_if, z_ifn, fbit, if_true, if_false, Nat.zero_add, Nat.add_zero, not_false_iff, not_true, ftk6 h w]
    congr 2
    omega
  · have h5 : en A (s + 1) = en A s + tk A s := rfl
    rw [lX6_slotAt_4_s]
    simp (disch := omega) only [z_nn2, z0, z1, z2, z3, z4, z5, z6, z7, z8, z9, z10, z11, z12, z13, z14, z15, z16, z17, z18, z19, z20, z23, z24, z28, z31, z32, z33, z45, z46, z47, z48, z52, z57, z60, z63, z65, z70, z80, z95, z100, z126, z127, z128, z200, z240, z255, z400, z480, z500, z840, z1023, z2000, z99999, z1073741824, z_nn, z_add, z_sub, z_mul, z_div, z_rem, z_cl, z_in, z_chk, z_chkp, z_bnd, z_bn2, z_wth, z_bxr, z_bxl, z_bx2r, z_bx2l, z_bz0, z_bz1, z_mx, z_mn, z_tb1, z_tb0, z_eq, z_le, z_lt, z_nn_lt, z_nn_le, z_nn_ge, z_nn_gt, z_nn_eq, z_nn_eq2, z_bit, z_wow, z_wo, z_or, z_shl, z_if, z_ifn, fbit, if_true, if_false, Nat.zero_add, Nat.add_zero, not_false_iff, not_true, ftk6 h w, jX6_slotAt_27]
theorem tb_wo {x f k : Nat} (hx : x < 256) : tbq (wo x f) k = 1 ↔ tbq x k = 1 ∧ tbq f k = 0 := by
  rw [tb_bit, tb_bit, tb_bit, wo_tb hx]
  cases x.testBit k <;> cases f.testBit k <;> decide
theorem flightOf {A : Nat → Nat} {mm : gM} (h : RMq A mm) (w : WF A) {s k b : Nat} (hs : s < 6) (hk : k < 8) (hb : b ≤ 1) : fX6_lightOf (nI s) (nI k) (nI b) mm = some (nI (max (if tbq (wkq A s) k = 1 then lfq A (wkq A s) else 0) (if b = 1 ∧ tbq (gh A s) k = 1 then gq A s else 0))) := by
  have hah := ahd_lt A hs
  have hw := w.wd
  have hw1 := wk_lt w hs
  have hw2 := wk_lt w hah
  have hbu := w.burnt hs
  have hl1 := lf_le w (wkq A s)
  have hl2 := lf_le w (wkq A (ahd A s))
  have t1 := tb_lt (A (11 + 4 * s)) k
  have e101 : ∀ x g, x ≤ 2000 → g ≤ 2000 → jX6_lightOf_101 mm (nI x) (nI g) = some (nI (max x g)) := by
    intro x g hx hg
    unfold jX6_lightOf_101
    simp (disch := omega) only [z_le]
    split
    · rw [Nat.max_eq_left (by assumption)]
    · rw [Nat.max_eq_right (by omega)]
  have key : ∀ x, x ≤ 2000 → jX6_lightOf_22 mm (nI s) (nI k) (nI b) (nI x) = some (nI (max x (if b = 1 ∧ tbq (gh A s) k = 1 then gq A s else 0))) := by
    intro x hx
    unfold jX6_lightOf_22 jX6_lightOf_81 jX6_lightOf_82
    simp (disch := omega) only [z_nn2, z0, z1, z2, z3, z4, z5, z6, z7, z8, z9, z10, z11, z12, z13, z14, z15, z16, z17, z18, z19, z20, z23, z24, z28, z31, z32, z33, z45, z46, z47, z48, z52, z57, z60, z63, z65, z70, z80, z95, z100, z126, z127, z128, z200, z240, z255, z400, z480, z500, z840, z1023, z2000, z99999, z1073741824, z_nn, z_add, z_sub, z_mul, z_div, z_rem, z_cl, z_in, z_chk, z_chkp, z_bnd, z_bn2, z_wth, z_bxr, z_bxl, z_bx2r, z_bx2l, z_bz0, z_bz1, z_mx, z_mn, z_tb1, z_tb0, z_eq, z_le, z_lt, z_nn_lt, z_nn_le, z_nn_ge, z_nn_gt, z_nn_eq, z_nn_eq2, z_bit, z_wow, z_wo, z_or, z_shl, z_if, z_ifn, fbit, if_true, if_false, Nat.zero_add, Nat.add_zero, not_false_iff, not_true, fahead6 h w, h 0, fworks6 h w, fof h, show 8 + 4 * s + 3 = 11 + 4 * s by omega, flight6 h w, e101]
    unfold gh gq
    by_cases c0 : A 0 = 0
    · rw [if_pos c0, if_pos c0, if_pos c0]
      by_cases c1 : b = 0
      · rw [if_pos c1, if_neg (show ¬ (b = 1 ∧ _) from fun z => by omega)]
      · rw [if_neg c1]
        by_cases c2 : ahd A s = s
        · rw [if_pos c2, if_pos c2, if_pos c2]
          congr 3
          split <;> rfl
        · rw [if_neg c2, if_neg c2, if_neg c2]
          by_cases c3 : tbq (wkq A (ahd A s)) k = 1
          · rw [if_pos c3]
            by_cases c4 : tbq (A (11 + 4 * s)) k = 0
            · rw [if_pos c4, if_pos ⟨by omega, (tb_wo hw2).mpr ⟨c3, c4⟩⟩]
            · rw [if_neg c4, if_neg (fun z => c4 ((tb_wo hw2).mp z.2).2)]
          · rw [if_neg c3, if_neg (fun z => c3 ((tb_wo hw2).mp z.2).1)]
    · rw [if_neg c0, if_neg c0, if_neg c0]
      congr 3
      split <;> rfl
  unfold fX6_lightOf
  simp (disch := omega) only [z_nn2, z0, z1, z2, z3, z4, z5, z6, z7, z8, z9, z10, z11, z12, z13, z14, z15, z16, z17, z18, z19, z20, z23, z24, z28, z31, z32, z33, z45, z46, z47, z48, z52, z57, z60, z63, z65, z70, z80, z95, z100, z126, z127, z128, z200, z240, z255, z400, z480, z500, z840, z1023, z2000, z99999, z1073741824, z_nn, z_add, z_sub, z_mul, z_div, z_rem, z_cl, z_in, z_chk, z_chkp, z_bnd, z_bn2, z_wth, z_bxr, z_bxl, z_bx2r, z_bx2l, z_bz0, z_bz1, z_mx, z_mn, z_tb1, z_tb0, z_eq, z_le, z_lt, z_nn_lt, z_nn_le, z_nn_ge, z_nn_gt, z_nn_eq, z_nn_eq2, z_bit, z_wow, z_wo, z_or, z_shl, z_if, z_ifn, fbit, if_true, if_false, Nat.zero_add, Nat.add_zero, not_false_iff, not_true, fworks6 h w, flight6 h w]
  by_cases c : tbq (wkq A s) k = 1
  · rw [if_pos c, if_pos c, key _ hl1]
  · rw [if_neg c, if_neg c, key _ (by omega)]
theorem fleft {A : Nat → Nat} {mm : gM} (h : RMq A mm) (w : WF A) {g : Nat} (hg : g ≤ 2000) : fX6_left (nI g) mm = some (nI (g - g / A 2 - 1)) := by
  have hw := w.wd
  have hd : g / A 2 ≤ g := Nat.div_le_self _ _
  have hd2 : g - g / A 2 ≤ 2000 := Nat.le_trans (Nat.sub_le _ _) hg
  unfold fX6_left
  simp (disch := omega) only [z_nn2, z0, z1, z2, z3, z4, z5, z6, z7, z8, z9, z10, z11, z12, z13, z14, z15, z16, z17, z18, z19, z20, z23, z24, z28, z31, z32, z33, z45, z46, z47, z48, z52, z57, z60, z63, z65, z70, z80, z95, z100, z126, z127, z128, z200, z240, z255, z400, z480, z500, z840, z1023, z2000, z99999, z1073741824, z_nn, z_add, z_sub, z_mul, z_div, z_rem, z_cl, z_in, z_chk, z_chkp, z_bnd, z_bn2, z_wth, z_bxr, z_bxl, z_bx2r, z_bx2l, z_bz0, z_bz1, z_mx, z_mn, z_tb1, z_tb0, z_eq, z_le, z_lt, z_nn_lt, z_nn_le, z_nn_ge, z_nn_gt, z_nn_eq, z_nn_eq2, z_bit, z_wow, z_wo, z_or, z_shl, z_if, z_ifn, fbit, if_true, if_false, Nat.zero_add, Nat.add_zero, not_false_iff, not_true, h 2]
  by_cases c : g - g / A 2 = 0
  · rw [c]
    decide +kernel
  · simp (disch := omega) only [z_nn2, z0, z1, z2, z3, z4, z5, z6, z7, z8, z9, z10, z11, z12, z13, z14, z15, z16, z17, z18, z19, z20, z23, z24, z28, z31, z32, z33, z45, z46, z47, z48, z52, z57, z60, z63, z65, z70, z80, z95, z100, z126, z127, z128, z200, z240, z255, z400, z480, z500, z840, z1023, z2000, z99999, z1073741824, z_nn, z_add, z_sub, z_mul, z_div, z_rem, z_cl, z_in, z_chk, z_chkp, z_bnd, z_bn2, z_wth, z_bxr, z_bxl, z_bx2r, z_bx2l, z_bz0, z_bz1, z_mx, z_mn, z_tb1, z_tb0, z_eq, z_le, z_lt, z_nn_lt, z_nn_le, z_nn_ge, z_nn_gt, z_nn_eq, z_nn_eq2, z_bit, z_wow, z_wo, z_or, z_shl, z_if, z_ifn, fbit, if_true, if_false, Nat.zero_add, Nat.add_zero, not_false_iff, not_true]
def P29 : Nat → Nat → Bool := fun c _ => c == 29
theorem gs_off {A : Nat → Nat} {s i k tick g : Nat} (h1 : en A s ≤ tick) (h2 : tick < en A (s + 1)) (hc : i ≠ s ∨ tick < bg A i) : gs A i k tick g = g - g / A 2 - 1 := by
  have h3 := en_le_bg A i
  have hed : ed A i = en A (i + 1) := rfl
  have hh : ¬ (bg A i ≤ tick ∧ tick < ed A i) ∧ ¬ (tick = bg A i ∧ bg A i < ed A i) := by
    rcases hc with hc | hc
    · rcases Nat.lt_or_gt_of_ne hc with c | c
      · have := en_mono A (i := i + 1) (j := s) (by omega)
        constructor <;> omega
      · have := en_mono A (i := s + 1) (j := i) (by omega)
        constructor <;> omega
    · constructor <;> omega
  unfold gs
  rw [if_neg (fun z => hh.1 ⟨z.1, z.2.1⟩), if_neg (fun z => hh.2 ⟨z.1, z.2.1⟩), Nat.max_eq_left (Nat.zero_le _), Nat.max_eq_left (Nat.zero_le _)]
theorem gs_on {A : Nat → Nat} {s k tick g : Nat} (h1 : en A s ≤ tick) (h2 : tick < en A (s + 1)) (hc : A 0 ≤ tick - en A s) : gs A s k tick g = max (g - g / A 2 - 1) (max (if tbq (wkq A s) k = 1 then lfq A (wkq A s) else 0) (if (if tick - en A s = A 0 then 1 else 0) = 1 ∧ tbq (gh A s) k = 1 then gq A s else 0)) := by
  have hed : ed A s = en A s + tk A s := rfl
  have hbg : bg A s = en A s + tk A s - A (10 + 4 * s) := rfl
  have h2' : tick < en A s + tk A s := h2
  have htk : tk A s = A 0 + A (10 + 4 * s) := by
    unfold tk at h2' ⊢
    split at h2'
    · omega
    · rw [if_neg (by assumption)]
  unfold gs
  rw [Nat.max_assoc]
  congr 2
  · by_cases c : tbq (wkq A s) k = 1
    · rw [if_pos c, if_pos ⟨by omega, by omega, c⟩]
    · rw [if_neg c, if_neg (fun z => c z.2.2)]
  · by_cases c : tick - en A s = A 0
    · rw [if_pos c]
      by_cases c2 : tbq (gh A s) k = 1
      · rw [if_pos (show tick = bg A s ∧ bg A s < ed A s ∧ tbq (gh A s) k = 1 from ⟨by omega, by omega, c2⟩), if_pos (show 1 = 1 ∧ tbq (gh A s) k = 1 from ⟨rfl, c2⟩)]
      · rw [if_neg (show ¬ (tick = bg A s ∧ bg A s < ed A s ∧ tbq (gh A s) k = 1) from fun z => c2 z.2.2), if_neg (show ¬ (1 = 1 ∧ tbq (gh A s) k = 1) from fun z => c2 z.2)]
    · rw [if_neg c, if_neg (fun z => by omega), if_neg (fun z => by omega)]
theorem fticks {A : Nat → Nat} {mm : gM} (h : RMq A mm) (w : WF A) {tick : Nat} (ht : tick < rt A) {G : Nat → Nat} (hG : ∀ p, p < 48 → gi mm 29 0 p = nI (G p)) (hG2 : ∀ p, p < 48 → G p ≤ 2000) : ∃ m1, fX6_ticks (nI tick) mm = some m1 ∧ Frq P29 mm m1 ∧ ∀ p, p < 48 → gi m1 29 0 p = nI (gs A (p / 8) (p % 8) tick (G p)) := by
  obtain ⟨s, hs, h1, h2⟩ := slot_ex A 6 ht
  have h3 := rt_le w
  have hw := w.wd
  have h6 : rt A = en A 6 := rfl
  have h7 : tick - en A s < 138 := by omega
  have hm1 : (100 * s + (tick - en A s)) / 100 = s + (tick - en A s) / 100 := by omega
  have htk := tk_le w hs
  have h8 : en A (s + 1) = en A s + tk A s := rfl
  unfold fX6_ticks
  simp (disch := omega) only [z_nn2, z0, z1, z2, z3, z4, z5, z6, z7, z8, z9, z10, z11, z12, z13, z14, z15, z16, z17, z18, z19, z20, z23, z24, z28, z31, z32, z33, z45, z46, z47, z48, z52, z57, z60, z63, z65, z70, z80, z95, z100, z126, z127, z128, z200, z240, z255, z400, z480, z500, z840, z1023, z2000, z99999, z1073741824, z_nn, z_add, z_sub, z_mul, z_div, z_rem, z_cl, z_in, z_chk, z_chkp, z_bnd, z_bn2, z_wth, z_bxr, z_bxl, z_bx2r, z_bx2l, z_bz0, z_bz1, z_mx, z_mn, z_tb1, z_tb0, z_eq, z_le, z_lt, z_nn_lt, z_nn_le, z_nn_ge, z_nn_gt, z_nn_eq, z_nn_eq2, z_bit, z_wow, z_wo, z_or, z_shl, z_if, z_ifn, fbit, if_true, if_false, Nat.zero_add, Nat.add_zero, not_false_iff, not_true, fslotAt h w hs h1 h2, show (100 * s + (tick - en A s)) / 100 = s by omega, show (100 * s + (tick - en A s)) % 100 = tick - en A s by omega]
  refine loop_ex (fun n x m => lX6_ticks_20 n (nI s) (nI (tick - en A s)) (nI x) m) (fun x m => Frq P29 mm m ∧ ∀ p, p < 48 → gi m 29 0 p = nI (if p < x then gs A (p / 8) (p % 8) tick (G p) else G p)) (fun o => ∃ m1, o = some m1 ∧ Frq P29 mm m1 ∧ ∀ p, p < 48 → gi m1 29 0 p = nI (gs A (p / 8) (p % 8) tick (G p))) 48 (fun n x m hx hI => ?_) (fun n m hI => ?_) FU 0 mm (by decide) (by decide) ⟨Frq.rf, fun p hp => ?_⟩
  · obtain ⟨hf, hv⟩ := hI
    have hr : RMq A m := h.fr hf rfl
    have hgx : gi m 29 0 x = nI (G x) := by rw [hv x hx, if_neg (Nat.lt_irrefl x)]
    have hG3 := hG2 x hx
    have hd : G x / A 2 ≤ G x := Nat.div_le_self _ _
    have hd2 : G x - G x / A 2 ≤ 2000 := Nat.le_trans (Nat.sub_le _ _) hG3
    have hd3 : G x - G x / A 2 - 1 ≤ 2000 := Nat.le_trans (Nat.sub_le _ _) hd2
    have k89 : ∀ v, v ≤ 2000 → jX6_ticks_89 (lX6_ticks_20 n) (nI s) (nI (tick - en A s)) (nI x) (nI v) m = lX6_ticks_20 n (nI s) (nI (tick - en A s)) (nI (x + 1)) (si m 29 0 x (nI (max (G x - G x / A 2 - 1) v))) := by
      intro v hv
      unfold jX6_ticks_89 jX6_ticks_124
      simp (disch := omega) only [z_nn2, z0, z1, z2, z3, z4, z5, z6, z7, z8, z9, z10, z11, z12, z13, z14, z15, z16, z17, z18, z19, z20, z23, z24, z28, z31, z32, z33, z45, z46, z47, z48, z52, z57, z60, z63, z65, z70, z80, z95, z100, z126, z127, z128, z200, z240, z255, z400, z480, z500, z840, z1023, z2000, z99999, z1073741824, z_nn, z_add, z_sub, z_mul, z_div, z_rem, z_cl, z_in, z_chk, z_chkp, z_bnd, z_bn2, z_wth, z_bxr, z_bxl, z_bx2r, z_bx2l, z_bz0, z_bz1, z_mx, z_mn, z_tb1, z_tb0, z_eq, z_le, z_lt, z_nn_lt, z_nn_le, z_nn_ge, z_nn_gt, z_nn_eq, z_nn_eq2, z_bit, z_wow, z_wo, z_or, z_shl, z_if, z_ifn, fbit, if_true, if_false, Nat.zero_add, Nat.add_zero, not_false_iff, not_true, hgx, fleft hr w]
      by_cases c : v ≤ G x - G x / A 2 - 1
      · rw [if_pos c, Nat.max_eq_left c]
      · rw [if_neg c, Nat.max_eq_right (by omega)]
    refine ⟨si m 29 0 x (nI (gs A (x / 8) (x % 8) tick (G x))), ⟨hf.tr (Frq.si rfl), fun p hp => ?_⟩, ?_⟩
    · by_cases c : p = x
      · subst c
        rw [gi_si, if_pos ⟨rfl, rfl, rfl⟩, if_pos (Nat.lt_succ_self _)]
      · rw [gi_si, if_neg (fun z => c z.2.2), hv p hp]
        by_cases c2 : p < x
        · rw [if_pos c2, if_pos (by omega)]
        · rw [if_neg c2, if_neg (by omega)]
    · show lX6_ticks_20 (n + 1) (nI s) (nI (tick - en A s)) (nI x) m = _
      rw [lX6_ticks_20_s]
      have hlo := fun b hb => flightOf (b := b) hr w hs (k := x % 8) (by omega) hb
      have hl1 := lf_le w (wkq A s)
      have hl2 := gq_le w s
      have hmx : ∀ b, max (if tbq (wkq A s) (x % 8) = 1 then lfq A (wkq A s) else 0) (if b = 1 ∧ tbq (gh A s) (x % 8) = 1 then gq A s else 0) ≤ 2000 := by
        intro b
        refine Nat.max_le.mpr ⟨?_, ?_⟩ <;> split <;> omega
      by_cases c1 : x / 8 = s
      · by_cases c2 : tick - en A s < A 0
        · simp (disch := omega) only [z_nn2, z0, z1, z2, z3, z4, z5, z6, z7, z8, z9, z10, z11, z12, z13, z14, z15, z16, z17, z18, z19, z20, z23, z24, z28, z31, z32, z33, z45, z46, z47, z48, z52, z57, z60, z63, z65, z70, z80, z95, z100, z126, z127, z128, z200, z240, z255, z400, z480, z500, z840, z1023, z2000, z99999, z1073741824, z_nn, z_add, z_sub, z_mul, z_div, z_rem, z_cl, z_in, z_chk, z_chkp, z_bnd, z_bn2, z_wth, z_bxr, z_bxl, z_bx2r, z_bx2l, z_bz0, z_bz1, z_mx, z_mn, z_tb1, z_tb0, z_eq, z_le, z_lt, z_nn_lt, z_nn_le, z_nn_ge, z_nn_gt, z_nn_eq, z_nn_eq2, z_bit, z_wow, z_wo, z_or, z_shl, z_if, z_ifn, fbit, if_true, if_false, Nat.zero_add, Nat.add_zero, not_false_iff, not_true, hr 0, jX6_ticks_51, jX6_ticks_52, k89]
          rw [gs_off h1 h2 (Or.inr (by
            have hbg : bg A (x / 8) = en A (x / 8) + tk A (x / 8) - A (10 + 4 * (x / 8)) := rfl
            have htk2 : tk A s = A 0 + A (10 + 4 * s) := by
              have h9 : 0 < tk A s := by omega
              unfold tk at h9 ⊢
              split at h9
              · omega
              · rw [if_neg (by assumption)]
            rw [hbg, c1]
            omega)), Nat.max_eq_left (Nat.zero_le _)]
        · have e := gs_on (k := x % 8) (g := G x) h1 h2 (by omega)
          rw [c1, e]
          simp (disch := omega) only [z_nn2, z0, z1, z2, z3, z4, z5, z6, z7, z8, z9, z10, z11, z12, z13, z14, z15, z16, z17, z18, z19, z20, z23, z24, z28, z31, z32, z33, z45, z46, z47, z48, z52, z57, z60, z63, z65, z70, z80, z95, z100, z126, z127, z128, z200, z240, z255, z400, z480, z500, z840, z1023, z2000, z99999, z1073741824, z_nn, z_add, z_sub, z_mul, z_div, z_rem, z_cl, z_in, z_chk, z_chkp, z_bnd, z_bn2, z_wth, z_bxr, z_bxl, z_bx2r, z_bx2l, z_bz0, z_bz1, z_mx, z_mn, z_tb1, z_tb0, z_eq, z_le, z_lt, z_nn_lt, z_nn_le, z_nn_ge, z_nn_gt, z_nn_eq, z_nn_eq2, z_bit, z_wow, z_wo, z_or, z_shl, z_if, z_ifn, fbit, if_true, if_false, Nat.zero_add, Nat.add_zero, not_false_iff, not_true, hr 0, jX6_ticks_52, c1]
          unfold jX6_ticks_82
          by_cases c3 : tick - en A s = A 0
          · rw [if_pos c3, if_pos c3, hlo 1 (by decide), z_bnd, k89 _ (hmx 1)]
          · rw [if_neg c3, if_neg c3, hlo 0 (by decide), z_bnd, k89 _ (hmx 0)]
      · simp (disch := omega) only [z_nn2, z0, z1, z2, z3, z4, z5, z6, z7, z8, z9, z10, z11, z12, z13, z14, z15, z16, z17, z18, z19, z20, z23, z24, z28, z31, z32, z33, z45, z46, z47, z48, z52, z57, z60, z63, z65, z70, z80, z95, z100, z126, z127, z128, z200, z240, z255, z400, z480, z500, z840, z1023, z2000, z99999, z1073741824, z_nn, z_add, z_sub, z_mul, z_div, z_rem, z_cl, z_in, z_chk, z_chkp, z_bnd, z_bn2, z_wth, z_bxr, z_bxl, z_bx2r, z_bx2l, z_bz0, z_bz1, z_mx, z_mn, z_tb1, z_tb0, z_eq, z_le, z_lt, z_nn_lt, z_nn_le, z_nn_ge, z_nn_gt, z_nn_eq, z_nn_eq2, z_bit, z_wow, z_wo, z_or, z_shl, z_if, z_ifn, fbit, if_true, if_false, Nat.zero_add, Nat.add_zero, not_false_iff, not_true, jX6_ticks_51, jX6_ticks_52, k89]
        rw [gs_off h1 h2 (Or.inl c1), Nat.max_eq_left (Nat.zero_le _)]
  · obtain ⟨hf, hv⟩ := hI
    rw [lX6_ticks_20_s]
    simp (disch := omega) only [z_nn2, z0, z1, z2, z3, z4, z5, z6, z7, z8, z9, z10, z11, z12, z13, z14, z15, z16, z17, z18, z19, z20, z23, z24, z28, z31, z32, z33, z45, z46, z47, z48, z52, z57, z60, z63, z65, z70, z80, z95, z100, z126, z127, z128, z200, z240, z255, z400, z480, z500, z840, z1023, z2000, z99999, z1073741824, z_nn, z_add, z_sub, z_mul, z_div, z_rem, z_cl, z_in, z_chk, z_chkp, z_bnd, z_bn2, z_wth, z_bxr, z_bxl, z_bx2r, z_bx2l, z_bz0, z_bz1, z_mx, z_mn, z_tb1, z_tb0, z_eq, z_le, z_lt, z_nn_lt, z_nn_le, z_nn_ge, z_nn_gt, z_nn_eq, z_nn_eq2, z_bit, z_wow, z_wo, z_or, z_shl, z_if, z_ifn, fbit, if_true, if_false, Nat.zero_add, Nat.add_zero, not_false_iff, not_true]
    exact ⟨m, rfl, hf, fun p hp => by rw [hv p hp, if_pos hp]⟩
  · rw [if_neg (Nat.not_lt_zero p)]
    exact hG p hp
theorem fcopies {A : Nat → Nat} {mm : gM} (h : RMq A mm) : ∃ m1, fX6_copiesGlows mm = some m1 ∧ Frq P29 mm m1 ∧ ∀ p, p < 48 → gi m1 29 0 p = nI (A (32 + p)) := by
  refine loop_ex (fun n x m => lX6_copiesGlows_2 n (nI x) m) (fun x m => Frq P29 mm m ∧ ∀ p, p < x → gi m 29 0 p = nI (A (32 + p))) (fun o => ∃ m1, o = some m1 ∧ Frq P29 mm m1 ∧ ∀ p, p < 48 → gi m1 29 0 p = nI (A (32 + p))) 48 (fun n x m hx hI => ?_) (fun n m hI => ?_) FU 0 mm (by decide) (by decide) ⟨Frq.rf, fun p hp => absurd hp (Nat.not_lt_zero p)⟩
  · obtain ⟨hf, hv⟩ := hI
    have hr : RMq A m := h.fr hf rfl
    refine ⟨si m 29 0 x (nI (A (32 + x))), ⟨hf.tr (Frq.si rfl), fun p hp => ?_⟩, ?_⟩
    · by_cases c : p = x
      · subst c
        rw [gi_si, if_pos ⟨rfl, rfl, rfl⟩]
      · rw [gi_si, if_neg (fun z => c z.2.2)]
        exact hv p (by omega)
    · show lX6_copiesGlows_2 (n + 1) (nI x) m = _
      rw [lX6_copiesGlows_2_s]
      simp (disch := omega) only [z_nn2, z0, z1, z2, z3, z4, z5, z6, z7, z8, z9, z10, z11, z12, z13, z14, z15, z16, z17, z18, z19, z20, z23, z24, z28, z31, z32, z33, z45, z46, z47, z48, z52, z57, z60, z63, z65, z70, z80, z95, z100, z126, z127, z128, z200, z240, z255, z400, z480, z500, z840, z1023, z2000, z99999, z1073741824, z_nn, z_add, z_sub, z_mul, z_div, z_rem, z_cl, z_in, z_chk, z_chkp, z_bnd, z_bn2, z_wth, z_bxr, z_bxl, z_bx2r, z_bx2l, z_bz0, z_bz1, z_mx, z_mn, z_tb1, z_tb0, z_eq, z_le, z_lt, z_nn_lt, z_nn_le, z_nn_ge, z_nn_gt, z_nn_eq, z_nn_eq2, z_bit, z_wow, z_wo, z_or, z_shl, z_if, z_ifn, fbit, if_true, if_false, Nat.zero_add, Nat.add_zero, not_false_iff, not_true, hr _]
  · obtain ⟨hf, hv⟩ := hI
    rw [lX6_copiesGlows_2_s]
    simp (disch := omega) only [z_nn2, z0, z1, z2, z3, z4, z5, z6, z7, z8, z9, z10, z11, z12, z13, z14, z15, z16, z17, z18, z19, z20, z23, z24, z28, z31, z32, z33, z45, z46, z47, z48, z52, z57, z60, z63, z65, z70, z80, z95, z100, z126, z127, z128, z200, z240, z255, z400, z480, z500, z840, z1023, z2000, z99999, z1073741824, z_nn, z_add, z_sub, z_mul, z_div, z_rem, z_cl, z_in, z_chk, z_chkp, z_bnd, z_bn2, z_wth, z_bxr, z_bxl, z_bx2r, z_bx2l, z_bz0, z_bz1, z_mx, z_mn, z_tb1, z_tb0, z_eq, z_le, z_lt, z_nn_lt, z_nn_le, z_nn_ge, z_nn_gt, z_nn_eq, z_nn_eq2, z_bit, z_wow, z_wo, z_or, z_shl, z_if, z_ifn, fbit, if_true, if_false, Nat.zero_add, Nat.add_zero, not_false_iff, not_true]
    exact ⟨m, rfl, hf, hv⟩
def PVq : Nat → Nat → Bool := fun c _ => c == 29 || c == 30 || c == 31 || c == 32
theorem P29_PV {m m1 : gM} (h : Frq P29 m m1) : Frq PVq m m1 := h.mono (fun c t hc => by
  unfold PVq at hc
  unfold P29
  simp at hc ⊢
  omega)
theorem fzero {mm : gM} {x1 : Int32} : ∃ m1, lX6_views_11 FU x1 (nI 0) mm = jX6_views_44 x1 m1 ∧ Frq PVq mm m1 ∧ (∀ p, p < 48 → gi m1 30 0 p = nI 0 ∧ gi m1 31 0 p = nI 0 ∧ gi m1 32 0 p = nI 0) ∧ ∀ p, gi m1 29 0 p = gi mm 29 0 p := by
  refine loop_ex (fun n x m => lX6_views_11 n x1 (nI x) m) (fun x m => Frq PVq mm m ∧ (∀ p, p < x → gi m 30 0 p = nI 0 ∧ gi m 31 0 p = nI 0 ∧ gi m 32 0 p = nI 0) ∧ ∀ p, gi m 29 0 p = gi mm 29 0 p) (fun o => ∃ m1, o = jX6_views_44 x1 m1 ∧ Frq PVq mm m1 ∧ (∀ p, p < 48 → gi m1 30 0 p = nI 0 ∧ gi m1 31 0 p = nI 0 ∧ gi m1 32 0 p = nI 0) ∧ ∀ p, gi m1 29 0 p = gi mm 29 0 p) 48 (fun n x m hx hI => ?_) (fun n m hI => ?_) FU 0 mm (by decide) (by decide) ⟨Frq.rf, fun p hp => absurd hp (Nat.not_lt_zero p), fun _ => rfl⟩
  · obtain ⟨hf, hv, hg⟩ := hI
    refine ⟨si (si (si m 30 0 x (nI 0)) 31 0 x (nI 0)) 32 0 x (nI 0), ⟨((hf.tr (Frq.si rfl)).tr (Frq.si rfl)).tr (Frq.si rfl), fun p hp => ?_, fun p => ?_⟩, ?_⟩
    · by_cases c : p = x
      · subst c
        refine ⟨?_, ?_, ?_⟩ <;> simp (disch := omega) only [gi_si, z_if, z_ifn, and_self, if_true]
      · obtain ⟨b1, b2, b3⟩ := hv p (by omega)
        refine ⟨?_, ?_, ?_⟩ <;> simp (disch := omega) only [gi_si, z_ifn, and_self, if_true, b1, b2, b3]
    · simp (disch := omega) only [gi_si, z_ifn, and_self, if_true, hg]
    · show lX6_views_11 (n + 1) x1 (nI x) m = _
      rw [lX6_views_11_s]
      simp (disch := omega) only [z_nn2, z0, z1, z2, z3, z4, z5, z6, z7, z8, z9, z10, z11, z12, z13, z14, z15, z16, z17, z18, z19, z20, z23, z24, z28, z31, z32, z33, z45, z46, z47, z48, z52, z57, z60, z63, z65, z70, z80, z95, z100, z126, z127, z128, z200, z240, z255, z400, z480, z500, z840, z1023, z2000, z99999, z1073741824, z_nn, z_add, z_sub, z_mul, z_div, z_rem, z_cl, z_in, z_chk, z_chkp, z_bnd, z_bn2, z_wth, z_bxr, z_bxl, z_bx2r, z_bx2l, z_bz0, z_bz1, z_mx, z_mn, z_tb1, z_tb0, z_eq, z_le, z_lt, z_nn_lt, z_nn_le, z_nn_ge, z_nn_gt, z_nn_eq, z_nn_eq2, z_bit, z_wow, z_wo, z_or, z_shl, z_if, z_ifn, fbit, if_true, if_false, Nat.zero_add, Nat.add_zero, not_false_iff, not_true]
  · obtain ⟨hf, hv, hg⟩ := hI
    rw [lX6_views_11_s]
    simp (disch := omega) only [z_nn2, z0, z1, z2, z3, z4, z5, z6, z7, z8, z9, z10, z11, z12, z13, z14, z15, z16, z17, z18, z19, z20, z23, z24, z28, z31, z32, z33, z45, z46, z47, z48, z52, z57, z60, z63, z65, z70, z80, z95, z100, z126, z127, z128, z200, z240, z255, z400, z480, z500, z840, z1023, z2000, z99999, z1073741824, z_nn, z_add, z_sub, z_mul, z_div, z_rem, z_cl, z_in, z_chk, z_chkp, z_bnd, z_bn2, z_wth, z_bxr, z_bxl, z_bx2r, z_bx2l, z_bz0, z_bz1, z_mx, z_mn, z_tb1, z_tb0, z_eq, z_le, z_lt, z_nn_lt, z_nn_le, z_nn_ge, z_nn_gt, z_nn_eq, z_nn_eq2, z_bit, z_wow, z_wo, z_or, z_shl, z_if, z_ifn, fbit, if_true, if_false, Nat.zero_add, Nat.add_zero, not_false_iff, not_true]
    exact ⟨m, rfl, hf, hv, hg⟩
/-- what the sums hold behind l of the last round's ticks -/
def VSq (A : Nat → Nat) (l : Nat) (p : Nat) (m : gM) : Prop := gi m 30 0 p = nI (su (gI A (p / 8) (p % 8)) (7 * rt A) l) ∧ gi m 31 0 p = nI (mo (gI A (p / 8) (p % 8)) (7 * rt A) l) ∧ gi m 32 0 p = nI (if l = 0 then 0 else lo2 (gI A (p / 8) (p % 8)) (7 * rt A) l)
theorem fview_in {A : Nat → Nat} {m : gM} (w : WF A) {l : Nat} (hl : l < rt A) (hg : ∀ p, p < 48 → gi m 29 0 p = nI (gI A (p / 8) (p % 8) (7 * rt A + l + 1))) (hv : ∀ p, p < 48 → VSq A l p m) (k46 : Int32 → Int32 → gM → Option gM) (x1 x2 : Int32) : ∃ m1, lX6_views_71 k46 FU x1 x2 (nI l) (nI 0) m = jX6_views_195 k46 x1 x2 m1 ∧ Frq PVq m m1 ∧ (∀ p, p < 48 → VSq A (l + 1) p m1) ∧ ∀ p, gi m1 29 0 p = gi m 29 0 p := by
  have hR := rt_le w
  refine loop_ex (fun n x m2 => lX6_views_71 k46 n x1 x2 (nI l) (nI x) m2) (fun x m2 => Frq PVq m m2 ∧ (∀ p, p < 48 → VSq A (if p < x then l + 1 else l) p m2) ∧ ∀ p, gi m2 29 0 p = gi m 29 0 p) (fun o => ∃ m1, o = jX6_views_195 k46 x1 x2 m1 ∧ Frq PVq m m1 ∧ (∀ p, p < 48 → VSq A (l + 1) p m1) ∧ ∀ p, gi m1 29 0 p = gi m 29 0 p) 48 (fun n x m2 hx hI => ?_) (fun n m2 hI => ?_) FU 0 m (by decide) (by decide) ⟨Frq.rf, fun p hp => ?_, fun _ => rfl⟩
  · obtain ⟨a1, a2, a3⟩ := hI
    have b := a2 x hx
    rw [if_neg (Nat.lt_irrefl x)] at b
    obtain ⟨b1, b2, b3⟩ := b
    have b4 : gi m2 29 0 x = nI (gI A (x / 8) (x % 8) (7 * rt A + l + 1)) := (a3 x).trans (hg x hx)
    have c0 := gI_le w (i := x / 8) (k := x % 8) (by omega) (by omega) (7 * rt A + l + 1)
    have c1 := su_le (b := 7 * rt A) (gI_le w (i := x / 8) (k := x % 8) (by omega) (by omega)) l
    have c2 := mo_le (b := 7 * rt A) (gI_le w (i := x / 8) (k := x % 8) (by omega) (by omega)) l
    have c3 := lo2_le (f := gI A (x / 8) (x % 8)) (b := 7 * rt A) l
    have d1 : su (gI A (x / 8) (x % 8)) (7 * rt A) (l + 1) = su (gI A (x / 8) (x % 8)) (7 * rt A) l + gI A (x / 8) (x % 8) (7 * rt A + l + 1) := rfl
    have d2 : mo (gI A (x / 8) (x % 8)) (7 * rt A) (l + 1) = max (mo (gI A (x / 8) (x % 8)) (7 * rt A) l) (gI A (x / 8) (x % 8) (7 * rt A + l + 1)) := rfl
    have d3 : lo2 (gI A (x / 8) (x % 8)) (7 * rt A) (l + 1) = min (lo2 (gI A (x / 8) (x % 8)) (7 * rt A) l) (gI A (x / 8) (x % 8) (7 * rt A + l + 1)) := rfl
    refine ⟨si (si (si m2 30 0 x (nI (su (gI A (x / 8) (x % 8)) (7 * rt A) (l + 1)))) 31 0 x (nI (mo (gI A (x / 8) (x % 8)) (7 * rt A) (l + 1)))) 32 0 x (nI (lo2 (gI A (x / 8) (x % 8)) (7 * rt A) (l + 1))), ⟨((a1.tr (Frq.si rfl)).tr (Frq.si rfl)).tr (Frq.si rfl), fun p hp => ?_, fun p => ?_⟩, ?_⟩
    · by_cases c : p = x
      · subst c
        rw [if_pos (Nat.lt_succ_self _)]
        refine ⟨?_, ?_, ?_⟩
        · simp (disch := omega) only [gi_si, z_if, z_ifn, and_self, if_true]
        · simp (disch := omega) only [gi_si, z_if, z_ifn, and_self, if_true]
        · simp (disch := omega) only [gi_si, z_if, z_ifn, and_self, if_true]
      · have e := a2 p hp
        have e2 : (if p < x + 1 then l + 1 else l) = if p < x then l + 1 else l := by
          by_cases c2 : p < x
          · rw [if_pos c2, if_pos (by omega)]
          · rw [if_neg c2, if_neg (by omega)]
        rw [e2]
        obtain ⟨e3, e4, e5⟩ := e
        refine ⟨?_, ?_, ?_⟩
        · simp (disch := omega) only [gi_si, z_ifn, and_self, if_true, e3]
        · simp (disch := omega) only [gi_si, z_ifn, and_self, if_true, e4]
        · simp (disch := omega) only [gi_si, z_ifn, and_self, if_true, e5]
    · simp (disch := omega) only [gi_si, z_ifn, and_self, if_true, a3]
    · show lX6_views_71 k46 (n + 1) x1 x2 (nI l) (nI x) m2 = _
      rw [lX6_views_71_s]
      generalize gI A (x / 8) (x % 8) = f at *
      by_cases cl : l = 0
      · subst cl
        have f0 : mo f (7 * rt A) 0 = 0 := rfl
        have f1 : lo2 f (7 * rt A) 0 = 1073741824 := rfl
        rw [f0, Nat.max_eq_right (Nat.zero_le _)] at d2
        rw [f1, Nat.min_eq_right (by omega)] at d3
        rw [d1, d2, d3]
        simp (disch := omega) only [z_nn2, z0, z1, z2, z3, z4, z5, z6, z7, z8, z9, z10, z11, z12, z13, z14, z15, z16, z17, z18, z19, z20, z23, z24, z28, z31, z32, z33, z45, z46, z47, z48, z52, z57, z60, z63, z65, z70, z80, z95, z100, z126, z127, z128, z200, z240, z255, z400, z480, z500, z840, z1023, z2000, z99999, z1073741824, z_nn, z_add, z_sub, z_mul, z_div, z_rem, z_cl, z_in, z_chk, z_chkp, z_bnd, z_bn2, z_wth, z_bxr, z_bxl, z_bx2r, z_bx2l, z_bz0, z_bz1, z_mx, z_mn, z_tb1, z_tb0, z_eq, z_le, z_lt, z_nn_lt, z_nn_le, z_nn_ge, z_nn_gt, z_nn_eq, z_nn_eq2, z_bit, z_wow, z_wo, z_or, z_shl, z_if, z_ifn, fbit, if_true, if_false, Nat.zero_add, Nat.add_zero, not_false_iff, not_true, b1, b2, b3, b4, jX6_views_126, jX6_views_143, jX6_views_171, jX6_views_188, gi_si]
      · rw [if_neg cl] at b3
        rw [d1, d2, d3]
        simp (disch := omega) only [z_nn2, z0, z1, z2, z3, z4, z5, z6, z7, z8, z9, z10, z11, z12, z13, z14, z15, z16, z17, z18, z19, z20, z23, z24, z28, z31, z32, z33, z45, z46, z47, z48, z52, z57, z60, z63, z65, z70, z80, z95, z100, z126, z127, z128, z200, z240, z255, z400, z480, z500, z840, z1023, z2000, z99999, z1073741824, z_nn, z_add, z_sub, z_mul, z_div, z_rem, z_cl, z_in, z_chk, z_chkp, z_bnd, z_bn2, z_wth, z_bxr, z_bxl, z_bx2r, z_bx2l, z_bz0, z_bz1, z_mx, z_mn, z_tb1, z_tb0, z_eq, z_le, z_lt, z_nn_lt, z_nn_le, z_nn_ge, z_nn_gt, z_nn_eq, z_nn_eq2, z_bit, z_wow, z_wo, z_or, z_shl, z_if, z_ifn, fbit, if_true, if_false, Nat.zero_add, Nat.add_zero, not_false_iff, not_true, b1, b2, b3, b4, jX6_views_126, jX6_views_143, jX6_views_171, jX6_views_188, gi_si]
        by_cases g1 : f (7 * rt A + l + 1) ≤ mo f (7 * rt A) l
        · rw [if_pos g1, Nat.max_eq_left g1]
          by_cases g2 : lo2 f (7 * rt A) l ≤ f (7 * rt A + l + 1)
          · rw [if_pos g2, Nat.min_eq_left g2]
          · rw [if_neg g2, Nat.min_eq_right (by omega)]
        · rw [if_neg g1, Nat.max_eq_right (by omega)]
          by_cases g2 : lo2 f (7 * rt A) l ≤ f (7 * rt A + l + 1)
          · rw [if_pos g2, Nat.min_eq_left g2]
          · rw [if_neg g2, Nat.min_eq_right (by omega)]
  · obtain ⟨a1, a2, a3⟩ := hI
    rw [lX6_views_71_s]
    simp (disch := omega) only [z_nn2, z0, z1, z2, z3, z4, z5, z6, z7, z8, z9, z10, z11, z12, z13, z14, z15, z16, z17, z18, z19, z20, z23, z24, z28, z31, z32, z33, z45, z46, z47, z48, z52, z57, z60, z63, z65, z70, z80, z95, z100, z126, z127, z128, z200, z240, z255, z400, z480, z500, z840, z1023, z2000, z99999, z1073741824, z_nn, z_add, z_sub, z_mul, z_div, z_rem, z_cl, z_in, z_chk, z_chkp, z_bnd, z_bn2, z_wth, z_bxr, z_bxl, z_bx2r, z_bx2l, z_bz0, z_bz1, z_mx, z_mn, z_tb1, z_tb0, z_eq, z_le, z_lt, z_nn_lt, z_nn_le, z_nn_ge, z_nn_gt, z_nn_eq, z_nn_eq2, z_bit, z_wow, z_wo, z_or, z_shl, z_if, z_ifn, fbit, if_true, if_false, Nat.zero_add, Nat.add_zero, not_false_iff, not_true]
    exact ⟨m2, rfl, a1, fun p hp => by have := a2 p hp; rw [if_pos hp] at this; exact this, a3⟩
  · rw [if_neg (Nat.not_lt_zero p)]
    exact hv p hp
/-- the reference has viewed A -/
def VCq (A : Nat → Nat) (mm : gM) : Prop := ∀ i k, i < 6 → k < 8 → gi mm 30 0 (8 * i + k) = nI (su (gI A i k) (7 * rt A) (rt A)) ∧ gi mm 31 0 (8 * i + k) = nI (mq A i k) ∧ gi mm 32 0 (8 * i + k) = nI (lq A i k)
theorem fviews {A : Nat → Nat} {mm : gM} (h : RMq A mm) (w : WF A) : ∃ m1, fX6_views mm = some m1 ∧ Frq PVq mm m1 ∧ VCq A m1 := by
  have hR := rt_le w
  unfold fX6_views
  rw [frt6 h w]
  simp only [z_bnd]
  obtain ⟨m2, e2, f2, g2⟩ := fcopies h
  rw [e2]
  simp only [z_bnd, z0]
  obtain ⟨m3, e3, f3, v3, g3⟩ := fzero (mm := m2) (x1 := nI (rt A))
  rw [e3]
  unfold jX6_views_44
  rw [z0]
  refine loop_ex (fun n x m => lX6_views_46 n (nI (rt A)) (nI x) m) (fun x m => Frq PVq mm m ∧ (∀ p, p < 48 → gi m 29 0 p = nI (gI A (p / 8) (p % 8) x)) ∧ ∀ p, p < 48 → VSq A (x - 7 * rt A) p m) (fun o => ∃ m1, o = some m1 ∧ Frq PVq mm m1 ∧ VCq A m1) (8 * rt A) (fun n x m hx hI => ?_) (fun n m hI => ?_) FU 0 m3 (Nat.zero_le _) (by unfold FU; omega) ⟨(P29_PV f2).tr f3, fun p hp => ?_, fun p hp => ?_⟩
  · obtain ⟨a1, a2, a3⟩ := hI
    have hr : RMq A m := h.fr a1 rfl
    have hlt : x % rt A < rt A := Nat.mod_lt _ (by omega)
    obtain ⟨m4, e4, f4, g4⟩ := fticks hr w hlt a2 (fun p hp => gI_le w (by omega) (by omega) x)
    have hr4 : ∀ c, c ≠ 29 → ∀ p, gi m4 c 0 p = gi m c 0 p := fun c hc p => f4.1 c 0 p (by simp [P29]; exact hc)
    have g5 : ∀ p, p < 48 → gi m4 29 0 p = nI (gI A (p / 8) (p % 8) (x + 1)) := g4
    have v4 : ∀ p, p < 48 → VSq A (x - 7 * rt A) p m4 := fun p hp => by
      obtain ⟨b1, b2, b3⟩ := a3 p hp
      refine ⟨?_, ?_, ?_⟩
      · rw [hr4 30 (by decide)]; exact b1
      · rw [hr4 31 (by decide)]; exact b2
      · rw [hr4 32 (by decide)]; exact b3
    have f5 := a1.tr (P29_PV f4)
    by_cases c : x < 7 * rt A
    · refine ⟨m4, ⟨f5, g5, fun p hp => ?_⟩, ?_⟩
      · have := v4 p hp
        rw [show x - 7 * rt A = 0 by omega] at this
        rw [show x + 1 - 7 * rt A = 0 by omega]
        exact this
      · show lX6_views_46 (n + 1) (nI (rt A)) (nI x) m = _
        have hneg : nI x - nI (7 * rt A) < nI 0 := pk_sneg (by omega) c
        rw [lX6_views_46_s]
        simp (disch := omega) only [z_nn2, z0, z1, z2, z3, z4, z5, z6, z7, z8, z9, z10, z11, z12, z13, z14, z15, z16, z17, z18, z19, z20, z23, z24, z28, z31, z32, z33, z45, z46, z47, z48, z52, z57, z60, z63, z65, z70, z80, z95, z100, z126, z127, z128, z200, z240, z255, z400, z480, z500, z840, z1023, z2000, z99999, z1073741824, z_nn, z_add, z_sub, z_mul, z_div, z_rem, z_cl, z_in, z_chk, z_chkp, z_bnd, z_bn2, z_wth, z_bxr, z_bxl, z_bx2r, z_bx2l, z_bz0, z_bz1, z_mx, z_mn, z_tb1, z_tb0, z_eq, z_le, z_lt, z_nn_lt, z_nn_le, z_nn_ge, z_nn_gt, z_nn_eq, z_nn_eq2, z_bit, z_wow, z_wo, z_or, z_shl, z_if, z_ifn, fbit, if_true, if_false, Nat.zero_add, Nat.add_zero, not_false_iff, not_true, e4]
        rw [show FU = 4095 + 1 from rfl, lX6_views_71_s]
        simp (disch := omega) only [z_nn2, z0, z1, z2, z3, z4, z5, z6, z7, z8, z9, z10, z11, z12, z13, z14, z15, z16, z17, z18, z19, z20, z23, z24, z28, z31, z32, z33, z45, z46, z47, z48, z52, z57, z60, z63, z65, z70, z80, z95, z100, z126, z127, z128, z200, z240, z255, z400, z480, z500, z840, z1023, z2000, z99999, z1073741824, z_nn, z_add, z_sub, z_mul, z_div, z_rem, z_cl, z_in, z_chk, z_chkp, z_bnd, z_bn2, z_wth, z_bxr, z_bxl, z_bx2r, z_bx2l, z_bz0, z_bz1, z_mx, z_mn, z_tb1, z_tb0, z_eq, z_le, z_lt, z_nn_lt, z_nn_le, z_nn_ge, z_nn_gt, z_nn_eq, z_nn_eq2, z_bit, z_wow, z_wo, z_or, z_shl, z_if, z_ifn, fbit, if_true, if_false, Nat.zero_add, Nat.add_zero, not_false_iff, not_true]
        unfold jX6_views_195
        rw [z1, z_add]
    · have e6 : 7 * rt A + (x - 7 * rt A) + 1 = x + 1 := by omega
      obtain ⟨m5, e5, f6, v5, g6⟩ := fview_in w (l := x - 7 * rt A) (by omega) (fun p hp => by rw [e6]; exact g5 p hp) v4 (lX6_views_46 n) (nI (rt A)) (nI x)
      refine ⟨m5, ⟨f5.tr f6, fun p hp => (g6 p).trans (g5 p hp), fun p hp => ?_⟩, ?_⟩
      · rw [show x + 1 - 7 * rt A = x - 7 * rt A + 1 by omega]
        exact v5 p hp
      · show lX6_views_46 (n + 1) (nI (rt A)) (nI x) m = _
        rw [lX6_views_46_s]
        simp (disch := omega) only [z_nn2, z0, z1, z2, z3, z4, z5, z6, z7, z8, z9, z10, z11, z12, z13, z14, z15, z16, z17, z18, z19, z20, z23, z24, z28, z31, z32, z33, z45, z46, z47, z48, z52, z57, z60, z63, z65, z70, z80, z95, z100, z126, z127, z128, z200, z240, z255, z400, z480, z500, z840, z1023, z2000, z99999, z1073741824, z_nn, z_add, z_sub, z_mul, z_div, z_rem, z_cl, z_in, z_chk, z_chkp, z_bnd, z_bn2, z_wth, z_bxr, z_bxl, z_bx2r, z_bx2l, z_bz0, z_bz1, z_mx, z_mn, z_tb1, z_tb0, z_eq, z_le, z_lt, z_nn_lt, z_nn_le, z_nn_ge, z_nn_gt, z_nn_eq, z_nn_eq2, z_bit, z_wow, z_wo, z_or, z_shl, z_if, z_ifn, fbit, if_true, if_false, Nat.zero_add, Nat.add_zero, not_false_iff, not_true, e4, e5]
        unfold jX6_views_195
        rw [z1, z_add]
  · obtain ⟨a1, a2, a3⟩ := hI
    rw [lX6_views_46_s]
    simp (disch := omega) only [z_nn2, z0, z1, z2, z3, z4, z5, z6, z7, z8, z9, z10, z11, z12, z13, z14, z15, z16, z17, z18, z19, z20, z23, z24, z28, z31, z32, z33, z45, z46, z47, z48, z52, z57, z60, z63, z65, z70, z80, z95, z100, z126, z127, z128, z200, z240, z255, z400, z480, z500, z840, z1023, z2000, z99999, z1073741824, z_nn, z_add, z_sub, z_mul, z_div, z_rem, z_cl, z_in, z_chk, z_chkp, z_bnd, z_bn2, z_wth, z_bxr, z_bxl, z_bx2r, z_bx2l, z_bz0, z_bz1, z_mx, z_mn, z_tb1, z_tb0, z_eq, z_le, z_lt, z_nn_lt, z_nn_le, z_nn_ge, z_nn_gt, z_nn_eq, z_nn_eq2, z_bit, z_wow, z_wo, z_or, z_shl, z_if, z_ifn, fbit, if_true, if_false, Nat.zero_add, Nat.add_zero, not_false_iff, not_true]
    refine ⟨m, rfl, a1, fun i k hi hk => ?_⟩
    obtain ⟨b1, b2, b3⟩ := a3 (8 * i + k) (by omega)
    rw [show 8 * rt A - 7 * rt A = rt A by omega, show (8 * i + k) / 8 = i by omega, show (8 * i + k) % 8 = k by omega] at b1 b2 b3
    refine ⟨b1, ?_, ?_⟩
    · rw [b2]
      unfold mq
      split
      · rename_i c
        rw [c]; rfl
      · rfl
    · rw [b3]
      rfl
  · rw [g3, g2 p hp]
    show _ = nI (A (32 + (p / 8 * 8 + p % 8)))
    rw [show p / 8 * 8 + p % 8 = p by omega]
  · rw [Nat.zero_sub]
    obtain ⟨b1, b2, b3⟩ := v3 p hp
    exact ⟨b1, b2, b3⟩
theorem fbr6 {A : Nat → Nat} {mm : gM} (h : RMq A mm) (w : WF A) (hv : VCq A mm) {i k : Nat} (hi : i < 6) (hk : k < 8) : fX6_brightness (nI i) (nI k) mm = some (nI (br A i k)) := by
  have hR := rt_le w
  have h1 := (hv i k hi hk).1
  have h2 := su_le (b := 7 * rt A) (gI_le w hi hk) (rt A)
  unfold fX6_brightness br
  simp (disch := omega) only [z_nn2, z0, z1, z2, z3, z4, z5, z6, z7, z8, z9, z10, z11, z12, z13, z14, z15, z16, z17, z18, z19, z20, z23, z24, z28, z31, z32, z33, z45, z46, z47, z48, z52, z57, z60, z63, z65, z70, z80, z95, z100, z126, z127, z128, z200, z240, z255, z400, z480, z500, z840, z1023, z2000, z99999, z1073741824, z_nn, z_add, z_sub, z_mul, z_div, z_rem, z_cl, z_in, z_chk, z_chkp, z_bnd, z_bn2, z_wth, z_bxr, z_bxl, z_bx2r, z_bx2l, z_bz0, z_bz1, z_mx, z_mn, z_tb1, z_tb0, z_eq, z_le, z_lt, z_nn_lt, z_nn_le, z_nn_ge, z_nn_gt, z_nn_eq, z_nn_eq2, z_bit, z_wow, z_wo, z_or, z_shl, z_if, z_ifn, fbit, if_true, if_false, Nat.zero_add, Nat.add_zero, not_false_iff, not_true, frt6 h w, h1]
  by_cases c : rt A = 0
  · rw [if_pos c, if_pos c]
  · rw [if_neg c, if_neg c]
theorem fseen6 {A : Nat → Nat} {mm : gM} (h : RMq A mm) (w : WF A) (hv : VCq A mm) {i : Nat} (hi : i < 6) : fX6_seenOf (nI i) mm = some (nI (sn A i)) := by
  have hw := w.wd
  refine loop_up (fun n k => lX6_seenOf_4 mm n (nI i) (nI (snp A i k)) (nI k)) (some (nI (sn A i))) 8 (fun n k hk => ?_) (fun n => ?_) FU 0 (by decide) (by decide)
  · have h2 := br_le w hi hk
    rw [lX6_seenOf_4_s]
    simp (disch := omega) only [z_nn2, z0, z1, z2, z3, z4, z5, z6, z7, z8, z9, z10, z11, z12, z13, z14, z15, z16, z17, z18, z19, z20, z23, z24, z28, z31, z32, z33, z45, z46, z47, z48, z52, z57, z60, z63, z65, z70, z80, z95, z100, z126, z127, z128, z200, z240, z255, z400, z480, z500, z840, z1023, z2000, z99999, z1073741824, z_nn, z_add, z_sub, z_mul, z_div, z_rem, z_cl, z_in, z_chk, z_chkp, z_bnd, z_bn2, z_wth, z_bxr, z_bxl, z_bx2r, z_bx2l, z_bz0, z_bz1, z_mx, z_mn, z_tb1, z_tb0, z_eq, z_le, z_lt, z_nn_lt, z_nn_le, z_nn_ge, z_nn_gt, z_nn_eq, z_nn_eq2, z_bit, z_wow, z_wo, z_or, z_shl, z_if, z_ifn, fbit, if_true, if_false, Nat.zero_add, Nat.add_zero, not_false_iff, not_true, fbr6 h w hv hi, h 3, jX6_seenOf_33]
    show _ = lX6_seenOf_4 mm n (nI i) (nI (snp A i k ||| (if br A i k < A 3 then 0 else 2 ^ k))) (nI (k + 1))
    split <;> rfl
  · rw [lX6_seenOf_4_s]
    simp (disch := omega) only [z_nn2, z0, z1, z2, z3, z4, z5, z6, z7, z8, z9, z10, z11, z12, z13, z14, z15, z16, z17, z18, z19, z20, z23, z24, z28, z31, z32, z33, z45, z46, z47, z48, z52, z57, z60, z63, z65, z70, z80, z95, z100, z126, z127, z128, z200, z240, z255, z400, z480, z500, z840, z1023, z2000, z99999, z1073741824, z_nn, z_add, z_sub, z_mul, z_div, z_rem, z_cl, z_in, z_chk, z_chkp, z_bnd, z_bn2, z_wth, z_bxr, z_bxl, z_bx2r, z_bx2l, z_bz0, z_bz1, z_mx, z_mn, z_tb1, z_tb0, z_eq, z_le, z_lt, z_nn_lt, z_nn_le, z_nn_ge, z_nn_gt, z_nn_eq, z_nn_eq2, z_bit, z_wow, z_wo, z_or, z_shl, z_if, z_ifn, fbit, if_true, if_false, Nat.zero_add, Nat.add_zero, not_false_iff, not_true]
    rfl
theorem fread6 {A : Nat → Nat} {mm : gM} (h : RMq A mm) (w : WF A) (hv : VCq A mm) {i : Nat} (hi : i < 6) : fX6_readOf (nI i) mm = some (rI (rdq A i)) := by
  have hs := sn_lt A i
  have hs2 : sn A i &&& 127 < 256 := Nat.lt_of_le_of_lt Nat.and_le_left hs
  have key : ∀ q s n, s + q = 18 → q < n → lX6_readOf_11 mm n (nI (sn A i &&& 127)) (nI s) = some (rI (fst1 (fun s => decide (sg s = sn A i &&& 127)) q s)) := by
    intro q
    induction q with
    | zero =>
      intro s n hs hn
      obtain ⟨m, rfl⟩ : ∃ m, n = m + 1 := ⟨n - 1, by omega⟩
      have : s = 18 := by omega
      subst this
      rw [lX6_readOf_11_s]
      simp (disch := omega) only [z_nn2, z0, z1, z2, z3, z4, z5, z6, z7, z8, z9, z10, z11, z12, z13, z14, z15, z16, z17, z18, z19, z20, z23, z24, z28, z31, z32, z33, z45, z46, z47, z48, z52, z57, z60, z63, z65, z70, z80, z95, z100, z126, z127, z128, z200, z240, z255, z400, z480, z500, z840, z1023, z2000, z99999, z1073741824, z_nn, z_add, z_sub, z_mul, z_div, z_rem, z_cl, z_in, z_chk, z_chkp, z_bnd, z_bn2, z_wth, z_bxr, z_bxl, z_bx2r, z_bx2l, z_bz0, z_bz1, z_mx, z_mn, z_tb1, z_tb0, z_eq, z_le, z_lt, z_nn_lt, z_nn_le, z_nn_ge, z_nn_gt, z_nn_eq, z_nn_eq2, z_bit, z_wow, z_wo, z_or, z_shl, z_if, z_ifn, fbit, if_true, if_false, Nat.zero_add, Nat.add_zero, not_false_iff, not_true, fst1, rI]
    | succ q ih =>
      intro s n hs hn
      obtain ⟨m, rfl⟩ : ∃ m, n = m + 1 := ⟨n - 1, by omega⟩
      have hg := sg_lt (s := s) (by omega)
      rw [lX6_readOf_11_s]
      simp (disch := omega) only [z_nn2, z0, z1, z2, z3, z4, z5, z6, z7, z8, z9, z10, z11, z12, z13, z14, z15, z16, z17, z18, z19, z20, z23, z24, z28, z31, z32, z33, z45, z46, z47, z48, z52, z57, z60, z63, z65, z70, z80, z95, z100, z126, z127, z128, z200, z240, z255, z400, z480, z500, z840, z1023, z2000, z99999, z1073741824, z_nn, z_add, z_sub, z_mul, z_div, z_rem, z_cl, z_in, z_chk, z_chkp, z_bnd, z_bn2, z_wth, z_bxr, z_bxl, z_bx2r, z_bx2l, z_bz0, z_bz1, z_mx, z_mn, z_tb1, z_tb0, z_eq, z_le, z_lt, z_nn_lt, z_nn_le, z_nn_ge, z_nn_gt, z_nn_eq, z_nn_eq2, z_bit, z_wow, z_wo, z_or, z_shl, z_if, z_ifn, fbit, if_true, if_false, Nat.zero_add, Nat.add_zero, not_false_iff, not_true, fsegs, fst1, decide_eq_true_eq]
      split
      · unfold rI
        rw [if_neg (by omega)]
      · exact ih (s + 1) m (by omega) (by omega)
  unfold fX6_readOf
  rw [fseen6 h w hv hi]
  simp only [z_bnd, z127, z_and, z0]
  exact key 18 0 FU rfl (by decide)
theorem fmean6 {A : Nat → Nat} {mm : gM} (h : RMq A mm) (w : WF A) (hv : VCq A mm) {i : Nat} (hi : i < 6) : fX6_meanOf (nI i) mm = some (nI (mn2 A i)) := by
  have hwk := wk_lt w hi
  have hpc := pc_le (wkq A i)
  have hp0 := pc_0 hwk
  unfold fX6_meanOf
  rw [fworks6 h w hi]
  simp only [z_bnd, z0]
  refine loop_up (fun n k => lX6_meanOf_11 mm n (nI i) (nI (wkq A i)) (nI (mnp A i k)) (nI k)) (some (nI (mn2 A i))) 8 (fun n k hk => ?_) (fun n => ?_) FU 0 (by decide) (by decide)
  · have h2 := br_le w hi hk
    rw [lX6_meanOf_11_s]
    simp (disch := omega) only [z_nn2, z0, z1, z2, z3, z4, z5, z6, z7, z8, z9, z10, z11, z12, z13, z14, z15, z16, z17, z18, z19, z20, z23, z24, z28, z31, z32, z33, z45, z46, z47, z48, z52, z57, z60, z63, z65, z70, z80, z95, z100, z126, z127, z128, z200, z240, z255, z400, z480, z500, z840, z1023, z2000, z99999, z1073741824, z_nn, z_add, z_sub, z_mul, z_div, z_rem, z_cl, z_in, z_chk, z_chkp, z_bnd, z_bn2, z_wth, z_bxr, z_bxl, z_bx2r, z_bx2l, z_bz0, z_bz1, z_mx, z_mn, z_tb1, z_tb0, z_eq, z_le, z_lt, z_nn_lt, z_nn_le, z_nn_ge, z_nn_gt, z_nn_eq, z_nn_eq2, z_bit, z_wow, z_wo, z_or, z_shl, z_if, z_ifn, fbit, if_true, if_false, Nat.zero_add, Nat.add_zero, not_false_iff, not_true, fbr6 h w hv hi, jX6_meanOf_40]
    show _ = lX6_meanOf_11 mm n (nI i) (nI (wkq A i)) (nI (mnp A i k + (if tbq (wkq A i) k = 1 then br A i k else 0))) (nI (k + 1))
    have h3 := tb_lt (wkq A i) k
    by_cases c : tbq (wkq A i) k = 1
    · rw [if_pos c, if_pos c]
    · simp only [if_neg c, Nat.add_zero]
  · have h4 := mnp_le w hi 8 (Nat.le_refl _)
    rw [lX6_meanOf_11_s]
    unfold jX6_meanOf_48 mn2
    simp (disch := omega) only [z_nn2, z0, z1, z2, z3, z4, z5, z6, z7, z8, z9, z10, z11, z12, z13, z14, z15, z16, z17, z18, z19, z20, z23, z24, z28, z31, z32, z33, z45, z46, z47, z48, z52, z57, z60, z63, z65, z70, z80, z95, z100, z126, z127, z128, z200, z240, z255, z400, z480, z500, z840, z1023, z2000, z99999, z1073741824, z_nn, z_add, z_sub, z_mul, z_div, z_rem, z_cl, z_in, z_chk, z_chkp, z_bnd, z_bn2, z_wth, z_bxr, z_bxl, z_bx2r, z_bx2l, z_bz0, z_bz1, z_mx, z_mn, z_tb1, z_tb0, z_eq, z_le, z_lt, z_nn_lt, z_nn_le, z_nn_ge, z_nn_gt, z_nn_eq, z_nn_eq2, z_bit, z_wow, z_wo, z_or, z_shl, z_if, z_ifn, fbit, if_true, if_false, Nat.zero_add, Nat.add_zero, not_false_iff, not_true]
    by_cases c : wkq A i = 0
    · rw [if_pos c, if_pos (hp0.mpr c)]
    · rw [if_neg c, if_neg (fun z => c (hp0.mp z))]
      have hp1 : pc (wkq A i) ≠ 0 := fun z => c (hp0.mp z)
      rw [fones hwk]
      simp (disch := omega) only [z_nn2, z0, z1, z2, z3, z4, z5, z6, z7, z8, z9, z10, z11, z12, z13, z14, z15, z16, z17, z18, z19, z20, z23, z24, z28, z31, z32, z33, z45, z46, z47, z48, z52, z57, z60, z63, z65, z70, z80, z95, z100, z126, z127, z128, z200, z240, z255, z400, z480, z500, z840, z1023, z2000, z99999, z1073741824, z_nn, z_add, z_sub, z_mul, z_div, z_rem, z_cl, z_in, z_chk, z_chkp, z_bnd, z_bn2, z_wth, z_bxr, z_bxl, z_bx2r, z_bx2l, z_bz0, z_bz1, z_mx, z_mn, z_tb1, z_tb0, z_eq, z_le, z_lt, z_nn_lt, z_nn_le, z_nn_ge, z_nn_gt, z_nn_eq, z_nn_eq2, z_bit, z_wow, z_wo, z_or, z_shl, z_if, z_ifn, fbit, if_true, if_false, Nat.zero_add, Nat.add_zero, not_false_iff, not_true]
