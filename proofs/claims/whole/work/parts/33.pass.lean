/-! PASS: ticks go by -/
def SMq (A A1 : Nat → Nat) : Prop := ∀ j, j < 32 → j ≠ 5 → j ≠ 6 → j ≠ 7 → A1 j = A j
theorem fl_cg {A A1 : Nat → Nat} (h : SMq A A1) {i : Nat} (hi : i < 6) : flq A1 i = flq A i := by
  unfold flq
  rw [h (11 + 4 * i) (by omega) (by omega) (by omega) (by omega), h 4 (by omega) (by omega) (by omega) (by omega)]
theorem wk_cg {A A1 : Nat → Nat} (h : SMq A A1) {i : Nat} (hi : i < 6) : wkq A1 i = wkq A i := by
  unfold wkq
  rw [fl_cg h hi, h (8 + 4 * i) (by omega) (by omega) (by omega) (by omega), h (9 + 4 * i) (by omega) (by omega) (by omega) (by omega)]
theorem lf_cg {A A1 : Nat → Nat} (h : SMq A A1) (x : Nat) : lfq A1 x = lfq A x := by
  unfold lfq
  rw [h 1 (by omega) (by omega) (by omega) (by omega)]
theorem en_sm {A A1 : Nat → Nat} (h : SMq A A1) {i : Nat} (hi : i ≤ 6) : en A1 i = en A i := en_cg (h 0 (by omega) (by omega) (by omega) (by omega)) (fun j hj => h _ (by omega) (by omega) (by omega) (by omega)) i hi
theorem rt_cg {A A1 : Nat → Nat} (h : SMq A A1) : rt A1 = rt A := en_sm h (Nat.le_refl _)
theorem ahs_cg {A A1 : Nat → Nat} (h : SMq A A1) {i : Nat} (hi : i < 6) : ∀ n b, ahs A1 i n b = ahs A i n b
  | 0, _ => rfl
  | n + 1, b => by
    unfold ahs
    rw [h _ (by omega) (by omega) (by omega) (by omega), ahs_cg h hi n (b + 1)]
theorem ahd_cg {A A1 : Nat → Nat} (h : SMq A A1) {i : Nat} (hi : i < 6) : ahd A1 i = ahd A i := ahs_cg h hi 5 1
theorem bg_cg {A A1 : Nat → Nat} (h : SMq A A1) {i : Nat} (hi : i < 6) : bg A1 i = bg A i := by
  unfold bg
  rw [en_sm h (by omega), h (10 + 4 * i) (by omega) (by omega) (by omega) (by omega)]
theorem ed_cg {A A1 : Nat → Nat} (h : SMq A A1) {i : Nat} (hi : i < 6) : ed A1 i = ed A i := en_sm h (by omega)
theorem gh_cg {A A1 : Nat → Nat} (h : SMq A A1) {i : Nat} (hi : i < 6) : gh A1 i = gh A i := by
  unfold gh
  rw [ahd_cg h hi, wk_cg h (ahd_lt A hi), h 0 (by omega) (by omega) (by omega) (by omega), h (11 + 4 * i) (by omega) (by omega) (by omega) (by omega)]
theorem gq_cg {A A1 : Nat → Nat} (h : SMq A A1) {i : Nat} (hi : i < 6) : gq A1 i = gq A i := by
  unfold gq
  rw [ahd_cg h hi, wk_cg h (ahd_lt A hi), lf_cg h, h 0 (by omega) (by omega) (by omega) (by omega)]
theorem gs_cg {A A1 : Nat → Nat} (h : SMq A A1) {i : Nat} (hi : i < 6) (k tick g : Nat) : gs A1 i k tick g = gs A i k tick g := by
  unfold gs
  rw [bg_cg h hi, ed_cg h hi, wk_cg h hi, lf_cg h, gh_cg h hi, gq_cg h hi, h 2 (by omega) (by omega) (by omega) (by omega)]
theorem TS_cg {A A1 : Nat → Nat} (h : SMq A A1) {t i : Nat} (hi : i < 6) {m : gM} (hT : TSq t A1 i m) : TSq t A i m := by
  unfold TSq at *
  rw [rt_cg h, bg_cg h hi, ed_cg h hi, wk_cg h hi, lf_cg h, gh_cg h hi, gq_cg h hi, h 2 (by omega) (by omega) (by omega) (by omega)] at hT
  exact hT
theorem CS.cg {t : Nat} {A B : Nat → Nat} {m : gM} (h : CS t A m) (hb : ∀ j, j < 80 → B j = A j) : CS t B m := by
  obtain ⟨h1, h2, h3, h4, h5, h6, h7, h8, h9, h10⟩ := h
  refine ⟨fun i hi => ?_, fun i hi => ?_, fun i hi => ?_, fun i hi => ?_, fun i hi => ?_, ?_, ?_, ?_, ?_, ?_⟩
  · rw [hb _ (by omega)]; exact h1 i hi
  · rw [hb _ (by omega)]; exact h2 i hi
  · rw [hb _ (by omega)]; exact h3 i hi
  · rw [hb _ (by omega)]; exact h4 i hi
  · rw [hb _ (by omega)]; exact h5 i hi
  · rw [h6]; unfold dm; rw [hb 9 (by omega), hb 13 (by omega), hb 17 (by omega), hb 21 (by omega), hb 25 (by omega), hb 29 (by omega)]
  · rw [hb _ (by omega)]; exact h7
  · rw [hb _ (by omega)]; exact h8
  · rw [hb _ (by omega)]; exact h9
  · rw [hb _ (by omega)]; exact h10
/-- a glow behind n ticks from the position q -/
def gpn (A : Nat → Nat) (i k q g : Nat) : Nat → Nat
  | 0 => g
  | n + 1 => gs A i k ((q + n) % rt A) (gpn A i k q g n)
theorem gpn_le {A : Nat → Nat} (w : WF A) {i k q g : Nat} (hg : g ≤ 2000) : ∀ n, gpn A i k q g n ≤ 2000
  | 0 => hg
  | n + 1 => gs_le w (gpn_le w hg n)
theorem fafter {A : Nat → Nat} {m : gM} (w : WF A) {i k q g t : Nat} (hi : i < 6) (hk : k < 8) (hT : TSq 2 A i m) (hR : 0 < rt A) (hq : q < rt A) (hg : g ≤ 2000) (ht : t ≤ 200) : fX4_glowAfter 2 (nI t) (nI q) (nI g) (nI k) m = some (nI (gpn A i k q g t)) := by
  have hR2 := rt_le w
  have key := loop_up (fun n x => lX4_glowAfter_9 2 m n (nI t) (nI k) (nI (gpn A i k q g x)) (nI ((q + x) % rt A)) (nI x)) (some (nI (gpn A i k q g t))) t (fun n x hx => ?_) (fun n => ?_) FU 0 (Nat.zero_le _) (by unfold FU; omega)
  · rw [Nat.add_zero, Nat.mod_eq_of_lt hq] at key
    exact key
  · have h1 := gpn_le w (i := i) (k := k) (q := q) hg x
    have h2 : (q + x) % rt A < rt A := Nat.mod_lt _ hR
    have e : gs A i k ((q + x) % rt A) (gpn A i k q g x) = gpn A i k q g (x + 1) := rfl
    have e2 : (q + (x + 1)) % rt A = if rt A ≤ (q + x) % rt A + 1 then 0 else (q + x) % rt A + 1 := by
      rw [← Nat.add_assoc, Nat.add_mod (q + x) 1, ]
      by_cases c : rt A ≤ (q + x) % rt A + 1
      · rw [if_pos c]
        by_cases c1 : rt A = 1
        · rw [c1, Nat.mod_one]
        · rw [Nat.mod_eq_of_lt (show 1 < rt A by omega), show (q + x) % rt A + 1 = rt A by omega, Nat.mod_self]
      · rw [if_neg c, Nat.mod_eq_of_lt (show 1 < rt A by omega), Nat.mod_eq_of_lt (by omega)]
    rw [lX4_glowAfter_9_s, e2]
    simp (disch := omega) only [z_nn2, z0, z1, z2, z3, z4, z5, z6, z7, z8, z9, z10, z11, z12, z13, z14, z15, z16, z17, z18, z19, z20, z23, z24, z28, z31, z32, z33, z45, z46, z47, z48, z52, z57, z60, z63, z65, z70, z80, z95, z100, z126, z127, z128, z200, z240, z255, z400, z480, z500, z840, z1023, z2000, z99999, z1073741824, z_nn, z_add, z_sub, z_mul, z_div, z_rem, z_cl, z_in, z_chk, z_chkp, z_bnd, z_bn2, z_wth, z_bxr, z_bxl, z_bx2r, z_bx2l, z_bz0, z_bz1, z_mx, z_mn, z_tb1, z_tb0, z_eq, z_le, z_lt, z_nn_lt, z_nn_le, z_nn_ge, z_nn_gt, z_nn_eq, z_nn_eq2, z_bit, z_wow, z_wo, z_or, z_shl, z_if, z_ifn, fbit, if_true, if_false, Nat.zero_add, Nat.add_zero, not_false_iff, not_true, fglow w hi hT hk, hT.1, e, jX4_glowAfter_46]
    by_cases c : rt A ≤ (q + x) % rt A + 1
    · rw [if_pos c, if_pos c]
    · rw [if_neg c, if_neg c]
  · rw [lX4_glowAfter_9_s]
    simp (disch := omega) only [z_nn2, z0, z1, z2, z3, z4, z5, z6, z7, z8, z9, z10, z11, z12, z13, z14, z15, z16, z17, z18, z19, z20, z23, z24, z28, z31, z32, z33, z45, z46, z47, z48, z52, z57, z60, z63, z65, z70, z80, z95, z100, z126, z127, z128, z200, z240, z255, z400, z480, z500, z840, z1023, z2000, z99999, z1073741824, z_nn, z_add, z_sub, z_mul, z_div, z_rem, z_cl, z_in, z_chk, z_chkp, z_bnd, z_bn2, z_wth, z_bxr, z_bxl, z_bx2r, z_bx2l, z_bz0, z_bz1, z_mx, z_mn, z_tb1, z_tb0, z_eq, z_le, z_lt, z_nn_lt, z_nn_le, z_nn_ge, z_nn_gt, z_nn_eq, z_nn_eq2, z_bit, z_wow, z_wo, z_or, z_shl, z_if, z_ifn, fbit, if_true, if_false, Nat.zero_add, Nat.add_zero, not_false_iff, not_true]
/-- the first x glows have passed t ticks -/
def gA2 (A : Nat → Nat) (t x : Nat) : Nat → Nat := fun j => if 32 ≤ j ∧ j < 32 + x then gpn A ((j - 32) / 8) ((j - 32) % 8) (A 6) (A j) t else A j
theorem gA2_lo {A : Nat → Nat} {t x j : Nat} (h : j < 32) : gA2 A t x j = A j := if_neg (fun z => by omega)
theorem gA2_s {A : Nat → Nat} {t x : Nat} : upq (gA2 A t x) (32 + x) (gpn A (x / 8) (x % 8) (A 6) (A (32 + x)) t) = gA2 A t (x + 1) := by
  funext j
  unfold upq gA2
  by_cases c : j = 32 + x
  · subst c
    rw [if_pos rfl, if_pos (by omega), show 32 + x - 32 = x by omega]
  · rw [if_neg c]
    by_cases c2 : 32 ≤ j ∧ j < 32 + x
    · rw [if_pos c2, if_pos (by omega)]
    · rw [if_neg c2, if_neg (by omega)]
theorem gA2_WF {A : Nat → Nat} (w : WF A) {t : Nat} : ∀ x, x ≤ 48 → WF (gA2 A t x)
  | 0, _ => by
    have e : gA2 A t 0 = A := funext fun j => if_neg (fun z => by omega)
    rw [e]; exact w
  | x + 1, h => by
    rw [← gA2_s]
    exact WF_up (gA2_WF w x (by omega)) (Or.inr (Or.inr (Or.inr (Or.inr (Or.inr (Or.inr (Or.inr (Or.inr (Or.inl ⟨x, by omega, rfl, gpn_le w (w.glow (by omega)) t⟩)))))))))
theorem gA2_SM {A : Nat → Nat} {t x : Nat} : SMq A (gA2 A t x) := fun j hj _ _ _ => gA2_lo hj
def PFq : Nat → Nat → Bool := fun c t => (c == 4 && t == 0) || (c == 11 && t == 2)
theorem ffade {A : Nat → Nat} {m : gM} (h : CS 0 A m) (w : WF A) {t : Nat} (ht : t ≤ 200) (hR : 0 < rt A) (hq : A 6 < rt A) : ∃ m1, fX5_fadeAndLight (nI t) m = some m1 ∧ CS 0 (gA2 A t 48) m1 ∧ Frq PFq m m1 := by
  have hR2 := rt_le w
  have e0 : gA2 A t (8 * 0) = A := funext fun j => if_neg (fun z => by omega)
  refine loop_ex (fun n i m2 => lX5_fadeAndLight_2 n (nI t) (nI i) m2) (fun i m2 => Frq PFq m m2 ∧ CS 0 (gA2 A t (8 * i)) m2) (fun o => ∃ m1, o = some m1 ∧ CS 0 (gA2 A t 48) m1 ∧ Frq PFq m m1) 6 (fun n i m2 hi hI => ?_) (fun n m2 hI => ?_) FU 0 m (by decide) (by decide) ⟨Frq.rf, by rw [e0]; exact h⟩
  · obtain ⟨f1, c1⟩ := hI
    obtain ⟨m3, e3, f3, T3⟩ := ftake (t2 := 2) c1 (gA2_WF w (8 * i) (by omega)) hi
    have T3' := TS_cg gA2_SM hi T3
    have f3' : Frq PFq m2 m3 := f3.mono (fun c t hc => by
      unfold PFq at hc
      unfold PTq
      simp at hc ⊢
      omega)
    have c3 : CS 0 (gA2 A t (8 * i)) m3 := c1.fr f3 (fun c hc => by unfold PTq; simp)
    have key := loop_ex (fun n2 k m4 => lX5_fadeAndLight_22 (lX5_fadeAndLight_2 n) n2 (nI t) (nI i) (nI k) m4) (fun k m4 => Frq PFq m3 m4 ∧ CS 0 (gA2 A t (8 * i + k)) m4 ∧ TSq 2 A i m4) (fun o => ∃ m5, o = jX5_fadeAndLight_82 (lX5_fadeAndLight_2 n) (nI t) (nI i) m5 ∧ Frq PFq m3 m5 ∧ CS 0 (gA2 A t (8 * i + 8)) m5) 8 (fun n2 k m4 hk hI => ?_) (fun n2 m4 hI => ?_) FU 0 m3 (by decide) (by decide) ⟨Frq.rf, c3, T3'⟩
    · obtain ⟨m5, k1, k2, k3⟩ := key
      refine ⟨m5, ⟨(f1.tr f3').tr k2, k3⟩, ?_⟩
      rw [lX5_fadeAndLight_2_s]
      simp (disch := omega) only [z_nn2, z0, z1, z2, z3, z4, z5, z6, z7, z8, z9, z10, z11, z12, z13, z14, z15, z16, z17, z18, z19, z20, z23, z24, z28, z31, z32, z33, z45, z46, z47, z48, z52, z57, z60, z63, z65, z70, z80, z95, z100, z126, z127, z128, z200, z240, z255, z400, z480, z500, z840, z1023, z2000, z99999, z1073741824, z_nn, z_add, z_sub, z_mul, z_div, z_rem, z_cl, z_in, z_chk, z_chkp, z_bnd, z_bn2, z_wth, z_bxr, z_bxl, z_bx2r, z_bx2l, z_bz0, z_bz1, z_mx, z_mn, z_tb1, z_tb0, z_eq, z_le, z_lt, z_nn_lt, z_nn_le, z_nn_ge, z_nn_gt, z_nn_eq, z_nn_eq2, z_bit, z_wow, z_wo, z_or, z_shl, z_if, z_ifn, fbit, if_true, if_false, Nat.zero_add, Nat.add_zero, not_false_iff, not_true, e3]
      refine k1.trans ?_
      unfold jX5_fadeAndLight_82
      rw [z1, z_add]
    · obtain ⟨a1, a2, a3⟩ := hI
      have hpl : 8 * i + k < 48 := by omega
      have hg := w.glow hpl
      have e4 : gi m4 4 0 (8 * i + k) = nI (A (32 + (8 * i + k))) := by
        rw [a2.glow hpl]
        exact congrArg nI (if_neg (fun z => by omega))
      have e8 : gi m4 0 0 8 = nI (A 6) := by
        rw [a2.pos, gA2_lo (by decide)]
      have eg := fafter w hi hk a3 hR hq hg ht
      have es : gpn A i k (A 6) (A (32 + (8 * i + k))) t = gpn A ((8 * i + k) / 8) ((8 * i + k) % 8) (A 6) (A (32 + (8 * i + k))) t := by
        rw [show (8 * i + k) / 8 = i by omega, show (8 * i + k) % 8 = k by omega]
      have cs := CS_glow (v := gpn A ((8 * i + k) / 8) ((8 * i + k) % 8) (A 6) (A (32 + (8 * i + k))) t) a2 hpl
      rw [gA2_s, ← es] at cs
      refine ⟨_, ⟨a1.tr (Frq.si (i := 8 * i + k) (v := nI (gpn A i k (A 6) (A (32 + (8 * i + k))) t)) rfl), cs, TS_si (by decide) a3⟩, ?_⟩
      rw [lX5_fadeAndLight_22_s]
      simp (disch := omega) only [z_nn2, z0, z1, z2, z3, z4, z5, z6, z7, z8, z9, z10, z11, z12, z13, z14, z15, z16, z17, z18, z19, z20, z23, z24, z28, z31, z32, z33, z45, z46, z47, z48, z52, z57, z60, z63, z65, z70, z80, z95, z100, z126, z127, z128, z200, z240, z255, z400, z480, z500, z840, z1023, z2000, z99999, z1073741824, z_nn, z_add, z_sub, z_mul, z_div, z_rem, z_cl, z_in, z_chk, z_chkp, z_bnd, z_bn2, z_wth, z_bxr, z_bxl, z_bx2r, z_bx2l, z_bz0, z_bz1, z_mx, z_mn, z_tb1, z_tb0, z_eq, z_le, z_lt, z_nn_lt, z_nn_le, z_nn_ge, z_nn_gt, z_nn_eq, z_nn_eq2, z_bit, z_wow, z_wo, z_or, z_shl, z_if, z_ifn, fbit, if_true, if_false, Nat.zero_add, Nat.add_zero, not_false_iff, not_true, show i * 8 + k = 8 * i + k by omega, e4, e8, eg]
    · obtain ⟨a1, a2, a3⟩ := hI
      rw [lX5_fadeAndLight_22_s]
      simp (disch := omega) only [z_nn2, z0, z1, z2, z3, z4, z5, z6, z7, z8, z9, z10, z11, z12, z13, z14, z15, z16, z17, z18, z19, z20, z23, z24, z28, z31, z32, z33, z45, z46, z47, z48, z52, z57, z60, z63, z65, z70, z80, z95, z100, z126, z127, z128, z200, z240, z255, z400, z480, z500, z840, z1023, z2000, z99999, z1073741824, z_nn, z_add, z_sub, z_mul, z_div, z_rem, z_cl, z_in, z_chk, z_chkp, z_bnd, z_bn2, z_wth, z_bxr, z_bxl, z_bx2r, z_bx2l, z_bz0, z_bz1, z_mx, z_mn, z_tb1, z_tb0, z_eq, z_le, z_lt, z_nn_lt, z_nn_le, z_nn_ge, z_nn_gt, z_nn_eq, z_nn_eq2, z_bit, z_wow, z_wo, z_or, z_shl, z_if, z_ifn, fbit, if_true, if_false, Nat.zero_add, Nat.add_zero, not_false_iff, not_true]
      exact ⟨m4, rfl, a1, a2⟩
  · obtain ⟨f1, c1⟩ := hI
    rw [lX5_fadeAndLight_2_s]
    simp (disch := omega) only [z_nn2, z0, z1, z2, z3, z4, z5, z6, z7, z8, z9, z10, z11, z12, z13, z14, z15, z16, z17, z18, z19, z20, z23, z24, z28, z31, z32, z33, z45, z46, z47, z48, z52, z57, z60, z63, z65, z70, z80, z95, z100, z126, z127, z128, z200, z240, z255, z400, z480, z500, z840, z1023, z2000, z99999, z1073741824, z_nn, z_add, z_sub, z_mul, z_div, z_rem, z_cl, z_in, z_chk, z_chkp, z_bnd, z_bn2, z_wth, z_bxr, z_bxl, z_bx2r, z_bx2l, z_bz0, z_bz1, z_mx, z_mn, z_tb1, z_tb0, z_eq, z_le, z_lt, z_nn_lt, z_nn_le, z_nn_ge, z_nn_gt, z_nn_eq, z_nn_eq2, z_bit, z_wow, z_wo, z_or, z_shl, z_if, z_ifn, fbit, if_true, if_false, Nat.zero_add, Nat.add_zero, not_false_iff, not_true]
    exact ⟨m2, rfl, c1, f1⟩
/-- what a pass of t ticks makes of a state -/
def pA (A : Nat → Nat) (t : Nat) : Nat → Nat := upq (upq (upq (gA2 A t 48) 6 ((A 6 + t) % rt A)) 5 (A 5 + t)) 7 (A 7 + (A 6 + t) / rt A)
theorem pA_WF {A : Nat → Nat} (w : WF A) {t : Nat} (hR : 0 < rt A) (h5 : A 5 + t ≤ 99999) : WF (pA A t) := by
  have hR2 := rt_le w
  have hm : (A 6 + t) % rt A < rt A := Nat.mod_lt _ hR
  exact WF_up (WF_up (WF_up (gA2_WF w 48 (Nat.le_refl _)) (Or.inr (Or.inr (Or.inl ⟨rfl, by omega⟩)))) (Or.inr (Or.inl ⟨rfl, h5⟩))) (Or.inr (Or.inr (Or.inr (Or.inl ⟨rfl, Nat.zero_le _⟩))))
theorem pA_WP {A : Nat → Nat} {t : Nat} (hR : 0 < rt A) : WP (pA A t) := by
  have hm : (A 6 + t) % rt A < rt A := Nat.mod_lt _ hR
  have e : rt (pA A t) = rt A := rt_cg (fun j hj h5 h6 h7 => by
    unfold pA
    rw [up_ne h7, up_ne h5, up_ne h6, gA2_lo hj])
  refine Or.inr ?_
  rw [e]
  unfold pA
  rw [up_ne (by decide), up_ne (by decide), up_eq rfl]
  exact hm
theorem fpass6_end {A : Nat → Nat} {m : gM} {t : Nat} (h : ∀ j, j < 32 → gi m 22 0 j = nI (upq A 6 ((A 6 + t) % rt A) j)) (hG : ∀ p, p < 48 → gi m 29 0 p = nI (gpn A (p / 8) (p % 8) (A 6) (A (32 + p)) t)) : ∃ m1, jX6_pass_122 (nI t) (nI ((A 6 + t) / rt A)) m = some (nI ((A 6 + t) / rt A), m1) ∧ RMq (pA A t) m1 ∧ Frq (fun c _ => c == 22) m m1 := by
  unfold jX6_pass_122
  simp only [z0]
  refine loop_ex (fun n x m2 => lX6_pass_125 n (nI t) (nI ((A 6 + t) / rt A)) (nI x) m2) (fun x m2 => Frq (fun c _ => c == 22) m m2 ∧ (∀ j, j < 32 → gi m2 22 0 j = nI (upq A 6 ((A 6 + t) % rt A) j)) ∧ ∀ p, p < x → gi m2 22 0 (32 + p) = nI (gpn A (p / 8) (p % 8) (A 6) (A (32 + p)) t)) (fun o => ∃ m1, o = some (nI ((A 6 + t) / rt A), m1) ∧ RMq (pA A t) m1 ∧ Frq (fun c _ => c == 22) m m1) 48 (fun n x m2 hx hI => ?_) (fun n m2 hI => ?_) FU 0 m (by decide) (by decide) ⟨Frq.rf, h, fun p hp => absurd hp (Nat.not_lt_zero p)⟩
  · obtain ⟨a1, a2, a3⟩ := hI
    have e29 : gi m2 29 0 x = nI (gpn A (x / 8) (x % 8) (A 6) (A (32 + x)) t) := by rw [a1.1 29 0 x rfl]; exact hG x hx
    refine ⟨si m2 22 0 (32 + x) (nI (gpn A (x / 8) (x % 8) (A 6) (A (32 + x)) t)), ⟨a1.tr (Frq.si rfl), fun j hj => ?_, fun p hp => ?_⟩, ?_⟩
    · rw [gi_si, if_neg (fun z => by omega)]; exact a2 j hj
    · by_cases c : p = x
      · subst c
        rw [gi_si, if_pos ⟨rfl, rfl, rfl⟩]
      · rw [gi_si, if_neg (fun z => by omega)]
        exact a3 p (by omega)
    · rw [lX6_pass_125_s]
      simp (disch := omega) only [z_nn2, z0, z1, z2, z3, z4, z5, z6, z7, z8, z9, z10, z11, z12, z13, z14, z15, z16, z17, z18, z19, z20, z23, z24, z28, z31, z32, z33, z45, z46, z47, z48, z52, z57, z60, z63, z65, z70, z80, z95, z100, z126, z127, z128, z200, z240, z255, z400, z480, z500, z840, z1023, z2000, z99999, z1073741824, z_nn, z_add, z_sub, z_mul, z_div, z_rem, z_cl, z_in, z_chk, z_chkp, z_bnd, z_bn2, z_wth, z_bxr, z_bxl, z_bx2r, z_bx2l, z_bz0, z_bz1, z_mx, z_mn, z_tb1, z_tb0, z_eq, z_le, z_lt, z_nn_lt, z_nn_le, z_nn_ge, z_nn_gt, z_nn_eq, z_nn_eq2, z_bit, z_wow, z_wo, z_or, z_shl, z_if, z_ifn, fbit, if_true, if_false, Nat.zero_add, Nat.add_zero, not_false_iff, not_true, e29]
  · obtain ⟨a1, a2, a3⟩ := hI
    have e5 : gi m2 22 0 5 = nI (A 5) := by rw [a2 5 (by decide), up_ne (by decide)]
    have e7 : gi (si m2 22 0 5 (nI (A 5 + t))) 22 0 7 = nI (A 7) := by rw [gi_si, if_neg (fun z => by omega), a2 7 (by decide), up_ne (by decide)]
    rw [lX6_pass_125_s]
    unfold jX6_pass_155
    simp (disch := omega) only [z_nn2, z0, z1, z2, z3, z4, z5, z6, z7, z8, z9, z10, z11, z12, z13, z14, z15, z16, z17, z18, z19, z20, z23, z24, z28, z31, z32, z33, z45, z46, z47, z48, z52, z57, z60, z63, z65, z70, z80, z95, z100, z126, z127, z128, z200, z240, z255, z400, z480, z500, z840, z1023, z2000, z99999, z1073741824, z_nn, z_add, z_sub, z_mul, z_div, z_rem, z_cl, z_in, z_chk, z_chkp, z_bnd, z_bn2, z_wth, z_bxr, z_bxl, z_bx2r, z_bx2l, z_bz0, z_bz1, z_mx, z_mn, z_tb1, z_tb0, z_eq, z_le, z_lt, z_nn_lt, z_nn_le, z_nn_ge, z_nn_gt, z_nn_eq, z_nn_eq2, z_bit, z_wow, z_wo, z_or, z_shl, z_if, z_ifn, fbit, if_true, if_false, Nat.zero_add, Nat.add_zero, not_false_iff, not_true, e5, e7]
    refine ⟨_, rfl, fun j hj => ?_, (a1.tr (Frq.si rfl)).tr (Frq.si rfl)⟩
    unfold pA
    by_cases c7 : j = 7
    · rw [up_eq c7, gi_si, if_pos ⟨rfl, rfl, c7⟩]
    · rw [up_ne c7, gi_si, if_neg (fun z => c7 z.2.2)]
      by_cases c5 : j = 5
      · rw [up_eq c5, gi_si, if_pos ⟨rfl, rfl, c5⟩]
      · rw [up_ne c5, gi_si, if_neg (fun z => c5 z.2.2)]
        by_cases c6 : j = 6
        · rw [a2 j (by omega), up_eq c6, up_eq c6]
        · rw [up_ne c6]
          by_cases c32 : j < 32
          · rw [gA2_lo c32, a2 j c32, up_ne c6]
          · have e := a3 (j - 32) (by omega)
            rw [show 32 + (j - 32) = j by omega] at e
            rw [e]
            unfold gA2
            rw [if_pos (by omega)]
theorem WF_pos {A : Nat → Nat} (w : WF A) {q : Nat} (hq : q < rt A) : WF (upq A 6 q) := WF_up w (Or.inr (Or.inr (Or.inl ⟨rfl, by have := rt_le w; omega⟩)))
theorem SM_pos {A : Nat → Nat} {q : Nat} : SMq A (upq A 6 q) := fun j hj h5 h6 h7 => up_ne h6
theorem div_s {a R : Nat} (hR : 0 < R) : (a + 1) / R = a / R + (if (a + 1) % R = 0 then 1 else 0) := by
  have h1 := Nat.div_add_mod a R
  have h2 := Nat.mod_lt a hR
  by_cases c : a % R + 1 = R
  · have e : a + 1 = R * (a / R + 1) := by rw [Nat.mul_add, Nat.mul_one]; omega
    rw [e, Nat.mul_div_cancel_left _ hR, Nat.mul_mod_right, if_pos rfl]
  · have e : a + 1 = R * (a / R) + (a % R + 1) := by omega
    have e2 : (a + 1) % R = a % R + 1 := by
      rw [e, Nat.mul_add_mod, Nat.mod_eq_of_lt (by omega)]
    have e3 : (a + 1) / R = a / R := by
      conv => lhs; rw [e]
      rw [Nat.mul_add_div hR, Nat.div_eq_of_lt (show a % R + 1 < R by omega), Nat.add_zero]
    rw [e2, e3, if_neg (by omega)]
    rfl
theorem fpass6_loop {A : Nat → Nat} {m : gM} (h : RMq A m) (w : WF A) {t : Nat} (ht : t ≤ 200) (hR : 0 < rt A) (hq : A 6 < rt A) (hG : ∀ p, p < 48 → gi m 29 0 p = nI (A (32 + p))) : ∃ m1, lX6_pass_63 FU (nI t) (nI (rt A)) (nI 0) (nI 0) m = some (nI ((A 6 + t) / rt A), m1) ∧ RMq (pA A t) m1 ∧ Frq (fun c _ => c == 22 || c == 29) m m1 := by
  have hR2 := rt_le w
  have e0 : upq A 6 ((A 6 + 0) % rt A) = A := by
    funext j
    unfold upq
    by_cases c : j = 6
    · rw [if_pos c, Nat.add_zero, Nat.mod_eq_of_lt hq, c]
    · rw [if_neg c]
  have key := loop_ex (fun n x m2 => lX6_pass_63 n (nI t) (nI (rt A)) (nI ((A 6 + x) / rt A)) (nI x) m2) (fun x m2 => Frq (fun c _ => c == 22 || c == 29) m m2 ∧ RMq (upq A 6 ((A 6 + x) % rt A)) m2 ∧ ∀ p, p < 48 → gi m2 29 0 p = nI (gpn A (p / 8) (p % 8) (A 6) (A (32 + p)) x)) (fun o => ∃ m1, o = some (nI ((A 6 + t) / rt A), m1) ∧ RMq (pA A t) m1 ∧ Frq (fun c _ => c == 22 || c == 29) m m1) t (fun n x m2 hx hI => ?_) (fun n m2 hI => ?_) FU 0 m (Nat.zero_le _) (by unfold FU; omega) ⟨Frq.rf, by rw [e0]; exact h, hG⟩
  · rw [Nat.add_zero, Nat.div_eq_of_lt hq] at key
    exact key
  · obtain ⟨a1, a2, a3⟩ := hI
    have hm : (A 6 + x) % rt A < rt A := Nat.mod_lt _ hR
    have w1 := WF_pos w hm
    have er : rt (upq A 6 ((A 6 + x) % rt A)) = rt A := rt_cg SM_pos
    obtain ⟨m3, e3, f3, g3⟩ := fticks a2 w1 (tick := (A 6 + x) % rt A) (by rw [er]; exact hm) a3 (fun p hp => gpn_le w (w.glow hp) x)
    have r3 : RMq (upq A 6 ((A 6 + x) % rt A)) m3 := a2.fr f3 rfl
    have e6 : gi m2 22 0 6 = nI ((A 6 + x) % rt A) := by rw [a2 6 (by decide), up_eq rfl]
    have e6b : gi m3 22 0 6 = nI ((A 6 + x) % rt A) := by rw [r3 6 (by decide), up_eq rfl]
    have em : ((A 6 + x) % rt A + 1) % rt A = (A 6 + (x + 1)) % rt A := by rw [Nat.mod_add_mod, Nat.add_assoc]
    have rm := RM_up (k := 6) (v := (A 6 + (x + 1)) % rt A) r3
    have eu : upq (upq A 6 ((A 6 + x) % rt A)) 6 ((A 6 + (x + 1)) % rt A) = upq A 6 ((A 6 + (x + 1)) % rt A) := by
      funext j
      unfold upq
      by_cases c : j = 6
      · rw [if_pos c, if_pos c]
      · rw [if_neg c, if_neg c, if_neg c]
    rw [eu] at rm
    refine ⟨_, ⟨(a1.tr (f3.mono (fun c t hc => by unfold P29; simp at hc ⊢; omega))).tr (Frq.si rfl), rm, fun p hp => ?_⟩, ?_⟩
    · rw [gi_si, if_neg (fun z => by omega), g3 p hp, gs_cg SM_pos (show p / 8 < 6 by omega)]
      rfl
    · have hm2 : (A 6 + (x + 1)) % rt A < rt A := Nat.mod_lt _ hR
      have e6c : gi (si m3 22 0 6 (nI ((A 6 + (x + 1)) % rt A))) 22 0 6 = nI ((A 6 + (x + 1)) % rt A) := by rw [gi_si, if_pos ⟨rfl, rfl, rfl⟩]
      rw [lX6_pass_63_s]
      simp (disch := omega) only [z_nn2, z0, z1, z2, z3, z4, z5, z6, z7, z8, z9, z10, z11, z12, z13, z14, z15, z16, z17, z18, z19, z20, z23, z24, z28, z31, z32, z33, z45, z46, z47, z48, z52, z57, z60, z63, z65, z70, z80, z95, z100, z126, z127, z128, z200, z240, z255, z400, z480, z500, z840, z1023, z2000, z99999, z1073741824, z_nn, z_add, z_sub, z_mul, z_div, z_rem, z_cl, z_in, z_chk, z_chkp, z_bnd, z_bn2, z_wth, z_bxr, z_bxl, z_bx2r, z_bx2l, z_bz0, z_bz1, z_mx, z_mn, z_tb1, z_tb0, z_eq, z_le, z_lt, z_nn_lt, z_nn_le, z_nn_ge, z_nn_gt, z_nn_eq, z_nn_eq2, z_bit, z_wow, z_wo, z_or, z_shl, z_if, z_ifn, fbit, if_true, if_false, Nat.zero_add, Nat.add_zero, not_false_iff, not_true, e6, e3, e6b, em, e6c, jX6_pass_114]
      rw [show A 6 + (x + 1) = A 6 + x + 1 from rfl, div_s hR]
      by_cases c : (A 6 + x + 1) % rt A = 0
      · rw [if_pos c, if_pos c]
      · rw [if_neg c, if_neg c]
        rfl
  · obtain ⟨a1, a2, a3⟩ := hI
    rw [lX6_pass_63_s]
    simp (disch := omega) only [z_nn2, z0, z1, z2, z3, z4, z5, z6, z7, z8, z9, z10, z11, z12, z13, z14, z15, z16, z17, z18, z19, z20, z23, z24, z28, z31, z32, z33, z45, z46, z47, z48, z52, z57, z60, z63, z65, z70, z80, z95, z100, z126, z127, z128, z200, z240, z255, z400, z480, z500, z840, z1023, z2000, z99999, z1073741824, z_nn, z_add, z_sub, z_mul, z_div, z_rem, z_cl, z_in, z_chk, z_chkp, z_bnd, z_bn2, z_wth, z_bxr, z_bxl, z_bx2r, z_bx2l, z_bz0, z_bz1, z_mx, z_mn, z_tb1, z_tb0, z_eq, z_le, z_lt, z_nn_lt, z_nn_le, z_nn_ge, z_nn_gt, z_nn_eq, z_nn_eq2, z_bit, z_wow, z_wo, z_or, z_shl, z_if, z_ifn, fbit, if_true, if_false, Nat.zero_add, Nat.add_zero, not_false_iff, not_true]
    obtain ⟨m3, e3, r3, f3⟩ := fpass6_end (m := m2) (t := t) (fun j hj => a2 j (by omega)) a3
    exact ⟨m3, e3, r3, a1.tr (f3.mono (fun c t hc => by simp at hc ⊢; exact hc.1))⟩
theorem op_pass {x1 : Int32} {m : gM} (hi : HIq m) : Okq (fL_pass x1 m) (fX6_pass x1) := by
  obtain ⟨A, n, p, Sv, Sn, K, B, L, hg, hc, hr⟩ := hi
  have w := hg.1
  have hR2 := rt_le w
  have hw := w.wd
  by_cases cb : x1.toInt < 1 ∨ 200 < x1.toInt
  · have d2 := in_bad (x := x1) (a := 1) (b := 200) (by decide) (by decide) cb
    refine ok_thr hr (k := nI 1) (nI_ne (by decide) (by decide)) ⟨m, ?_, hc, FCq.rf⟩ (fun m h => ?_) hg
    · unfold fL_pass fX5_pass jX5_pass_12
      by_cases c1 : x1.toInt < 1
      · simp (disch := omega) only [z_nn2, z0, z1, z2, z3, z4, z5, z6, z7, z8, z9, z10, z11, z12, z13, z14, z15, z16, z17, z18, z19, z20, z23, z24, z28, z31, z32, z33, z45, z46, z47, z48, z52, z57, z60, z63, z65, z70, z80, z95, z100, z126, z127, z128, z200, z240, z255, z400, z480, z500, z840, z1023, z2000, z99999, z1073741824, z_nn, z_add, z_sub, z_mul, z_div, z_rem, z_cl, z_in, z_chk, z_chkp, z_bnd, z_bn2, z_wth, z_bxr, z_bxl, z_bx2r, z_bx2l, z_bz0, z_bz1, z_mx, z_mn, z_tb1, z_tb0, z_eq, z_le, z_lt, z_nn_lt, z_nn_le, z_nn_ge, z_nn_gt, z_nn_eq, z_nn_eq2, z_bit, z_wow, z_wo, z_or, z_shl, z_if, z_ifn, fbit, if_true, if_false, Nat.zero_add, Nat.add_zero, not_false_iff, not_true, zx_lt1, zx_le1, z_bx2l]
      · have c2 : 200 < x1.toInt := by omega
        simp (disch := omega) only [z_nn2, z0, z1, z2, z3, z4, z5, z6, z7, z8, z9, z10, z11, z12, z13, z14, z15, z16, z17, z18, z19, z20, z23, z24, z28, z31, z32, z33, z45, z46, z47, z48, z52, z57, z60, z63, z65, z70, z80, z95, z100, z126, z127, z128, z200, z240, z255, z400, z480, z500, z840, z1023, z2000, z99999, z1073741824, z_nn, z_add, z_sub, z_mul, z_div, z_rem, z_cl, z_in, z_chk, z_chkp, z_bnd, z_bn2, z_wth, z_bxr, z_bxl, z_bx2r, z_bx2l, z_bz0, z_bz1, z_mx, z_mn, z_tb1, z_tb0, z_eq, z_le, z_lt, z_nn_lt, z_nn_le, z_nn_ge, z_nn_gt, z_nn_eq, z_nn_eq2, z_bit, z_wow, z_wo, z_or, z_shl, z_if, z_ifn, fbit, if_true, if_false, Nat.zero_add, Nat.add_zero, not_false_iff, not_true, zx_lt1, zx_le1, z_bx2l]
    · unfold fX6_pass fX6_fails
      simp (disch := omega) only [z_nn2, z0, z1, z2, z3, z4, z5, z6, z7, z8, z9, z10, z11, z12, z13, z14, z15, z16, z17, z18, z19, z20, z23, z24, z28, z31, z32, z33, z45, z46, z47, z48, z52, z57, z60, z63, z65, z70, z80, z95, z100, z126, z127, z128, z200, z240, z255, z400, z480, z500, z840, z1023, z2000, z99999, z1073741824, z_nn, z_add, z_sub, z_mul, z_div, z_rem, z_cl, z_in, z_chk, z_chkp, z_bnd, z_bn2, z_wth, z_bxr, z_bxl, z_bx2r, z_bx2l, z_bz0, z_bz1, z_mx, z_mn, z_tb1, z_tb0, z_eq, z_le, z_lt, z_nn_lt, z_nn_le, z_nn_ge, z_nn_gt, z_nn_eq, z_nn_eq2, z_bit, z_wow, z_wo, z_or, z_shl, z_if, z_ifn, fbit, if_true, if_false, Nat.zero_add, Nat.add_zero, not_false_iff, not_true, d2]
      exact xthr h
  · obtain ⟨t, ht, rfl⟩ : ∃ t, t < 201 ∧ x1 = nI t := by
      rcases ixZ x1 (n := 201) (by decide) with z | z
      · exfalso
        omega
      · exact z
    have d2 := in_ok (x := nI t) (a := 1) (b := 200) (by decide) (by decide) (by omega) (by omega)
    rw [nI_toInt (by omega)] at cb
    by_cases c0 : rt A = 0
    · refine ok_thr hr (k := nI 2) (nI_ne (by decide) (by decide)) ⟨m, ?_, hc, FCq.rf⟩ (fun m h => ?_) hg
      · unfold fL_pass fX5_pass
        simp (disch := omega) only [z_nn2, z0, z1, z2, z3, z4, z5, z6, z7, z8, z9, z10, z11, z12, z13, z14, z15, z16, z17, z18, z19, z20, z23, z24, z28, z31, z32, z33, z45, z46, z47, z48, z52, z57, z60, z63, z65, z70, z80, z95, z100, z126, z127, z128, z200, z240, z255, z400, z480, z500, z840, z1023, z2000, z99999, z1073741824, z_nn, z_add, z_sub, z_mul, z_div, z_rem, z_cl, z_in, z_chk, z_chkp, z_bnd, z_bn2, z_wth, z_bxr, z_bxl, z_bx2r, z_bx2l, z_bz0, z_bz1, z_mx, z_mn, z_tb1, z_tb0, z_eq, z_le, z_lt, z_nn_lt, z_nn_le, z_nn_ge, z_nn_gt, z_nn_eq, z_nn_eq2, z_bit, z_wow, z_wo, z_or, z_shl, z_if, z_ifn, fbit, if_true, if_false, Nat.zero_add, Nat.add_zero, not_false_iff, not_true, frt hc.1 w, z_bx2l]
        rfl
      · unfold fX6_pass jX6_pass_44 fX6_fails
        simp (disch := omega) only [z_nn2, z0, z1, z2, z3, z4, z5, z6, z7, z8, z9, z10, z11, z12, z13, z14, z15, z16, z17, z18, z19, z20, z23, z24, z28, z31, z32, z33, z45, z46, z47, z48, z52, z57, z60, z63, z65, z70, z80, z95, z100, z126, z127, z128, z200, z240, z255, z400, z480, z500, z840, z1023, z2000, z99999, z1073741824, z_nn, z_add, z_sub, z_mul, z_div, z_rem, z_cl, z_in, z_chk, z_chkp, z_bnd, z_bn2, z_wth, z_bxr, z_bxl, z_bx2r, z_bx2l, z_bz0, z_bz1, z_mx, z_mn, z_tb1, z_tb0, z_eq, z_le, z_lt, z_nn_lt, z_nn_le, z_nn_ge, z_nn_gt, z_nn_eq, z_nn_eq2, z_bit, z_wow, z_wo, z_or, z_shl, z_if, z_ifn, fbit, if_true, if_false, Nat.zero_add, Nat.add_zero, not_false_iff, not_true, d2, frt6 (h.th (v := nI 0)).1 w]
        exact xthr h
    · by_cases c9 : A 5 + t ≤ 99999
      · have hq : A 6 < rt A := by rcases hg.2.1 with e | e; (· omega); exact e
        have hR : 0 < rt A := by omega
        have hm : (A 6 + t) % rt A < rt A := Nat.mod_lt _ hR
        have hdv : (A 6 + t) / rt A ≤ A 6 + t := Nat.div_le_self _ _
        refine ok_ret hr (r := nI ((A 6 + t) / rt A)) ?_ (fun m h => ?_) (GV_push hg (pA_WF w hR c9) (pA_WP hR))
        · obtain ⟨m1, a1, a2, a3, ic, fc, -⟩ := save_mod hc hg.2.2.1 hg.2.2.2.1
          obtain ⟨m2, e2, c2, f2⟩ := ffade a2 w (show t ≤ 200 by omega) hR hq
          have p8 : gi m2 0 0 8 = nI (A 6) := by rw [c2.pos, gA2_lo (by decide)]
          have cA := CS_num (v := (A 6 + t) % rt A) c2 (k := 6) (by decide) (by decide)
          have p7 : gi (si m2 0 0 8 (nI ((A 6 + t) % rt A))) 0 0 7 = nI (A 5) := by rw [cA.ticks, up_ne (by decide), gA2_lo (by decide)]
          have cB := CS_num (v := A 5 + t) cA (k := 5) (by decide) (by decide)
          have p9 : gi (si (si m2 0 0 8 (nI ((A 6 + t) % rt A))) 0 0 7 (nI (A 5 + t))) 0 0 9 = nI (A 7) := by rw [cB.rounds, up_ne (by decide), up_ne (by decide), gA2_lo (by decide)]
          have cC := CS_num (v := A 7 + (A 6 + t) / rt A) cB (k := 7) (by decide) (by decide)
          have fall : Frq (fun c t => (decide (c < 6) && t == 0) || (c == 11 && t == 2)) m1 (si (si (si m2 0 0 8 (nI ((A 6 + t) % rt A))) 0 0 7 (nI (A 5 + t))) 0 0 9 (nI (A 7 + (A 6 + t) / rt A))) := (((f2.mono (fun c t hc => by unfold PFq; simp at hc ⊢; omega)).tr (Frq.si rfl)).tr (Frq.si rfl)).tr (Frq.si rfl)
          obtain ⟨-, -, i2, i3, i4⟩ := ic
          refine ⟨_, ?_, ⟨cC, NL.ec (fun i hi => (fall.1 10 0 i rfl).trans (a3 i hi)), i2.eqv (fun c t i h1 h2 => fall.1 c t i (by simp; omega)) (fall.1 _ _ _ rfl) (fall.1 _ _ _ rfl), i3.eqv (fun c t i h1 h2 h3 => fall.1 c t i (by simp; omega)) (fun i => fall.1 _ _ _ rfl), i4.eqv (fall.1 _ _ _ rfl) (fun i => fall.1 _ _ _ rfl)⟩, fc.tr (fall.fc (fun c t hc => by simp; omega))⟩
          unfold fL_pass fX5_pass
          simp (disch := omega) only [z_nn2, z0, z1, z2, z3, z4, z5, z6, z7, z8, z9, z10, z11, z12, z13, z14, z15, z16, z17, z18, z19, z20, z23, z24, z28, z31, z32, z33, z45, z46, z47, z48, z52, z57, z60, z63, z65, z70, z80, z95, z100, z126, z127, z128, z200, z240, z255, z400, z480, z500, z840, z1023, z2000, z99999, z1073741824, z_nn, z_add, z_sub, z_mul, z_div, z_rem, z_cl, z_in, z_chk, z_chkp, z_bnd, z_bn2, z_wth, z_bxr, z_bxl, z_bx2r, z_bx2l, z_bz0, z_bz1, z_mx, z_mn, z_tb1, z_tb0, z_eq, z_le, z_lt, z_nn_lt, z_nn_le, z_nn_ge, z_nn_gt, z_nn_eq, z_nn_eq2, z_bit, z_wow, z_wo, z_or, z_shl, z_if, z_ifn, fbit, if_true, if_false, Nat.zero_add, Nat.add_zero, not_false_iff, not_true, frt hc.1 w, hc.1.ticks, a1, e2, p8, p7, p9]
        · have r1 := (h.th (v := nI 0)).1
          obtain ⟨m1, a1, a2, a3, a4, a5, a6⟩ := saves_mod (h.th (v := nI 0)) hg.2.2.1
          obtain ⟨m2, e2, f2, g2⟩ := fcopies a2
          obtain ⟨m3, e3, r3, f3⟩ := fpass6_loop (a2.fr f2 rfl) w (show t ≤ 200 by omega) hR hq g2
          have fall : ∀ c t i, c ≠ 22 → c ≠ 29 → gi m3 c t i = gi m1 c t i := fun c t i h1 h2 => by
            rw [f3.1 c t i (by simp; exact ⟨h1, h2⟩), f2.1 c t i (by unfold P29; simp; exact h2)]
          refine ⟨m3, ?_, a6 _ _ (fun c i h1 h2 h3 => fall c 0 i h3 (by omega)) r3, ⟨fun c t i hc => ?_, ?_⟩, ?_⟩
          · unfold fX6_pass
            simp (disch := omega) only [z_nn2, z0, z1, z2, z3, z4, z5, z6, z7, z8, z9, z10, z11, z12, z13, z14, z15, z16, z17, z18, z19, z20, z23, z24, z28, z31, z32, z33, z45, z46, z47, z48, z52, z57, z60, z63, z65, z70, z80, z95, z100, z126, z127, z128, z200, z240, z255, z400, z480, z500, z840, z1023, z2000, z99999, z1073741824, z_nn, z_add, z_sub, z_mul, z_div, z_rem, z_cl, z_in, z_chk, z_chkp, z_bnd, z_bn2, z_wth, z_bxr, z_bxl, z_bx2r, z_bx2l, z_bz0, z_bz1, z_mx, z_mn, z_tb1, z_tb0, z_eq, z_le, z_lt, z_nn_lt, z_nn_le, z_nn_ge, z_nn_gt, z_nn_eq, z_nn_eq2, z_bit, z_wow, z_wo, z_or, z_shl, z_if, z_ifn, fbit, if_true, if_false, Nat.zero_add, Nat.add_zero, not_false_iff, not_true, d2, frt6 r1 w, r1 5, a1, e2, e3]
          · rw [fall c t i (by omega) (by omega), a3.1 c t i hc, gi_si, if_neg (fun z => by omega)]
          · rw [f3.2 34 0, f2.2 34 0, a3.2]
            rfl
          · rw [fall 21 0 0 (by decide) (by decide), a4 0 (by decide), gi_si, if_pos ⟨rfl, rfl, rfl⟩]
      · refine ok_thr hr (k := nI 2) (nI_ne (by decide) (by decide)) ⟨m, ?_, hc, FCq.rf⟩ (fun m h => ?_) hg
        · unfold fL_pass fX5_pass
          simp (disch := omega) only [z_nn2, z0, z1, z2, z3, z4, z5, z6, z7, z8, z9, z10, z11, z12, z13, z14, z15, z16, z17, z18, z19, z20, z23, z24, z28, z31, z32, z33, z45, z46, z47, z48, z52, z57, z60, z63, z65, z70, z80, z95, z100, z126, z127, z128, z200, z240, z255, z400, z480, z500, z840, z1023, z2000, z99999, z1073741824, z_nn, z_add, z_sub, z_mul, z_div, z_rem, z_cl, z_in, z_chk, z_chkp, z_bnd, z_bn2, z_wth, z_bxr, z_bxl, z_bx2r, z_bx2l, z_bz0, z_bz1, z_mx, z_mn, z_tb1, z_tb0, z_eq, z_le, z_lt, z_nn_lt, z_nn_le, z_nn_ge, z_nn_gt, z_nn_eq, z_nn_eq2, z_bit, z_wow, z_wo, z_or, z_shl, z_if, z_ifn, fbit, if_true, if_false, Nat.zero_add, Nat.add_zero, not_false_iff, not_true, frt hc.1 w, hc.1.ticks, z_bx2l]
          rfl
        · have r1 := (h.th (v := nI 0)).1
          unfold fX6_pass jX6_pass_44 fX6_fails
          simp (disch := omega) only [z_nn2, z0, z1, z2, z3, z4, z5, z6, z7, z8, z9, z10, z11, z12, z13, z14, z15, z16, z17, z18, z19, z20, z23, z24, z28, z31, z32, z33, z45, z46, z47, z48, z52, z57, z60, z63, z65, z70, z80, z95, z100, z126, z127, z128, z200, z240, z255, z400, z480, z500, z840, z1023, z2000, z99999, z1073741824, z_nn, z_add, z_sub, z_mul, z_div, z_rem, z_cl, z_in, z_chk, z_chkp, z_bnd, z_bn2, z_wth, z_bxr, z_bxl, z_bx2r, z_bx2l, z_bz0, z_bz1, z_mx, z_mn, z_tb1, z_tb0, z_eq, z_le, z_lt, z_nn_lt, z_nn_le, z_nn_ge, z_nn_gt, z_nn_eq, z_nn_eq2, z_bit, z_wow, z_wo, z_or, z_shl, z_if, z_ifn, fbit, if_true, if_false, Nat.zero_add, Nat.add_zero, not_false_iff, not_true, d2, frt6 r1 w, r1 5]
          exact xthr h
