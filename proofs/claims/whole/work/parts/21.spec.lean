/-! THE ABSTRACT STATE: 80 numbers A; what both sides answer, told over A -/
def sg (s : Nat) : Nat := ([63, 6, 91, 79, 102, 109, 125, 7, 127, 111, 119, 124, 57, 94, 121, 113, 64, 0] : List Nat).getD s 0
def dm (A : Nat → Nat) : Nat := A 9 + 2 * A 13 + 4 * A 17 + 8 * A 21 + 16 * A 25 + 32 * A 29
/-- the state's cells of number t hold A -/
def CS (t : Nat) (A : Nat → Nat) (mm : gM) : Prop :=
  (∀ i, i < 6 → gi mm 1 t i = nI (A (8 + 4 * i))) ∧ (∀ i, i < 6 → gi mm 2 t i = nI (A (11 + 4 * i))) ∧ (∀ i, i < 6 → gi mm 3 t i = nI (A (10 + 4 * i))) ∧ (∀ i, i < 48 → gi mm 4 t i = nI (A (32 + i))) ∧ (∀ i, i < 4 → gi mm 5 t i = nI (A i)) ∧ gi mm 0 t 5 = nI (dm A) ∧ gi mm 0 t 6 = nI (A 4) ∧ gi mm 0 t 7 = nI (A 5) ∧ gi mm 0 t 8 = nI (A 6) ∧ gi mm 0 t 9 = nI (A 7)
/-- the reference's row holds A -/
def RMq (A : Nat → Nat) (mm : gM) : Prop := ∀ i, i < 80 → gi mm 22 0 i = nI (A i)
/-- bounds -/
def WF (A : Nat → Nat) : Prop :=
  A 0 ≤ 3 ∧ 1 ≤ A 1 ∧ A 1 ≤ 2000 ∧ 1 ≤ A 2 ∧ A 2 ≤ 16 ∧ 1 ≤ A 3 ∧ A 3 ≤ 500 ∧ A 4 < 256 ∧ A 5 ≤ 99999 ∧ A 6 ≤ 200 ∧ 0 ≤ A 7 ∧ (∀ i, i < 6 → A (8 + 4 * i) < 18) ∧ (∀ i, i < 6 → A (9 + 4 * i) ≤ 1) ∧ (∀ i, i < 6 → A (10 + 4 * i) ≤ 20) ∧ (∀ i, i < 6 → A (11 + 4 * i) < 256) ∧ (∀ k, k < 48 → A (32 + k) ≤ 2000)
theorem WF.wd {A : Nat → Nat} (h : WF A) : A 0 ≤ 3 ∧ 1 ≤ A 1 ∧ A 1 ≤ 2000 ∧ 1 ≤ A 2 ∧ A 2 ≤ 16 ∧ 1 ≤ A 3 ∧ A 3 ≤ 500 ∧ A 4 < 256 ∧ A 5 ≤ 99999 ∧ A 6 ≤ 200 ∧ 0 ≤ A 7 := by
  obtain ⟨h0, h1, h2, h3, h4, h5, h6, h7, h8, h9, h10, -⟩ := h
  exact ⟨h0, h1, h2, h3, h4, h5, h6, h7, h8, h9, h10⟩
theorem WF.sign {A : Nat → Nat} (h : WF A) {i : Nat} (hi : i < 6) : A (8 + 4 * i) < 18 := h.2.2.2.2.2.2.2.2.2.2.2.1 i hi
theorem WF.dot {A : Nat → Nat} (h : WF A) {i : Nat} (hi : i < 6) : A (9 + 4 * i) ≤ 1 := h.2.2.2.2.2.2.2.2.2.2.2.2.1 i hi
theorem WF.time {A : Nat → Nat} (h : WF A) {i : Nat} (hi : i < 6) : A (10 + 4 * i) ≤ 20 := h.2.2.2.2.2.2.2.2.2.2.2.2.2.1 i hi
theorem WF.burnt {A : Nat → Nat} (h : WF A) {i : Nat} (hi : i < 6) : A (11 + 4 * i) < 256 := h.2.2.2.2.2.2.2.2.2.2.2.2.2.2.1 i hi
theorem WF.glow {A : Nat → Nat} (h : WF A) {k : Nat} (hk : k < 48) : A (32 + k) ≤ 2000 := h.2.2.2.2.2.2.2.2.2.2.2.2.2.2.2 k hk
theorem CS.sign {t : Nat} {A : Nat → Nat} {mm : gM} (h : CS t A mm) {i : Nat} (hi : i < 6) : gi mm 1 t i = nI (A (8 + 4 * i)) := h.1 i hi
theorem CS.burnt {t : Nat} {A : Nat → Nat} {mm : gM} (h : CS t A mm) {i : Nat} (hi : i < 6) : gi mm 2 t i = nI (A (11 + 4 * i)) := h.2.1 i hi
theorem CS.time {t : Nat} {A : Nat → Nat} {mm : gM} (h : CS t A mm) {i : Nat} (hi : i < 6) : gi mm 3 t i = nI (A (10 + 4 * i)) := h.2.2.1 i hi
theorem CS.glow {t : Nat} {A : Nat → Nat} {mm : gM} (h : CS t A mm) {i : Nat} (hi : i < 48) : gi mm 4 t i = nI (A (32 + i)) := h.2.2.2.1 i hi
theorem CS.set {t : Nat} {A : Nat → Nat} {mm : gM} (h : CS t A mm) {i : Nat} (hi : i < 4) : gi mm 5 t i = nI (A i) := h.2.2.2.2.1 i hi
theorem CS.dots {t : Nat} {A : Nat → Nat} {mm : gM} (h : CS t A mm) : gi mm 0 t 5 = nI (dm A) := h.2.2.2.2.2.1
theorem CS.cut {t : Nat} {A : Nat → Nat} {mm : gM} (h : CS t A mm) : gi mm 0 t 6 = nI (A 4) := h.2.2.2.2.2.2.1
theorem CS.ticks {t : Nat} {A : Nat → Nat} {mm : gM} (h : CS t A mm) : gi mm 0 t 7 = nI (A 5) := h.2.2.2.2.2.2.2.1
theorem CS.pos {t : Nat} {A : Nat → Nat} {mm : gM} (h : CS t A mm) : gi mm 0 t 8 = nI (A 6) := h.2.2.2.2.2.2.2.2.1
theorem CS.rounds {t : Nat} {A : Nat → Nat} {mm : gM} (h : CS t A mm) : gi mm 0 t 9 = nI (A 7) := h.2.2.2.2.2.2.2.2.2
/-- two worlds are alike but for what P names -/
def Frq (P : Nat → Nat → Bool) (m m1 : gM) : Prop := (∀ c t i, P c t = false → gi m1 c t i = gi m c t i) ∧ ∀ c t, gl m1 c t = gl m c t
theorem Frq.rf {P : Nat → Nat → Bool} {m : gM} : Frq P m m := ⟨fun _ _ _ _ => rfl, fun _ _ => rfl⟩
theorem Frq.tr {P : Nat → Nat → Bool} {m m1 m2 : gM} (h : Frq P m m1) (h2 : Frq P m1 m2) : Frq P m m2 := ⟨fun c t i hp => (h2.1 c t i hp).trans (h.1 c t i hp), fun c t => (h2.2 c t).trans (h.2 c t)⟩
theorem Frq.mono {P Q : Nat → Nat → Bool} {m m1 : gM} (h : Frq P m m1) (hpq : ∀ c t, Q c t = false → P c t = false) : Frq Q m m1 := ⟨fun c t i hq => h.1 c t i (hpq c t hq), h.2⟩
theorem Frq.si {P : Nat → Nat → Bool} {m : gM} {c t i : Nat} {v : Int32} (h : P c t = true) : Frq P m (si m c t i v) := by
  refine ⟨fun c1 t1 i1 hp => ?_, fun _ _ => rfl⟩
  rw [gi_si, if_neg]
  rintro ⟨rfl, rfl, -⟩
  rw [h] at hp; cases hp
theorem CS.fr {P : Nat → Nat → Bool} {t : Nat} {A : Nat → Nat} {m m1 : gM} (h : CS t A m) (hf : Frq P m m1) (hp : ∀ c, c < 6 → P c t = false) : CS t A m1 := by
  obtain ⟨h1, h2, h3, h4, h5, h6, h7, h8, h9, h10⟩ := h
  refine ⟨fun i hi => ?_, fun i hi => ?_, fun i hi => ?_, fun i hi => ?_, fun i hi => ?_, ?_, ?_, ?_, ?_, ?_⟩
  · rw [hf.1 _ _ _ (hp 1 (by decide))]; exact h1 i hi
  · rw [hf.1 _ _ _ (hp 2 (by decide))]; exact h2 i hi
  · rw [hf.1 _ _ _ (hp 3 (by decide))]; exact h3 i hi
  · rw [hf.1 _ _ _ (hp 4 (by decide))]; exact h4 i hi
  · rw [hf.1 _ _ _ (hp 5 (by decide))]; exact h5 i hi
  · rw [hf.1 _ _ _ (hp 0 (by decide))]; exact h6
  · rw [hf.1 _ _ _ (hp 0 (by decide))]; exact h7
  · rw [hf.1 _ _ _ (hp 0 (by decide))]; exact h8
  · rw [hf.1 _ _ _ (hp 0 (by decide))]; exact h9
  · rw [hf.1 _ _ _ (hp 0 (by decide))]; exact h10
theorem RMq.fr {P : Nat → Nat → Bool} {A : Nat → Nat} {m m1 : gM} (h : RMq A m) (hf : Frq P m m1) (hp : P 22 0 = false) : RMq A m1 := fun i hi => by rw [hf.1 _ _ _ hp]; exact h i hi
theorem sg_lt_all : ∀ s, s < 18 → sg s < 128 := by decide +kernel
theorem sg_lt {s : Nat} (h : s < 18) : sg s < 128 := sg_lt_all s h
theorem tS0_all : ∀ s, s < 18 → tS0 s = nI (sg s) := by decide +kernel
theorem fmask {s : Nat} (h : s < 18) : fX5_maskOf (nI s) = some (nI (sg s)) := by
  unfold fX5_maskOf
  simp (disch := omega) only [z_nn2, z0, z1, z2, z3, z4, z5, z6, z7, z8, z9, z10, z11, z12, z13, z14, z15, z16, z17, z18, z19, z20, z23, z24, z28, z31, z32, z33, z45, z46, z47, z48, z52, z57, z60, z63, z65, z70, z80, z95, z100, z126, z127, z128, z200, z240, z255, z400, z480, z500, z840, z1023, z2000, z99999, z1073741824, z_nn, z_add, z_sub, z_mul, z_div, z_rem, z_cl, z_in, z_chk, z_chkp, z_bnd, z_bn2, z_wth, z_bxr, z_bxl, z_bx2r, z_bx2l, z_bz0, z_bz1, z_mx, z_mn, z_tb1, z_tb0, z_eq, z_le, z_lt, z_nn_lt, z_nn_le, z_nn_ge, z_nn_gt, z_nn_eq, z_nn_eq2, z_bit, z_wow, z_wo, z_or, z_shl, z_if, z_ifn, fbit, if_true, if_false, Nat.zero_add, Nat.add_zero, not_false_iff, not_true, tS0_all]
theorem fsegs_all : ∀ s, s < 18 → fX6_segmentsOf (nI s) = some (nI (sg s)) := by decide +kernel
theorem fsegs {s : Nat} (h : s < 18) : fX6_segmentsOf (nI s) = some (nI (sg s)) := fsegs_all s h
theorem fmask_hi {s : Nat} (h : 18 ≤ s) (h2 : s < 2147483648) : fX5_maskOf (nI s) = some (nI 0) := by
  unfold fX5_maskOf jX5_maskOf_18
  simp (disch := omega) only [z_nn2, z0, z1, z2, z3, z4, z5, z6, z7, z8, z9, z10, z11, z12, z13, z14, z15, z16, z17, z18, z19, z20, z23, z24, z28, z31, z32, z33, z45, z46, z47, z48, z52, z57, z60, z63, z65, z70, z80, z95, z100, z126, z127, z128, z200, z240, z255, z400, z480, z500, z840, z1023, z2000, z99999, z1073741824, z_nn, z_add, z_sub, z_mul, z_div, z_rem, z_cl, z_in, z_chk, z_chkp, z_bnd, z_bn2, z_wth, z_bxr, z_bxl, z_bx2r, z_bx2l, z_bz0, z_bz1, z_mx, z_mn, z_tb1, z_tb0, z_eq, z_le, z_lt, z_nn_lt, z_nn_le, z_nn_ge, z_nn_gt, z_nn_eq, z_nn_eq2, z_bit, z_wow, z_wo, z_or, z_shl, z_if, z_ifn, fbit, if_true, if_false, Nat.zero_add, Nat.add_zero, not_false_iff, not_true]
theorem fof {A : Nat → Nat} {mm : gM} (h : RMq A mm) {i k : Nat} (hi : i < 6) (hk : k < 4) : fX6_of (nI i) (nI k) mm = some (nI (A (8 + 4 * i + k))) := by
  unfold fX6_of
  simp (disch := omega) only [z_nn2, z0, z1, z2, z3, z4, z5, z6, z7, z8, z9, z10, z11, z12, z13, z14, z15, z16, z17, z18, z19, z20, z23, z24, z28, z31, z32, z33, z45, z46, z47, z48, z52, z57, z60, z63, z65, z70, z80, z95, z100, z126, z127, z128, z200, z240, z255, z400, z480, z500, z840, z1023, z2000, z99999, z1073741824, z_nn, z_add, z_sub, z_mul, z_div, z_rem, z_cl, z_in, z_chk, z_chkp, z_bnd, z_bn2, z_wth, z_bxr, z_bxl, z_bx2r, z_bx2l, z_bz0, z_bz1, z_mx, z_mn, z_tb1, z_tb0, z_eq, z_le, z_lt, z_nn_lt, z_nn_le, z_nn_ge, z_nn_gt, z_nn_eq, z_nn_eq2, z_bit, z_wow, z_wo, z_or, z_shl, z_if, z_ifn, fbit, if_true, if_false, Nat.zero_add, Nat.add_zero, not_false_iff, not_true, h _]
/-- the segments of a slot that fail -/
def flq (A : Nat → Nat) (i : Nat) : Nat := A (11 + 4 * i) ||| A 4
theorem fl_lt {A : Nat → Nat} (w : WF A) {i : Nat} (hi : i < 6) : flq A i < 256 := by
  have h1 := w.burnt hi
  have h2 := w.wd
  exact Nat.or_lt_two_pow (n := 8) h1 h2.2.2.2.2.2.2.2.1
theorem ffail {t : Nat} {A : Nat → Nat} {mm : gM} (h : CS t A mm) {i : Nat} (hi : i < 6) : fX2_failing t (nI i) mm = some (nI (flq A i)) := by
  unfold fX2_failing flq
  simp (disch := omega) only [z_nn2, z0, z1, z2, z3, z4, z5, z6, z7, z8, z9, z10, z11, z12, z13, z14, z15, z16, z17, z18, z19, z20, z23, z24, z28, z31, z32, z33, z45, z46, z47, z48, z52, z57, z60, z63, z65, z70, z80, z95, z100, z126, z127, z128, z200, z240, z255, z400, z480, z500, z840, z1023, z2000, z99999, z1073741824, z_nn, z_add, z_sub, z_mul, z_div, z_rem, z_cl, z_in, z_chk, z_chkp, z_bnd, z_bn2, z_wth, z_bxr, z_bxl, z_bx2r, z_bx2l, z_bz0, z_bz1, z_mx, z_mn, z_tb1, z_tb0, z_eq, z_le, z_lt, z_nn_lt, z_nn_le, z_nn_ge, z_nn_gt, z_nn_eq, z_nn_eq2, z_bit, z_wow, z_wo, z_or, z_shl, z_if, z_ifn, fbit, if_true, if_false, Nat.zero_add, Nat.add_zero, not_false_iff, not_true, h.burnt, h.cut]
theorem fworking {A : Nat → Nat} {mm : gM} (h : RMq A mm) {i x : Nat} (hi : i < 6) (hx : x < 256) : fX6_working (nI i) (nI x) mm = some (nI (wo x (flq A i))) := by
  unfold fX6_working flq
  simp (disch := omega) only [z_nn2, z0, z1, z2, z3, z4, z5, z6, z7, z8, z9, z10, z11, z12, z13, z14, z15, z16, z17, z18, z19, z20, z23, z24, z28, z31, z32, z33, z45, z46, z47, z48, z52, z57, z60, z63, z65, z70, z80, z95, z100, z126, z127, z128, z200, z240, z255, z400, z480, z500, z840, z1023, z2000, z99999, z1073741824, z_nn, z_add, z_sub, z_mul, z_div, z_rem, z_cl, z_in, z_chk, z_chkp, z_bnd, z_bn2, z_wth, z_bxr, z_bxl, z_bx2r, z_bx2l, z_bz0, z_bz1, z_mx, z_mn, z_tb1, z_tb0, z_eq, z_le, z_lt, z_nn_lt, z_nn_le, z_nn_ge, z_nn_gt, z_nn_eq, z_nn_eq2, z_bit, z_wow, z_wo, z_or, z_shl, z_if, z_ifn, fbit, if_true, if_false, Nat.zero_add, Nat.add_zero, not_false_iff, not_true, fof h, h 4, show 8 + 4 * i + 3 = 11 + 4 * i by omega]
def wkq (A : Nat → Nat) (i : Nat) : Nat := wo (sg (A (8 + 4 * i)) + 128 * A (9 + 4 * i)) (flq A i)
theorem wkx_lt {A : Nat → Nat} (w : WF A) {i : Nat} (hi : i < 6) : sg (A (8 + 4 * i)) + 128 * A (9 + 4 * i) < 256 := by
  have h1 := sg_lt (w.sign hi)
  have h2 := w.dot hi
  omega
theorem wk_lt {A : Nat → Nat} (w : WF A) {i : Nat} (hi : i < 6) : wkq A i < 256 := wo_lt (wkx_lt w hi)
theorem dm_lt {A : Nat → Nat} (w : WF A) : dm A < 64 := by
  have h0 : A 9 ≤ 1 := w.dot (i := 0) (by decide)
  have h1 : A 13 ≤ 1 := w.dot (i := 1) (by decide)
  have h2 : A 17 ≤ 1 := w.dot (i := 2) (by decide)
  have h3 : A 21 ≤ 1 := w.dot (i := 3) (by decide)
  have h4 : A 25 ≤ 1 := w.dot (i := 4) (by decide)
  have h5 : A 29 ≤ 1 := w.dot (i := 5) (by decide)
  unfold dm
  omega
theorem dm_tb {A : Nat → Nat} (w : WF A) {i : Nat} (hi : i < 6) : tbq (dm A) i = A (9 + 4 * i) := by
  have h0 : A 9 ≤ 1 := w.dot (i := 0) (by decide)
  have h1 : A 13 ≤ 1 := w.dot (i := 1) (by decide)
  have h2 : A 17 ≤ 1 := w.dot (i := 2) (by decide)
  have h3 : A 21 ≤ 1 := w.dot (i := 3) (by decide)
  have h4 : A 25 ≤ 1 := w.dot (i := 4) (by decide)
  have h5 : A 29 ≤ 1 := w.dot (i := 5) (by decide)
  unfold dm tbq
  rcases (show i = 0 ∨ i = 1 ∨ i = 2 ∨ i = 3 ∨ i = 4 ∨ i = 5 by omega) with rfl | rfl | rfl | rfl | rfl | rfl <;> (simp only [Nat.reducePow, Nat.reduceMul, Nat.reduceAdd] at *; omega)
theorem sg128_all : ∀ s, s < 18 → sg s ||| 128 = sg s + 128 := by decide +kernel
theorem fworks {t : Nat} {A : Nat → Nat} {mm : gM} (h : CS t A mm) (w : WF A) {i : Nat} (hi : i < 6) : fX2_works t (nI i) mm = some (nI (wkq A i)) := by
  have h1 := w.sign hi
  have h2 := w.dot hi
  have h3 := dm_lt w
  have h4 := wkx_lt w hi
  have h5 := sg_lt h1
  unfold fX2_works jX2_works_28
  simp (disch := omega) only [z_nn2, z0, z1, z2, z3, z4, z5, z6, z7, z8, z9, z10, z11, z12, z13, z14, z15, z16, z17, z18, z19, z20, z23, z24, z28, z31, z32, z33, z45, z46, z47, z48, z52, z57, z60, z63, z65, z70, z80, z95, z100, z126, z127, z128, z200, z240, z255, z400, z480, z500, z840, z1023, z2000, z99999, z1073741824, z_nn, z_add, z_sub, z_mul, z_div, z_rem, z_cl, z_in, z_chk, z_chkp, z_bnd, z_bn2, z_wth, z_bxr, z_bxl, z_bx2r, z_bx2l, z_bz0, z_bz1, z_mx, z_mn, z_tb1, z_tb0, z_eq, z_le, z_lt, z_nn_lt, z_nn_le, z_nn_ge, z_nn_gt, z_nn_eq, z_nn_eq2, z_bit, z_wow, z_wo, z_or, z_shl, z_if, z_ifn, fbit, if_true, if_false, Nat.zero_add, Nat.add_zero, not_false_iff, not_true, h.sign, h.dots, fmask, dm_tb w hi, ffail h]
  rcases (show A (9 + 4 * i) = 0 ∨ A (9 + 4 * i) = 1 by omega) with e | e
  · rw [if_neg (by omega)]
    simp (disch := omega) only [z_nn2, z0, z1, z2, z3, z4, z5, z6, z7, z8, z9, z10, z11, z12, z13, z14, z15, z16, z17, z18, z19, z20, z23, z24, z28, z31, z32, z33, z45, z46, z47, z48, z52, z57, z60, z63, z65, z70, z80, z95, z100, z126, z127, z128, z200, z240, z255, z400, z480, z500, z840, z1023, z2000, z99999, z1073741824, z_nn, z_add, z_sub, z_mul, z_div, z_rem, z_cl, z_in, z_chk, z_chkp, z_bnd, z_bn2, z_wth, z_bxr, z_bxl, z_bx2r, z_bx2l, z_bz0, z_bz1, z_mx, z_mn, z_tb1, z_tb0, z_eq, z_le, z_lt, z_nn_lt, z_nn_le, z_nn_ge, z_nn_gt, z_nn_eq, z_nn_eq2, z_bit, z_wow, z_wo, z_or, z_shl, z_if, z_ifn, fbit, if_true, if_false, Nat.zero_add, Nat.add_zero, not_false_iff, not_true, Nat.or_zero]
    unfold wkq
    rw [e, Nat.mul_zero, Nat.add_zero]
  · rw [if_pos e]
    rw [e] at h4
    simp (disch := omega) only [z_nn2, z0, z1, z2, z3, z4, z5, z6, z7, z8, z9, z10, z11, z12, z13, z14, z15, z16, z17, z18, z19, z20, z23, z24, z28, z31, z32, z33, z45, z46, z47, z48, z52, z57, z60, z63, z65, z70, z80, z95, z100, z126, z127, z128, z200, z240, z255, z400, z480, z500, z840, z1023, z2000, z99999, z1073741824, z_nn, z_add, z_sub, z_mul, z_div, z_rem, z_cl, z_in, z_chk, z_chkp, z_bnd, z_bn2, z_wth, z_bxr, z_bxl, z_bx2r, z_bx2l, z_bz0, z_bz1, z_mx, z_mn, z_tb1, z_tb0, z_eq, z_le, z_lt, z_nn_lt, z_nn_le, z_nn_ge, z_nn_gt, z_nn_eq, z_nn_eq2, z_bit, z_wow, z_wo, z_or, z_shl, z_if, z_ifn, fbit, if_true, if_false, Nat.zero_add, Nat.add_zero, not_false_iff, not_true, sg128_all]
    unfold wkq
    rw [e, Nat.mul_one]
theorem fworks6 {A : Nat → Nat} {mm : gM} (h : RMq A mm) (w : WF A) {i : Nat} (hi : i < 6) : fX6_works (nI i) mm = some (nI (wkq A i)) := by
  have h1 := w.sign hi
  have h2 := w.dot hi
  have h4 := wkx_lt w hi
  unfold fX6_works
  simp (disch := omega) only [z_nn2, z0, z1, z2, z3, z4, z5, z6, z7, z8, z9, z10, z11, z12, z13, z14, z15, z16, z17, z18, z19, z20, z23, z24, z28, z31, z32, z33, z45, z46, z47, z48, z52, z57, z60, z63, z65, z70, z80, z95, z100, z126, z127, z128, z200, z240, z255, z400, z480, z500, z840, z1023, z2000, z99999, z1073741824, z_nn, z_add, z_sub, z_mul, z_div, z_rem, z_cl, z_in, z_chk, z_chkp, z_bnd, z_bn2, z_wth, z_bxr, z_bxl, z_bx2r, z_bx2l, z_bz0, z_bz1, z_mx, z_mn, z_tb1, z_tb0, z_eq, z_le, z_lt, z_nn_lt, z_nn_le, z_nn_ge, z_nn_gt, z_nn_eq, z_nn_eq2, z_bit, z_wow, z_wo, z_or, z_shl, z_if, z_ifn, fbit, if_true, if_false, Nat.zero_add, Nat.add_zero, not_false_iff, not_true, fof h, show 8 + 4 * i + 1 = 9 + 4 * i by omega, fsegs, fworking h]
  rfl
theorem fpop {w : Nat} (h : w < 256) : fJ6_bitCount_0f7a4 (nI w) = some (nI (pc w)) := fpop_all w h
theorem fones {w : Nat} (h : w < 256) : fX6_ones (nI w) = some (nI (pc w)) := fones_all w h
theorem pc_0 {w : Nat} (h : w < 256) : pc w = 0 ↔ w = 0 := pc_0_all w h
/-- the light that each of w's segments gets -/
def lfq (A : Nat → Nat) (w : Nat) : Nat := if pc w = 0 then 0 else A 1 / pc w
theorem lf_le {A : Nat → Nat} (w : WF A) (x : Nat) : lfq A x ≤ 2000 := by
  have h := w.wd
  unfold lfq
  split
  · omega
  · exact Nat.le_trans (Nat.div_le_self _ _) h.2.2.1
theorem flight {t : Nat} {A : Nat → Nat} {mm : gM} (h : CS t A mm) (w : WF A) {x : Nat} (hx : x < 256) : fX2_lightFor t (nI x) mm = some (nI (lfq A x)) := by
  have hp := pc_le x
  have hw := w.wd
  unfold fX2_lightFor lfq
  simp (disch := omega) only [z_nn2, z0, z1, z2, z3, z4, z5, z6, z7, z8, z9, z10, z11, z12, z13, z14, z15, z16, z17, z18, z19, z20, z23, z24, z28, z31, z32, z33, z45, z46, z47, z48, z52, z57, z60, z63, z65, z70, z80, z95, z100, z126, z127, z128, z200, z240, z255, z400, z480, z500, z840, z1023, z2000, z99999, z1073741824, z_nn, z_add, z_sub, z_mul, z_div, z_rem, z_cl, z_in, z_chk, z_chkp, z_bnd, z_bn2, z_wth, z_bxr, z_bxl, z_bx2r, z_bx2l, z_bz0, z_bz1, z_mx, z_mn, z_tb1, z_tb0, z_eq, z_le, z_lt, z_nn_lt, z_nn_le, z_nn_ge, z_nn_gt, z_nn_eq, z_nn_eq2, z_bit, z_wow, z_wo, z_or, z_shl, z_if, z_ifn, fbit, if_true, if_false, Nat.zero_add, Nat.add_zero, not_false_iff, not_true, fpop]
  by_cases e : pc x = 0
  · rw [if_pos (by omega), if_pos e]
  · rw [if_neg (by omega), if_neg e]
    simp (disch := omega) only [z_nn2, z0, z1, z2, z3, z4, z5, z6, z7, z8, z9, z10, z11, z12, z13, z14, z15, z16, z17, z18, z19, z20, z23, z24, z28, z31, z32, z33, z45, z46, z47, z48, z52, z57, z60, z63, z65, z70, z80, z95, z100, z126, z127, z128, z200, z240, z255, z400, z480, z500, z840, z1023, z2000, z99999, z1073741824, z_nn, z_add, z_sub, z_mul, z_div, z_rem, z_cl, z_in, z_chk, z_chkp, z_bnd, z_bn2, z_wth, z_bxr, z_bxl, z_bx2r, z_bx2l, z_bz0, z_bz1, z_mx, z_mn, z_tb1, z_tb0, z_eq, z_le, z_lt, z_nn_lt, z_nn_le, z_nn_ge, z_nn_gt, z_nn_eq, z_nn_eq2, z_bit, z_wow, z_wo, z_or, z_shl, z_if, z_ifn, fbit, if_true, if_false, Nat.zero_add, Nat.add_zero, not_false_iff, not_true, h.set]
theorem flight6 {A : Nat → Nat} {mm : gM} (h : RMq A mm) (w : WF A) {i : Nat} (hi : i < 6) : fX6_light (nI i) mm = some (nI (lfq A (wkq A i))) := by
  have hp := pc_le (wkq A i)
  have hw := w.wd
  have hx := wk_lt w hi
  unfold fX6_light lfq
  simp (disch := omega) only [z_nn2, z0, z1, z2, z3, z4, z5, z6, z7, z8, z9, z10, z11, z12, z13, z14, z15, z16, z17, z18, z19, z20, z23, z24, z28, z31, z32, z33, z45, z46, z47, z48, z52, z57, z60, z63, z65, z70, z80, z95, z100, z126, z127, z128, z200, z240, z255, z400, z480, z500, z840, z1023, z2000, z99999, z1073741824, z_nn, z_add, z_sub, z_mul, z_div, z_rem, z_cl, z_in, z_chk, z_chkp, z_bnd, z_bn2, z_wth, z_bxr, z_bxl, z_bx2r, z_bx2l, z_bz0, z_bz1, z_mx, z_mn, z_tb1, z_tb0, z_eq, z_le, z_lt, z_nn_lt, z_nn_le, z_nn_ge, z_nn_gt, z_nn_eq, z_nn_eq2, z_bit, z_wow, z_wo, z_or, z_shl, z_if, z_ifn, fbit, if_true, if_false, Nat.zero_add, Nat.add_zero, not_false_iff, not_true, fworks6 h w, fones]
  by_cases e : pc (wkq A i) = 0
  · rw [if_pos e, if_pos e]
  · rw [if_neg e, if_neg e]
    simp (disch := omega) only [z_nn2, z0, z1, z2, z3, z4, z5, z6, z7, z8, z9, z10, z11, z12, z13, z14, z15, z16, z17, z18, z19, z20, z23, z24, z28, z31, z32, z33, z45, z46, z47, z48, z52, z57, z60, z63, z65, z70, z80, z95, z100, z126, z127, z128, z200, z240, z255, z400, z480, z500, z840, z1023, z2000, z99999, z1073741824, z_nn, z_add, z_sub, z_mul, z_div, z_rem, z_cl, z_in, z_chk, z_chkp, z_bnd, z_bn2, z_wth, z_bxr, z_bxl, z_bx2r, z_bx2l, z_bz0, z_bz1, z_mx, z_mn, z_tb1, z_tb0, z_eq, z_le, z_lt, z_nn_lt, z_nn_le, z_nn_ge, z_nn_gt, z_nn_eq, z_nn_eq2, z_bit, z_wow, z_wo, z_or, z_shl, z_if, z_ifn, fbit, if_true, if_false, Nat.zero_add, Nat.add_zero, not_false_iff, not_true, h 1]
def tk (A : Nat → Nat) (i : Nat) : Nat := if A (10 + 4 * i) = 0 then 0 else A 0 + A (10 + 4 * i)
theorem tk_le {A : Nat → Nat} (w : WF A) {i : Nat} (hi : i < 6) : tk A i ≤ 23 := by
  have h1 := w.wd
  have h2 := w.time hi
  unfold tk
  split <;> omega
theorem ftk {t : Nat} {A : Nat → Nat} {mm : gM} (h : CS t A mm) (w : WF A) {i : Nat} (hi : i < 6) : fX2_ticksOf t (nI i) mm = some (nI (tk A i)) := by
  have h1 := w.wd
  have h2 := w.time hi
  unfold fX2_ticksOf tk
  simp (disch := omega) only [z_nn2, z0, z1, z2, z3, z4, z5, z6, z7, z8, z9, z10, z11, z12, z13, z14, z15, z16, z17, z18, z19, z20, z23, z24, z28, z31, z32, z33, z45, z46, z47, z48, z52, z57, z60, z63, z65, z70, z80, z95, z100, z126, z127, z128, z200, z240, z255, z400, z480, z500, z840, z1023, z2000, z99999, z1073741824, z_nn, z_add, z_sub, z_mul, z_div, z_rem, z_cl, z_in, z_chk, z_chkp, z_bnd, z_bn2, z_wth, z_bxr, z_bxl, z_bx2r, z_bx2l, z_bz0, z_bz1, z_mx, z_mn, z_tb1, z_tb0, z_eq, z_le, z_lt, z_nn_lt, z_nn_le, z_nn_ge, z_nn_gt, z_nn_eq, z_nn_eq2, z_bit, z_wow, z_wo, z_or, z_shl, z_if, z_ifn, fbit, if_true, if_false, Nat.zero_add, Nat.add_zero, not_false_iff, not_true, h.time, h.set]
  by_cases e : A (10 + 4 * i) = 0
  · rw [if_pos (by omega), if_pos e]
  · rw [if_neg (by omega), if_neg e]
theorem ftk6 {A : Nat → Nat} {mm : gM} (h : RMq A mm) (w : WF A) {i : Nat} (hi : i < 6) : fX6_lengthOf (nI i) mm = some (nI (tk A i)) := by
  have h1 := w.wd
  have h2 := w.time hi
  unfold fX6_lengthOf tk
  simp (disch := omega) only [z_nn2, z0, z1, z2, z3, z4, z5, z6, z7, z8, z9, z10, z11, z12, z13, z14, z15, z16, z17, z18, z19, z20, z23, z24, z28, z31, z32, z33, z45, z46, z47, z48, z52, z57, z60, z63, z65, z70, z80, z95, z100, z126, z127, z128, z200, z240, z255, z400, z480, z500, z840, z1023, z2000, z99999, z1073741824, z_nn, z_add, z_sub, z_mul, z_div, z_rem, z_cl, z_in, z_chk, z_chkp, z_bnd, z_bn2, z_wth, z_bxr, z_bxl, z_bx2r, z_bx2l, z_bz0, z_bz1, z_mx, z_mn, z_tb1, z_tb0, z_eq, z_le, z_lt, z_nn_lt, z_nn_le, z_nn_ge, z_nn_gt, z_nn_eq, z_nn_eq2, z_bit, z_wow, z_wo, z_or, z_shl, z_if, z_ifn, fbit, if_true, if_false, Nat.zero_add, Nat.add_zero, not_false_iff, not_true, fof h, h 0, show 8 + 4 * i + 2 = 10 + 4 * i by omega]
  by_cases e : A (10 + 4 * i) = 0
  · rw [if_pos e, if_pos e]
  · rw [if_neg e, if_neg e]
def en (A : Nat → Nat) : Nat → Nat
  | 0 => 0
  | i + 1 => en A i + tk A i
theorem en_le {A : Nat → Nat} (w : WF A) : ∀ i, i ≤ 6 → en A i ≤ 23 * i
  | 0, _ => Nat.le_refl _
  | i + 1, h => by
    have h1 := en_le w i (by omega)
    have h2 := tk_le w (i := i) (by omega)
    show en A i + tk A i ≤ _
    omega
theorem en_mono (A : Nat → Nat) : ∀ {i j : Nat}, i ≤ j → en A i ≤ en A j
  | i, 0, h => by rw [show i = 0 by omega]; exact Nat.le_refl _
  | i, j + 1, h => by
    by_cases e : i = j + 1
    · rw [e]; exact Nat.le_refl _
    · exact Nat.le_trans (en_mono A (i := i) (j := j) (by omega)) (Nat.le_add_right _ _)
def rt (A : Nat → Nat) : Nat := en A 6
theorem rt_le {A : Nat → Nat} (w : WF A) : rt A ≤ 138 := en_le w 6 (Nat.le_refl _)
theorem frt {t : Nat} {A : Nat → Nat} {mm : gM} (h : CS t A mm) (w : WF A) : fX2_roundTicks t mm = some (nI (rt A)) := by
  refine loop_up (fun n i => lX2_roundTicks_4 t mm n (nI (en A i)) (nI i)) (some (nI (rt A))) 6 (fun n i hi => ?_) (fun n => ?_) FU 0 (by decide) (by decide)
  · rw [lX2_roundTicks_4_s]
    simp (disch := omega) only [z_nn2, z0, z1, z2, z3, z4, z5, z6, z7, z8, z9, z10, z11, z12, z13, z14, z15, z16, z17, z18, z19, z20, z23, z24, z28, z31, z32, z33, z45, z46, z47, z48, z52, z57, z60, z63, z65, z70, z80, z95, z100, z126, z127, z128, z200, z240, z255, z400, z480, z500, z840, z1023, z2000, z99999, z1073741824, z_nn, z_add, z_sub, z_mul, z_div, z_rem, z_cl, z_in, z_chk, z_chkp, z_bnd, z_bn2, z_wth, z_bxr, z_bxl, z_bx2r, z_bx2l, z_bz0, z_bz1, z_mx, z_mn, z_tb1, z_tb0, z_eq, z_le, z_lt, z_nn_lt, z_nn_le, z_nn_ge, z_nn_gt, z_nn_eq, z_nn_eq2, z_bit, z_wow, z_wo, z_or, z_shl, z_if, z_ifn, fbit, if_true, if_false, Nat.zero_add, Nat.add_zero, not_false_iff, not_true, ftk h w]
    rfl
  · rw [lX2_roundTicks_4_s]
    simp (disch := omega) only [z_nn2, z0, z1, z2, z3, z4, z5, z6, z7, z8, z9, z10, z11, z12, z13, z14, z15, z16, z17, z18, z19, z20, z23, z24, z28, z31, z32, z33, z45, z46, z47, z48, z52, z57, z60, z63, z65, z70, z80, z95, z100, z126, z127, z128, z200, z240, z255, z400, z480, z500, z840, z1023, z2000, z99999, z1073741824, z_nn, z_add, z_sub, z_mul, z_div, z_rem, z_cl, z_in, z_chk, z_chkp, z_bnd, z_bn2, z_wth, z_bxr, z_bxl, z_bx2r, z_bx2l, z_bz0, z_bz1, z_mx, z_mn, z_tb1, z_tb0, z_eq, z_le, z_lt, z_nn_lt, z_nn_le, z_nn_ge, z_nn_gt, z_nn_eq, z_nn_eq2, z_bit, z_wow, z_wo, z_or, z_shl, z_if, z_ifn, fbit, if_true, if_false, Nat.zero_add, Nat.add_zero, not_false_iff, not_true]
    rfl
theorem frt6 {A : Nat → Nat} {mm : gM} (h : RMq A mm) (w : WF A) : fX6_roundTicks mm = some (nI (rt A)) := by
  refine loop_up (fun n i => lX6_roundTicks_4 mm n (nI (en A i)) (nI i)) (some (nI (rt A))) 6 (fun n i hi => ?_) (fun n => ?_) FU 0 (by decide) (by decide)
  · rw [lX6_roundTicks_4_s]
    simp (disch := omega) only [z_nn2, z0, z1, z2, z3, z4, z5, z6, z7, z8, z9, z10, z11, z12, z13, z14, z15, z16, z17, z18, z19, z20, z23, z24, z28, z31, z32, z33, z45, z46, z47, z48, z52, z57, z60, z63, z65, z70, z80, z95, z100, z126, z127, z128, z200, z240, z255, z400, z480, z500, z840, z1023, z2000, z99999, z1073741824, z_nn, z_add, z_sub, z_mul, z_div, z_rem, z_cl, z_in, z_chk, z_chkp, z_bnd, z_bn2, z_wth, z_bxr, z_bxl, z_bx2r, z_bx2l, z_bz0, z_bz1, z_mx, z_mn, z_tb1, z_tb0, z_eq, z_le, z_lt, z_nn_lt, z_nn_le, z_nn_ge, z_nn_gt, z_nn_eq, z_nn_eq2, z_bit, z_wow, z_wo, z_or, z_shl, z_if, z_ifn, fbit, if_true, if_false, Nat.zero_add, Nat.add_zero, not_false_iff, not_true, ftk6 h w]
    rfl
  · rw [lX6_roundTicks_4_s]
    simp (disch := omega) only [z_nn2, z0, z1, z2, z3, z4, z5, z6, z7, z8, z9, z10, z11, z12, z13, z14, z15, z16, z17, z18, z19, z20, z23, z24, z28, z31, z32, z33, z45, z46, z47, z48, z52, z57, z60, z63, z65, z70, z80, z95, z100, z126, z127, z128, z200, z240, z255, z400, z480, z500, z840, z1023, z2000, z99999, z1073741824, z_nn, z_add, z_sub, z_mul, z_div, z_rem, z_cl, z_in, z_chk, z_chkp, z_bnd, z_bn2, z_wth, z_bxr, z_bxl, z_bx2r, z_bx2l, z_bz0, z_bz1, z_mx, z_mn, z_tb1, z_tb0, z_eq, z_le, z_lt, z_nn_lt, z_nn_le, z_nn_ge, z_nn_gt, z_nn_eq, z_nn_eq2, z_bit, z_wow, z_wo, z_or, z_shl, z_if, z_ifn, fbit, if_true, if_false, Nat.zero_add, Nat.add_zero, not_false_iff, not_true]
    rfl
def litq (A : Nat → Nat) : Nat → Nat
  | 0 => 0
  | i + 1 => litq A i + A (10 + 4 * i)
theorem lit_le {A : Nat → Nat} (w : WF A) : ∀ i, i ≤ 6 → litq A i ≤ 20 * i
  | 0, _ => Nat.le_refl _
  | i + 1, h => by
    have h1 := lit_le w i (by omega)
    have h2 := w.time (i := i) (by omega)
    show litq A i + A (10 + 4 * i) ≤ _
    omega
theorem flit {t : Nat} {A : Nat → Nat} {mm : gM} (h : CS t A mm) (w : WF A) : fX2_litTicks t mm = some (nI (litq A 6)) := by
  refine loop_up (fun n i => lX2_litTicks_4 t mm n (nI (litq A i)) (nI i)) (some (nI (litq A 6))) 6 (fun n i hi => ?_) (fun n => ?_) FU 0 (by decide) (by decide)
  · rw [lX2_litTicks_4_s]
    simp (disch := omega) only [z_nn2, z0, z1, z2, z3, z4, z5, z6, z7, z8, z9, z10, z11, z12, z13, z14, z15, z16, z17, z18, z19, z20, z23, z24, z28, z31, z32, z33, z45, z46, z47, z48, z52, z57, z60, z63, z65, z70, z80, z95, z100, z126, z127, z128, z200, z240, z255, z400, z480, z500, z840, z1023, z2000, z99999, z1073741824, z_nn, z_add, z_sub, z_mul, z_div, z_rem, z_cl, z_in, z_chk, z_chkp, z_bnd, z_bn2, z_wth, z_bxr, z_bxl, z_bx2r, z_bx2l, z_bz0, z_bz1, z_mx, z_mn, z_tb1, z_tb0, z_eq, z_le, z_lt, z_nn_lt, z_nn_le, z_nn_ge, z_nn_gt, z_nn_eq, z_nn_eq2, z_bit, z_wow, z_wo, z_or, z_shl, z_if, z_ifn, fbit, if_true, if_false, Nat.zero_add, Nat.add_zero, not_false_iff, not_true, h.time]
    rfl
  · rw [lX2_litTicks_4_s]
    simp (disch := omega) only [z_nn2, z0, z1, z2, z3, z4, z5, z6, z7, z8, z9, z10, z11, z12, z13, z14, z15, z16, z17, z18, z19, z20, z23, z24, z28, z31, z32, z33, z45, z46, z47, z48, z52, z57, z60, z63, z65, z70, z80, z95, z100, z126, z127, z128, z200, z240, z255, z400, z480, z500, z840, z1023, z2000, z99999, z1073741824, z_nn, z_add, z_sub, z_mul, z_div, z_rem, z_cl, z_in, z_chk, z_chkp, z_bnd, z_bn2, z_wth, z_bxr, z_bxl, z_bx2r, z_bx2l, z_bz0, z_bz1, z_mx, z_mn, z_tb1, z_tb0, z_eq, z_le, z_lt, z_nn_lt, z_nn_le, z_nn_ge, z_nn_gt, z_nn_eq, z_nn_eq2, z_bit, z_wow, z_wo, z_or, z_shl, z_if, z_ifn, fbit, if_true, if_false, Nat.zero_add, Nat.add_zero, not_false_iff, not_true]
