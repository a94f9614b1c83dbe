/-! TIMES THAT BALANCE -/
def PPq (A : Nat → Nat) (s : Nat) : Nat := pc (wkq A s)
def T0 (A : Nat → Nat) (s : Nat) : Nat := if wkq A s = 0 then 0 else 1
def ndq (P T : Nat → Nat) : Nat → Nat
  | 0 => 6
  | s + 1 => if 0 < T s ∧ T s < 20 ∧ (ndq P T s = 6 ∨ T s * P (ndq P T s) < T (ndq P T s) * P s) then s else ndq P T s
theorem ndq_s (P T : Nat → Nat) (s : Nat) : ndq P T (s + 1) = if 0 < T s ∧ T s < 20 ∧ (ndq P T s = 6 ∨ T s * P (ndq P T s) < T (ndq P T s) * P s) then s else ndq P T s := rfl
theorem ndq_le (P T : Nat → Nat) : ∀ s, ndq P T s = 6 ∨ (ndq P T s < s ∧ 0 < T (ndq P T s) ∧ T (ndq P T s) < 20)
  | 0 => Or.inl rfl
  | s + 1 => by
    rw [ndq_s]
    by_cases c : 0 < T s ∧ T s < 20 ∧ (ndq P T s = 6 ∨ T s * P (ndq P T s) < T (ndq P T s) * P s)
    · rw [if_pos c]
      exact Or.inr ⟨Nat.lt_succ_self _, c.1, c.2.1⟩
    · rw [if_neg c]
      rcases ndq_le P T s with h | h
      · exact Or.inl h
      · exact Or.inr ⟨by omega, h.2⟩
def up1 (T : Nat → Nat) (b : Nat) : Nat → Nat := fun s => if s = b then T s + 1 else T s
def gvs (P : Nat → Nat) : Nat → (Nat → Nat) → Nat → (Nat → Nat) × Nat
  | 0, T, S => (T, S)
  | k + 1, T, S => if ndq P T 6 = 6 then (T, S) else gvs P k (up1 T (ndq P T 6)) (S + 1)
theorem gvs_s (P : Nat → Nat) (k : Nat) (T : Nat → Nat) (S : Nat) : gvs P (k + 1) T S = if ndq P T 6 = 6 then (T, S) else gvs P k (up1 T (ndq P T 6)) (S + 1) := rfl
def TI (A T : Nat → Nat) : Prop := ∀ s, s < 6 → T s ≤ 20 ∧ (0 < T s ↔ wkq A s ≠ 0)
theorem TI_0 (A : Nat → Nat) : TI A (T0 A) := fun s _ => by
  unfold T0
  by_cases c : wkq A s = 0
  · rw [if_pos c]
    exact ⟨by omega, fun h => absurd h (Nat.lt_irrefl 0), fun h => absurd c h⟩
  · rw [if_neg c]
    exact ⟨by omega, fun _ => c, fun _ => by omega⟩
theorem TI_up {A T : Nat → Nat} (h : TI A T) {b : Nat} (hb : b < 6) (h1 : 0 < T b) (h2 : T b < 20) : TI A (up1 T b) := fun s hs => by
  unfold up1
  by_cases c : s = b
  · subst c
    rw [if_pos rfl]
    exact ⟨by omega, fun _ => (h s hs).2.mp h1, fun _ => by omega⟩
  · rw [if_neg c]
    exact h s hs
theorem gvs_TI {A : Nat → Nat} (P : Nat → Nat) : ∀ k T S, TI A T → TI A (gvs P k T S).1
  | 0, T, S, h => h
  | k + 1, T, S, h => by
    rw [gvs_s]
    by_cases c : ndq P T 6 = 6
    · rw [if_pos c]; exact h
    · rw [if_neg c]
      rcases ndq_le P T 6 with z | z
      · exact absurd z c
      · exact gvs_TI P k _ _ (TI_up h z.1 z.2.1 z.2.2)
theorem gvs_S (P : Nat → Nat) : ∀ k T S, S ≤ (gvs P k T S).2 ∧ (gvs P k T S).2 ≤ S + k
  | 0, T, S => ⟨Nat.le_refl _, Nat.le_refl _⟩
  | k + 1, T, S => by
    rw [gvs_s]
    by_cases c : ndq P T 6 = 6
    · rw [if_pos c]
      exact ⟨Nat.le_refl _, Nat.le_add_right _ _⟩
    · rw [if_neg c]
      have := gvs_S P k (up1 T (ndq P T 6)) (S + 1)
      omega
theorem wsl_0 {A : Nat → Nat} : ∀ n, wsl A n = 0 → ∀ s, s < n → wkq A s = 0
  | 0, _, s, hs => absurd hs (Nat.not_lt_zero s)
  | n + 1, h, s, hs => by
    rw [wsl_s] at h
    by_cases c : wkq A n = 0
    · by_cases c2 : s = n
      · rw [c2]; exact c
      · exact wsl_0 n (by omega) s (by omega)
    · rw [if_neg c] at h
      omega
theorem ndq_0 {P T : Nat → Nat} : ∀ n, (∀ s, s < n → T s = 0) → ndq P T n = 6
  | 0, _ => rfl
  | n + 1, h => by
    rw [ndq_s, if_neg (fun z => by have := h n (Nat.lt_succ_self n); omega)]
    exact ndq_0 n (fun s hs => h s (by omega))
def bT (A : Nat → Nat) (ticks : Nat) : Nat → Nat := (gvs (PPq A) (ticks - wsl A 6) (T0 A) (wsl A 6)).1
def bS (A : Nat → Nat) (ticks : Nat) : Nat := (gvs (PPq A) (ticks - wsl A 6) (T0 A) (wsl A 6)).2
theorem bT_le (A : Nat → Nat) (ticks : Nat) {s : Nat} (hs : s < 6) : bT A ticks s ≤ 20 := (gvs_TI (PPq A) _ _ _ (TI_0 A) s hs).1
theorem bS_le {A : Nat → Nat} {ticks : Nat} (h : 6 ≤ ticks) : bS A ticks ≤ ticks := by
  have h1 := (gvs_S (PPq A) (ticks - wsl A 6) (T0 A) (wsl A 6)).2
  have h2 := wsl_le A 6
  unfold bS
  omega
theorem bS_0 {A : Nat → Nat} {ticks : Nat} : (bS A ticks = 0) = (wsl A 6 = 0) := by
  apply propext
  constructor
  · intro h
    have h1 := (gvs_S (PPq A) (ticks - wsl A 6) (T0 A) (wsl A 6)).1
    unfold bS at h
    omega
  · intro h
    unfold bS
    have h2 : ∀ k, (gvs (PPq A) k (T0 A) 0).2 = 0 := by
      intro k
      cases k with
      | zero => rfl
      | succ k =>
        rw [gvs_s, if_pos (ndq_0 6 (fun s hs => by unfold T0; rw [if_pos (wsl_0 6 h s hs)]))]
    rw [h]
    exact h2 _
def bI (b : Nat) : Int32 := if b = 6 then nn else nI b
theorem pe (A : Nat → Nat) (x : Nat) : PPq A x = pc (wkq A x) := rfl
theorem mul_le160 {x y : Nat} (hx : x ≤ 20) (hy : y ≤ 8) : x * y < 2147483648 := Nat.lt_of_le_of_lt (Nat.mul_le_mul hx hy) (by decide)
theorem fneedy {A T : Nat → Nat} {m : gM} (w : WF A) (hT : TI A T) (g1 : ∀ s, s < 6 → gi m 14 0 s = nI (T s)) (g2 : ∀ s, s < 6 → gi m 15 0 s = nI (PPq A s)) : fX0_neediest m = some (bI (ndq (PPq A) T 6)) := by
  have hP : ∀ s, PPq A s ≤ 8 := fun s => pc_le _
  refine loop_up (fun n s => lX0_neediest_4 m n (bI (ndq (PPq A) T s)) (nI s)) _ 6 (fun n s hs => ?_) (fun n => ?_) FU 0 (by decide) (by decide)
  · have h1 := hT s hs
    have h2 := hP s
    have h3 : PPq A s = 0 ↔ wkq A s = 0 := pc_0 (wk_lt w hs)
    have h4 := ndq_le (PPq A) T s
    rw [lX0_neediest_4_s, ndq_s]
    simp (disch := omega) only [z_nn2, z0, z1, z2, z3, z4, z5, z6, z7, z8, z9, z10, z11, z12, z13, z14, z15, z16, z17, z18, z19, z20, z23, z24, z28, z31, z32, z33, z45, z46, z47, z48, z52, z57, z60, z63, z65, z70, z80, z95, z100, z126, z127, z128, z200, z240, z255, z400, z480, z500, z840, z1023, z2000, z99999, z1073741824, z_nn, z_add, z_sub, z_mul, z_div, z_rem, z_cl, z_in, z_chk, z_chkp, z_bnd, z_bn2, z_wth, z_bxr, z_bxl, z_bx2r, z_bx2l, z_bz0, z_bz1, z_mx, z_mn, z_tb1, z_tb0, z_eq, z_le, z_lt, z_nn_lt, z_nn_le, z_nn_ge, z_nn_gt, z_nn_eq, z_nn_eq2, z_bit, z_wow, z_wo, z_or, z_shl, z_if, z_ifn, fbit, if_true, if_false, Nat.zero_add, Nat.add_zero, not_false_iff, not_true, g1, g2, jX0_neediest_34, jX0_neediest_35, jX0_neediest_54, jX0_neediest_56]
    by_cases c1 : 0 < T s
    · have c1' : ¬ PPq A s ≤ 0 := fun z => h1.2.mp c1 (h3.mp (by omega))
      rw [if_neg c1']
      by_cases c2 : T s < 20
      · rw [if_neg (show ¬ 20 ≤ T s by omega)]
        by_cases c3 : ndq (PPq A) T s = 6
        · rw [if_pos (show 0 < T s ∧ T s < 20 ∧ (ndq (PPq A) T s = 6 ∨ T s * PPq A (ndq (PPq A) T s) < T (ndq (PPq A) T s) * PPq A s) from ⟨c1, c2, Or.inl c3⟩), c3]
          have e1 : bI s = nI s := if_neg (by omega)
          have e2 : bI 6 = nn := rfl
          rw [e1, e2, if_pos rfl]
        · have e1 : bI s = nI s := if_neg (by omega)
          have e2 : bI (ndq (PPq A) T s) = nI (ndq (PPq A) T s) := if_neg c3
          have h5 : ndq (PPq A) T s < 6 := by omega
          have h6 := hP (ndq (PPq A) T s)
          have h7 := mul_le160 h1.1 h6
          have h8 := mul_le160 (hT _ h5).1 h2
          rw [e2, if_neg (show ¬ nI (ndq (PPq A) T s) = nn by rw [z_nn_eq (by omega)]; exact id)]
          unfold fX0_needier
          simp (disch := omega) only [z_nn2, z0, z1, z2, z3, z4, z5, z6, z7, z8, z9, z10, z11, z12, z13, z14, z15, z16, z17, z18, z19, z20, z23, z24, z28, z31, z32, z33, z45, z46, z47, z48, z52, z57, z60, z63, z65, z70, z80, z95, z100, z126, z127, z128, z200, z240, z255, z400, z480, z500, z840, z1023, z2000, z99999, z1073741824, z_nn, z_add, z_sub, z_mul, z_div, z_rem, z_cl, z_in, z_chk, z_chkp, z_bnd, z_bn2, z_wth, z_bxr, z_bxl, z_bx2r, z_bx2l, z_bz0, z_bz1, z_mx, z_mn, z_tb1, z_tb0, z_eq, z_le, z_lt, z_nn_lt, z_nn_le, z_nn_ge, z_nn_gt, z_nn_eq, z_nn_eq2, z_bit, z_wow, z_wo, z_or, z_shl, z_if, z_ifn, fbit, if_true, if_false, Nat.zero_add, Nat.add_zero, not_false_iff, not_true, g1, g2]
          by_cases c4 : T s * PPq A (ndq (PPq A) T s) < T (ndq (PPq A) T s) * PPq A s
          · rw [if_pos (show 0 < T s ∧ T s < 20 ∧ (ndq (PPq A) T s = 6 ∨ T s * PPq A (ndq (PPq A) T s) < T (ndq (PPq A) T s) * PPq A s) from ⟨c1, c2, Or.inr c4⟩), if_neg (by omega), e1]
            simp (disch := omega) only [z_nn2, z0, z1, z2, z3, z4, z5, z6, z7, z8, z9, z10, z11, z12, z13, z14, z15, z16, z17, z18, z19, z20, z23, z24, z28, z31, z32, z33, z45, z46, z47, z48, z52, z57, z60, z63, z65, z70, z80, z95, z100, z126, z127, z128, z200, z240, z255, z400, z480, z500, z840, z1023, z2000, z99999, z1073741824, z_nn, z_add, z_sub, z_mul, z_div, z_rem, z_cl, z_in, z_chk, z_chkp, z_bnd, z_bn2, z_wth, z_bxr, z_bxl, z_bx2r, z_bx2l, z_bz0, z_bz1, z_mx, z_mn, z_tb1, z_tb0, z_eq, z_le, z_lt, z_nn_lt, z_nn_le, z_nn_ge, z_nn_gt, z_nn_eq, z_nn_eq2, z_bit, z_wow, z_wo, z_or, z_shl, z_if, z_ifn, fbit, if_true, if_false, Nat.zero_add, Nat.add_zero, not_false_iff, not_true]
          · rw [if_neg (show ¬ (0 < T s ∧ T s < 20 ∧ (ndq (PPq A) T s = 6 ∨ T s * PPq A (ndq (PPq A) T s) < T (ndq (PPq A) T s) * PPq A s)) from fun z => z.2.2.elim c3 c4), if_pos (by omega), e2]
            simp (disch := omega) only [z_nn2, z0, z1, z2, z3, z4, z5, z6, z7, z8, z9, z10, z11, z12, z13, z14, z15, z16, z17, z18, z19, z20, z23, z24, z28, z31, z32, z33, z45, z46, z47, z48, z52, z57, z60, z63, z65, z70, z80, z95, z100, z126, z127, z128, z200, z240, z255, z400, z480, z500, z840, z1023, z2000, z99999, z1073741824, z_nn, z_add, z_sub, z_mul, z_div, z_rem, z_cl, z_in, z_chk, z_chkp, z_bnd, z_bn2, z_wth, z_bxr, z_bxl, z_bx2r, z_bx2l, z_bz0, z_bz1, z_mx, z_mn, z_tb1, z_tb0, z_eq, z_le, z_lt, z_nn_lt, z_nn_le, z_nn_ge, z_nn_gt, z_nn_eq, z_nn_eq2, z_bit, z_wow, z_wo, z_or, z_shl, z_if, z_ifn, fbit, if_true, if_false, Nat.zero_add, Nat.add_zero, not_false_iff, not_true]
      · rw [if_pos (show 20 ≤ T s by omega), if_neg (show ¬ (0 < T s ∧ T s < 20 ∧ (ndq (PPq A) T s = 6 ∨ T s * PPq A (ndq (PPq A) T s) < T (ndq (PPq A) T s) * PPq A s)) from fun z => c2 z.2.1)]
    · have c1' : PPq A s ≤ 0 := Nat.le_of_eq (h3.mpr (Classical.byContradiction fun z => c1 (h1.2.mpr z)))
      rw [if_pos c1', if_neg (show ¬ (0 < T s ∧ T s < 20 ∧ (ndq (PPq A) T s = 6 ∨ T s * PPq A (ndq (PPq A) T s) < T (ndq (PPq A) T s) * PPq A s)) from fun z => c1 z.1)]
  · rw [lX0_neediest_4_s]
    simp (disch := omega) only [z_nn2, z0, z1, z2, z3, z4, z5, z6, z7, z8, z9, z10, z11, z12, z13, z14, z15, z16, z17, z18, z19, z20, z23, z24, z28, z31, z32, z33, z45, z46, z47, z48, z52, z57, z60, z63, z65, z70, z80, z95, z100, z126, z127, z128, z200, z240, z255, z400, z480, z500, z840, z1023, z2000, z99999, z1073741824, z_nn, z_add, z_sub, z_mul, z_div, z_rem, z_cl, z_in, z_chk, z_chkp, z_bnd, z_bn2, z_wth, z_bxr, z_bxl, z_bx2r, z_bx2l, z_bz0, z_bz1, z_mx, z_mn, z_tb1, z_tb0, z_eq, z_le, z_lt, z_nn_lt, z_nn_le, z_nn_ge, z_nn_gt, z_nn_eq, z_nn_eq2, z_bit, z_wow, z_wo, z_or, z_shl, z_if, z_ifn, fbit, if_true, if_false, Nat.zero_add, Nat.add_zero, not_false_iff, not_true]
theorem fneedy6 {A T : Nat → Nat} {m : gM} (h : RMq A m) (w : WF A) (hT : TI A T) (g1 : ∀ s, s < 6 → gi m 33 0 s = nI (T s)) : fX6_neediest m = some (bI (ndq (PPq A) T 6)) := by
  have hP : ∀ s, PPq A s ≤ 8 := fun s => pc_le _
  refine loop_up (fun n s => lX6_neediest_4 m n (bI (ndq (PPq A) T s)) (nI s)) _ 6 (fun n s hs => ?_) (fun n => ?_) FU 0 (by decide) (by decide)
  · have h1 := hT s hs
    have h2 := hP s
    have h4 := ndq_le (PPq A) T s
    have hw1 := wk_lt w hs
    rw [lX6_neediest_4_s, ndq_s]
    simp (disch := omega) only [z_nn2, z0, z1, z2, z3, z4, z5, z6, z7, z8, z9, z10, z11, z12, z13, z14, z15, z16, z17, z18, z19, z20, z23, z24, z28, z31, z32, z33, z45, z46, z47, z48, z52, z57, z60, z63, z65, z70, z80, z95, z100, z126, z127, z128, z200, z240, z255, z400, z480, z500, z840, z1023, z2000, z99999, z1073741824, z_nn, z_add, z_sub, z_mul, z_div, z_rem, z_cl, z_in, z_chk, z_chkp, z_bnd, z_bn2, z_wth, z_bxr, z_bxl, z_bx2r, z_bx2l, z_bz0, z_bz1, z_mx, z_mn, z_tb1, z_tb0, z_eq, z_le, z_lt, z_nn_lt, z_nn_le, z_nn_ge, z_nn_gt, z_nn_eq, z_nn_eq2, z_bit, z_wow, z_wo, z_or, z_shl, z_if, z_ifn, fbit, if_true, if_false, Nat.zero_add, Nat.add_zero, not_false_iff, not_true, g1, jX6_neediest_34, jX6_neediest_35, jX6_neediest_82, jX6_neediest_83, jX6_neediest_95, jX6_neediest_78]
    by_cases c1 : 0 < T s
    · rw [if_neg (show ¬ T s ≤ 0 by omega)]
      by_cases c2 : T s < 20
      · rw [if_neg (show ¬ 20 ≤ T s by omega)]
        by_cases c3 : ndq (PPq A) T s = 6
        · rw [if_pos (show 0 < T s ∧ T s < 20 ∧ (ndq (PPq A) T s = 6 ∨ T s * PPq A (ndq (PPq A) T s) < T (ndq (PPq A) T s) * PPq A s) from ⟨c1, c2, Or.inl c3⟩), c3]
          have e1 : bI s = nI s := if_neg (by omega)
          have e2 : bI 6 = nn := rfl
          rw [e1, e2, if_pos rfl]
        · have e1 : bI s = nI s := if_neg (by omega)
          have e2 : bI (ndq (PPq A) T s) = nI (ndq (PPq A) T s) := if_neg c3
          have h5 : ndq (PPq A) T s < 6 := by omega
          have h6 := hP (ndq (PPq A) T s)
          have h7 : T s * pc (wkq A (ndq (PPq A) T s)) < 2147483648 := mul_le160 h1.1 h6
          have h8 : T (ndq (PPq A) T s) * pc (wkq A s) < 2147483648 := mul_le160 (hT _ h5).1 h2
          have hw2 := wk_lt w h5
          rw [e2, if_neg (show ¬ nI (ndq (PPq A) T s) = nn by rw [z_nn_eq (by omega)]; exact id)]
          simp (disch := omega) only [z_nn2, z0, z1, z2, z3, z4, z5, z6, z7, z8, z9, z10, z11, z12, z13, z14, z15, z16, z17, z18, z19, z20, z23, z24, z28, z31, z32, z33, z45, z46, z47, z48, z52, z57, z60, z63, z65, z70, z80, z95, z100, z126, z127, z128, z200, z240, z255, z400, z480, z500, z840, z1023, z2000, z99999, z1073741824, z_nn, z_add, z_sub, z_mul, z_div, z_rem, z_cl, z_in, z_chk, z_chkp, z_bnd, z_bn2, z_wth, z_bxr, z_bxl, z_bx2r, z_bx2l, z_bz0, z_bz1, z_mx, z_mn, z_tb1, z_tb0, z_eq, z_le, z_lt, z_nn_lt, z_nn_le, z_nn_ge, z_nn_gt, z_nn_eq, z_nn_eq2, z_bit, z_wow, z_wo, z_or, z_shl, z_if, z_ifn, fbit, if_true, if_false, Nat.zero_add, Nat.add_zero, not_false_iff, not_true, g1, fworks6 h w, fones]
          by_cases c4 : T s * PPq A (ndq (PPq A) T s) < T (ndq (PPq A) T s) * PPq A s
          · rw [if_pos (show 0 < T s ∧ T s < 20 ∧ (ndq (PPq A) T s = 6 ∨ T s * PPq A (ndq (PPq A) T s) < T (ndq (PPq A) T s) * PPq A s) from ⟨c1, c2, Or.inr c4⟩), if_neg (by rw [pe A, pe A] at c4; omega), e1]
          · rw [if_neg (show ¬ (0 < T s ∧ T s < 20 ∧ (ndq (PPq A) T s = 6 ∨ T s * PPq A (ndq (PPq A) T s) < T (ndq (PPq A) T s) * PPq A s)) from fun z => z.2.2.elim c3 c4), if_pos (by rw [pe A, pe A] at c4; omega), e2]
      · rw [if_pos (show 20 ≤ T s by omega), if_neg (show ¬ (0 < T s ∧ T s < 20 ∧ (ndq (PPq A) T s = 6 ∨ T s * PPq A (ndq (PPq A) T s) < T (ndq (PPq A) T s) * PPq A s)) from fun z => c2 z.2.1)]
    · rw [if_pos (show T s ≤ 0 by omega), if_neg (show ¬ (0 < T s ∧ T s < 20 ∧ (ndq (PPq A) T s = 6 ∨ T s * PPq A (ndq (PPq A) T s) < T (ndq (PPq A) T s) * PPq A s)) from fun z => c1 z.1)]
  · rw [lX6_neediest_4_s]
    simp (disch := omega) only [z_nn2, z0, z1, z2, z3, z4, z5, z6, z7, z8, z9, z10, z11, z12, z13, z14, z15, z16, z17, z18, z19, z20, z23, z24, z28, z31, z32, z33, z45, z46, z47, z48, z52, z57, z60, z63, z65, z70, z80, z95, z100, z126, z127, z128, z200, z240, z255, z400, z480, z500, z840, z1023, z2000, z99999, z1073741824, z_nn, z_add, z_sub, z_mul, z_div, z_rem, z_cl, z_in, z_chk, z_chkp, z_bnd, z_bn2, z_wth, z_bxr, z_bxl, z_bx2r, z_bx2l, z_bz0, z_bz1, z_mx, z_mn, z_tb1, z_tb0, z_eq, z_le, z_lt, z_nn_lt, z_nn_le, z_nn_ge, z_nn_gt, z_nn_eq, z_nn_eq2, z_bit, z_wow, z_wo, z_or, z_shl, z_if, z_ifn, fbit, if_true, if_false, Nat.zero_add, Nat.add_zero, not_false_iff, not_true]
def PBq : Nat → Nat → Bool := fun c _ => c == 14 || c == 15
def P33 : Nat → Nat → Bool := fun c _ => c == 33
theorem fspread_l {A : Nat → Nat} (w : WF A) {ticks : Nat} (h60 : ticks ≤ 60) : ∀ k T S n m, TI A T → (∀ s, s < 6 → gi m 14 0 s = nI (T s)) → (∀ s, s < 6 → gi m 15 0 s = nI (PPq A s)) → S + k = ticks → k < n → ∃ m1, lX0_spread_69 0 n (nI ticks) (nI S) (nI S) m = some (nI (gvs (PPq A) k T S).2, m1) ∧ Frq PBq m m1 ∧ ∀ s, s < 6 → gi m1 14 0 s = nI ((gvs (PPq A) k T S).1 s) := by
  intro k
  induction k with
  | zero =>
    intro T S n m hT g1 g2 hS hn
    obtain ⟨n2, rfl⟩ : ∃ n2, n = n2 + 1 := ⟨n - 1, by omega⟩
    rw [lX0_spread_69_s]
    simp (disch := omega) only [z_nn2, z0, z1, z2, z3, z4, z5, z6, z7, z8, z9, z10, z11, z12, z13, z14, z15, z16, z17, z18, z19, z20, z23, z24, z28, z31, z32, z33, z45, z46, z47, z48, z52, z57, z60, z63, z65, z70, z80, z95, z100, z126, z127, z128, z200, z240, z255, z400, z480, z500, z840, z1023, z2000, z99999, z1073741824, z_nn, z_add, z_sub, z_mul, z_div, z_rem, z_cl, z_in, z_chk, z_chkp, z_bnd, z_bn2, z_wth, z_bxr, z_bxl, z_bx2r, z_bx2l, z_bz0, z_bz1, z_mx, z_mn, z_tb1, z_tb0, z_eq, z_le, z_lt, z_nn_lt, z_nn_le, z_nn_ge, z_nn_gt, z_nn_eq, z_nn_eq2, z_bit, z_wow, z_wo, z_or, z_shl, z_if, z_ifn, fbit, if_true, if_false, Nat.zero_add, Nat.add_zero, not_false_iff, not_true, jX0_spread_110]
    exact ⟨m, rfl, Frq.rf, g1⟩
  | succ k ih =>
    intro T S n m hT g1 g2 hS hn
    obtain ⟨n2, rfl⟩ : ∃ n2, n = n2 + 1 := ⟨n - 1, by omega⟩
    rw [lX0_spread_69_s, gvs_s]
    simp (disch := omega) only [z_nn2, z0, z1, z2, z3, z4, z5, z6, z7, z8, z9, z10, z11, z12, z13, z14, z15, z16, z17, z18, z19, z20, z23, z24, z28, z31, z32, z33, z45, z46, z47, z48, z52, z57, z60, z63, z65, z70, z80, z95, z100, z126, z127, z128, z200, z240, z255, z400, z480, z500, z840, z1023, z2000, z99999, z1073741824, z_nn, z_add, z_sub, z_mul, z_div, z_rem, z_cl, z_in, z_chk, z_chkp, z_bnd, z_bn2, z_wth, z_bxr, z_bxl, z_bx2r, z_bx2l, z_bz0, z_bz1, z_mx, z_mn, z_tb1, z_tb0, z_eq, z_le, z_lt, z_nn_lt, z_nn_le, z_nn_ge, z_nn_gt, z_nn_eq, z_nn_eq2, z_bit, z_wow, z_wo, z_or, z_shl, z_if, z_ifn, fbit, if_true, if_false, Nat.zero_add, Nat.add_zero, not_false_iff, not_true, jX0_spread_110, jX0_spread_87, fneedy w hT g1 g2]
    by_cases c : ndq (PPq A) T 6 = 6
    · rw [if_pos c, c, show bI 6 = nn from rfl, if_pos rfl]
      exact ⟨m, rfl, Frq.rf, g1⟩
    · have e2 : bI (ndq (PPq A) T 6) = nI (ndq (PPq A) T 6) := if_neg c
      obtain ⟨hb, b1, b2⟩ := (ndq_le (PPq A) T 6).resolve_left c
      rw [if_neg c, e2]
      simp (disch := omega) only [z_nn2, z0, z1, z2, z3, z4, z5, z6, z7, z8, z9, z10, z11, z12, z13, z14, z15, z16, z17, z18, z19, z20, z23, z24, z28, z31, z32, z33, z45, z46, z47, z48, z52, z57, z60, z63, z65, z70, z80, z95, z100, z126, z127, z128, z200, z240, z255, z400, z480, z500, z840, z1023, z2000, z99999, z1073741824, z_nn, z_add, z_sub, z_mul, z_div, z_rem, z_cl, z_in, z_chk, z_chkp, z_bnd, z_bn2, z_wth, z_bxr, z_bxl, z_bx2r, z_bx2l, z_bz0, z_bz1, z_mx, z_mn, z_tb1, z_tb0, z_eq, z_le, z_lt, z_nn_lt, z_nn_le, z_nn_ge, z_nn_gt, z_nn_eq, z_nn_eq2, z_bit, z_wow, z_wo, z_or, z_shl, z_if, z_ifn, fbit, if_true, if_false, Nat.zero_add, Nat.add_zero, not_false_iff, not_true, g1]
      obtain ⟨m1, a1, a2, a3⟩ := ih (up1 T (ndq (PPq A) T 6)) (S + 1) n2 (si m 14 0 (ndq (PPq A) T 6) (nI (T (ndq (PPq A) T 6) + 1))) (TI_up hT hb b1 b2) (fun s hs => by
        unfold up1
        by_cases c2 : s = ndq (PPq A) T 6
        · rw [if_pos c2, gi_si, if_pos ⟨rfl, rfl, c2⟩, c2]
        · rw [if_neg c2, gi_si, if_neg (fun z => c2 z.2.2)]
          exact g1 s hs) (fun s hs => by rw [gi_si, if_neg (fun z => by omega)]; exact g2 s hs) (by omega) (by omega)
      exact ⟨m1, a1, (Frq.si rfl).tr a2, a3⟩
theorem fspread {A : Nat → Nat} {mm : gM} (h : CS 0 A mm) (w : WF A) {ticks : Nat} (h6 : 6 ≤ ticks) (h60 : ticks ≤ 60) : ∃ m1, fX0_spread 0 (nI ticks) mm = some (nI (bS A ticks), m1) ∧ Frq PBq mm m1 ∧ ∀ s, s < 6 → gi m1 14 0 s = nI (bT A ticks s) := by
  have hw6 := wsl_le A 6
  refine loop_ex (fun n s m => lX0_spread_5 0 n (nI ticks) (nI (wsl A s)) (nI s) m) (fun s m => Frq PBq mm m ∧ ∀ j, j < s → gi m 14 0 j = nI (T0 A j) ∧ gi m 15 0 j = nI (PPq A j)) (fun o => ∃ m1, o = some (nI (bS A ticks), m1) ∧ Frq PBq mm m1 ∧ ∀ s, s < 6 → gi m1 14 0 s = nI (bT A ticks s)) 6 (fun n s m hs hI => ?_) (fun n m hI => ?_) FU 0 mm (by decide) (by decide) ⟨Frq.rf, fun j hj => absurd hj (Nat.not_lt_zero j)⟩
  · obtain ⟨f1, g1⟩ := hI
    have hc : CS 0 A m := h.fr f1 (fun c hc => by unfold PBq; simp; omega)
    have hw1 := wk_lt w hs
    have hp := pc_le (wkq A s)
    have hp0 := pc_0 hw1
    have hws := wsl_le A s
    refine ⟨si (si m 15 0 s (nI (PPq A s))) 14 0 s (nI (T0 A s)), ⟨(f1.tr (Frq.si rfl)).tr (Frq.si rfl), fun j hj => ?_⟩, ?_⟩
    · by_cases c : j = s
      · subst c
        refine ⟨?_, ?_⟩ <;> simp (disch := omega) only [gi_si, z_if, z_ifn, and_self, if_true]
      · obtain ⟨a1, a2⟩ := g1 j (by omega)
        refine ⟨?_, ?_⟩ <;> simp (disch := omega) only [gi_si, z_if, z_ifn, and_self, if_true, a1, a2]
    · rw [lX0_spread_5_s, wsl_s]
      have gself : ∀ v, gi (si (si m 15 0 s (nI (pc (wkq A s)))) 14 0 s v) 14 0 s = v := fun v => by rw [gi_si, if_pos ⟨rfl, rfl, rfl⟩]
      have g15 : gi (si m 15 0 s (nI (pc (wkq A s)))) 15 0 s = nI (pc (wkq A s)) := by rw [gi_si, if_pos ⟨rfl, rfl, rfl⟩]
      simp (disch := omega) only [z_nn2, z0, z1, z2, z3, z4, z5, z6, z7, z8, z9, z10, z11, z12, z13, z14, z15, z16, z17, z18, z19, z20, z23, z24, z28, z31, z32, z33, z45, z46, z47, z48, z52, z57, z60, z63, z65, z70, z80, z95, z100, z126, z127, z128, z200, z240, z255, z400, z480, z500, z840, z1023, z2000, z99999, z1073741824, z_nn, z_add, z_sub, z_mul, z_div, z_rem, z_cl, z_in, z_chk, z_chkp, z_bnd, z_bn2, z_wth, z_bxr, z_bxl, z_bx2r, z_bx2l, z_bz0, z_bz1, z_mx, z_mn, z_tb1, z_tb0, z_eq, z_le, z_lt, z_nn_lt, z_nn_le, z_nn_ge, z_nn_gt, z_nn_eq, z_nn_eq2, z_bit, z_wow, z_wo, z_or, z_shl, z_if, z_ifn, fbit, if_true, if_false, Nat.zero_add, Nat.add_zero, not_false_iff, not_true, fworks hc w, fpop, jX0_spread_49, gself, g15]
      unfold T0 PPq
      by_cases c : wkq A s = 0
      · rw [if_pos (Nat.le_of_eq (hp0.mpr c)), if_pos c]
        simp only [Nat.add_zero]
      · rw [if_neg (show ¬ pc (wkq A s) ≤ 0 from fun z => c (hp0.mp (by omega))), if_neg c]
  · obtain ⟨f1, g1⟩ := hI
    rw [lX0_spread_5_s]
    simp (disch := omega) only [z_nn2, z0, z1, z2, z3, z4, z5, z6, z7, z8, z9, z10, z11, z12, z13, z14, z15, z16, z17, z18, z19, z20, z23, z24, z28, z31, z32, z33, z45, z46, z47, z48, z52, z57, z60, z63, z65, z70, z80, z95, z100, z126, z127, z128, z200, z240, z255, z400, z480, z500, z840, z1023, z2000, z99999, z1073741824, z_nn, z_add, z_sub, z_mul, z_div, z_rem, z_cl, z_in, z_chk, z_chkp, z_bnd, z_bn2, z_wth, z_bxr, z_bxl, z_bx2r, z_bx2l, z_bz0, z_bz1, z_mx, z_mn, z_tb1, z_tb0, z_eq, z_le, z_lt, z_nn_lt, z_nn_le, z_nn_ge, z_nn_gt, z_nn_eq, z_nn_eq2, z_bit, z_wow, z_wo, z_or, z_shl, z_if, z_ifn, fbit, if_true, if_false, Nat.zero_add, Nat.add_zero, not_false_iff, not_true, jX0_spread_66]
    obtain ⟨m1, a1, a2, a3⟩ := fspread_l w h60 (ticks - wsl A 6) (T0 A) (wsl A 6) FU m (TI_0 A) (fun s hs => (g1 s hs).1) (fun s hs => (g1 s hs).2) (by omega) (by unfold FU; omega)
    exact ⟨m1, a1, f1.tr a2, a3⟩
theorem fgives_l {A : Nat → Nat} (w : WF A) {ticks : Nat} (h60 : ticks ≤ 60) : ∀ k T S n m, RMq A m → TI A T → (∀ s, s < 6 → gi m 33 0 s = nI (T s)) → S + k = ticks → k < n → ∃ m1, lX6_gives_49 n (nI ticks) (nI S) (bI (ndq (PPq A) T 6)) m = some (nI (gvs (PPq A) k T S).2, m1) ∧ Frq P33 m m1 ∧ ∀ s, s < 6 → gi m1 33 0 s = nI ((gvs (PPq A) k T S).1 s) := by
  intro k
  induction k with
  | zero =>
    intro T S n m h hT g1 hS hn
    obtain ⟨n2, rfl⟩ : ∃ n2, n = n2 + 1 := ⟨n - 1, by omega⟩
    rw [lX6_gives_49_s]
    simp (disch := omega) only [z_nn2, z0, z1, z2, z3, z4, z5, z6, z7, z8, z9, z10, z11, z12, z13, z14, z15, z16, z17, z18, z19, z20, z23, z24, z28, z31, z32, z33, z45, z46, z47, z48, z52, z57, z60, z63, z65, z70, z80, z95, z100, z126, z127, z128, z200, z240, z255, z400, z480, z500, z840, z1023, z2000, z99999, z1073741824, z_nn, z_add, z_sub, z_mul, z_div, z_rem, z_cl, z_in, z_chk, z_chkp, z_bnd, z_bn2, z_wth, z_bxr, z_bxl, z_bx2r, z_bx2l, z_bz0, z_bz1, z_mx, z_mn, z_tb1, z_tb0, z_eq, z_le, z_lt, z_nn_lt, z_nn_le, z_nn_ge, z_nn_gt, z_nn_eq, z_nn_eq2, z_bit, z_wow, z_wo, z_or, z_shl, z_if, z_ifn, fbit, if_true, if_false, Nat.zero_add, Nat.add_zero, not_false_iff, not_true, jX6_gives_80]
    exact ⟨m, rfl, Frq.rf, g1⟩
  | succ k ih =>
    intro T S n m h hT g1 hS hn
    obtain ⟨n2, rfl⟩ : ∃ n2, n = n2 + 1 := ⟨n - 1, by omega⟩
    rw [lX6_gives_49_s, gvs_s]
    simp (disch := omega) only [z_nn2, z0, z1, z2, z3, z4, z5, z6, z7, z8, z9, z10, z11, z12, z13, z14, z15, z16, z17, z18, z19, z20, z23, z24, z28, z31, z32, z33, z45, z46, z47, z48, z52, z57, z60, z63, z65, z70, z80, z95, z100, z126, z127, z128, z200, z240, z255, z400, z480, z500, z840, z1023, z2000, z99999, z1073741824, z_nn, z_add, z_sub, z_mul, z_div, z_rem, z_cl, z_in, z_chk, z_chkp, z_bnd, z_bn2, z_wth, z_bxr, z_bxl, z_bx2r, z_bx2l, z_bz0, z_bz1, z_mx, z_mn, z_tb1, z_tb0, z_eq, z_le, z_lt, z_nn_lt, z_nn_le, z_nn_ge, z_nn_gt, z_nn_eq, z_nn_eq2, z_bit, z_wow, z_wo, z_or, z_shl, z_if, z_ifn, fbit, if_true, if_false, Nat.zero_add, Nat.add_zero, not_false_iff, not_true, jX6_gives_80]
    by_cases c : ndq (PPq A) T 6 = 6
    · rw [if_pos c, c, show bI 6 = nn from rfl, if_pos rfl]
      exact ⟨m, rfl, Frq.rf, g1⟩
    · have e2 : bI (ndq (PPq A) T 6) = nI (ndq (PPq A) T 6) := if_neg c
      obtain ⟨hb, b1, b2⟩ := (ndq_le (PPq A) T 6).resolve_left c
      have hT2 := TI_up hT hb b1 b2
      have g2 : ∀ s, s < 6 → gi (si m 33 0 (ndq (PPq A) T 6) (nI (T (ndq (PPq A) T 6) + 1))) 33 0 s = nI (up1 T (ndq (PPq A) T 6) s) := fun s hs => by
        unfold up1
        by_cases c2 : s = ndq (PPq A) T 6
        · rw [if_pos c2, gi_si, if_pos ⟨rfl, rfl, c2⟩, c2]
        · rw [if_neg c2, gi_si, if_neg (fun z => c2 z.2.2)]
          exact g1 s hs
      have h2 : RMq A (si m 33 0 (ndq (PPq A) T 6) (nI (T (ndq (PPq A) T 6) + 1))) := RM_si (by decide) h
      rw [if_neg c, e2]
      simp (disch := omega) only [z_nn2, z0, z1, z2, z3, z4, z5, z6, z7, z8, z9, z10, z11, z12, z13, z14, z15, z16, z17, z18, z19, z20, z23, z24, z28, z31, z32, z33, z45, z46, z47, z48, z52, z57, z60, z63, z65, z70, z80, z95, z100, z126, z127, z128, z200, z240, z255, z400, z480, z500, z840, z1023, z2000, z99999, z1073741824, z_nn, z_add, z_sub, z_mul, z_div, z_rem, z_cl, z_in, z_chk, z_chkp, z_bnd, z_bn2, z_wth, z_bxr, z_bxl, z_bx2r, z_bx2l, z_bz0, z_bz1, z_mx, z_mn, z_tb1, z_tb0, z_eq, z_le, z_lt, z_nn_lt, z_nn_le, z_nn_ge, z_nn_gt, z_nn_eq, z_nn_eq2, z_bit, z_wow, z_wo, z_or, z_shl, z_if, z_ifn, fbit, if_true, if_false, Nat.zero_add, Nat.add_zero, not_false_iff, not_true, g1, fneedy6 h2 w hT2 g2]
      obtain ⟨m1, a1, a2, a3⟩ := ih (up1 T (ndq (PPq A) T 6)) (S + 1) n2 _ h2 hT2 g2 (by omega) (by omega)
      exact ⟨m1, a1, (Frq.si rfl).tr a2, a3⟩
theorem fgives {A : Nat → Nat} {mm : gM} (h : RMq A mm) (w : WF A) {ticks : Nat} (h6 : 6 ≤ ticks) (h60 : ticks ≤ 60) : ∃ m1, fX6_gives (nI ticks) mm = some (nI (bS A ticks), m1) ∧ Frq P33 mm m1 ∧ ∀ s, s < 6 → gi m1 33 0 s = nI (bT A ticks s) := by
  have hw6 := wsl_le A 6
  refine loop_ex (fun n s m => lX6_gives_4 n (nI ticks) (nI (wsl A s)) (nI s) m) (fun s m => Frq P33 mm m ∧ ∀ j, j < s → gi m 33 0 j = nI (T0 A j)) (fun o => ∃ m1, o = some (nI (bS A ticks), m1) ∧ Frq P33 mm m1 ∧ ∀ s, s < 6 → gi m1 33 0 s = nI (bT A ticks s)) 6 (fun n s m hs hI => ?_) (fun n m hI => ?_) FU 0 mm (by decide) (by decide) ⟨Frq.rf, fun j hj => absurd hj (Nat.not_lt_zero j)⟩
  · obtain ⟨f1, g1⟩ := hI
    have hc : RMq A m := h.fr f1 rfl
    have hw1 := wk_lt w hs
    have hws := wsl_le A s
    refine ⟨si m 33 0 s (nI (T0 A s)), ⟨f1.tr (Frq.si rfl), fun j hj => ?_⟩, ?_⟩
    · by_cases c : j = s
      · subst c
        simp (disch := omega) only [gi_si, z_if, z_ifn, and_self, if_true]
      · simp (disch := omega) only [gi_si, z_if, z_ifn, and_self, if_true, g1]
    · rw [lX6_gives_4_s, wsl_s]
      have gself : ∀ v, gi (si m 33 0 s v) 33 0 s = v := fun v => by rw [gi_si, if_pos ⟨rfl, rfl, rfl⟩]
      simp (disch := omega) only [z_nn2, z0, z1, z2, z3, z4, z5, z6, z7, z8, z9, z10, z11, z12, z13, z14, z15, z16, z17, z18, z19, z20, z23, z24, z28, z31, z32, z33, z45, z46, z47, z48, z52, z57, z60, z63, z65, z70, z80, z95, z100, z126, z127, z128, z200, z240, z255, z400, z480, z500, z840, z1023, z2000, z99999, z1073741824, z_nn, z_add, z_sub, z_mul, z_div, z_rem, z_cl, z_in, z_chk, z_chkp, z_bnd, z_bn2, z_wth, z_bxr, z_bxl, z_bx2r, z_bx2l, z_bz0, z_bz1, z_mx, z_mn, z_tb1, z_tb0, z_eq, z_le, z_lt, z_nn_lt, z_nn_le, z_nn_ge, z_nn_gt, z_nn_eq, z_nn_eq2, z_bit, z_wow, z_wo, z_or, z_shl, z_if, z_ifn, fbit, if_true, if_false, Nat.zero_add, Nat.add_zero, not_false_iff, not_true, fworks6 hc w, jX6_gives_28, gself]
      unfold T0
      by_cases c : wkq A s = 0
      · simp only [if_pos c, Nat.add_zero]
      · simp only [if_neg c]
  · obtain ⟨f1, g1⟩ := hI
    have hc : RMq A m := h.fr f1 rfl
    rw [lX6_gives_4_s]
    simp (disch := omega) only [z_nn2, z0, z1, z2, z3, z4, z5, z6, z7, z8, z9, z10, z11, z12, z13, z14, z15, z16, z17, z18, z19, z20, z23, z24, z28, z31, z32, z33, z45, z46, z47, z48, z52, z57, z60, z63, z65, z70, z80, z95, z100, z126, z127, z128, z200, z240, z255, z400, z480, z500, z840, z1023, z2000, z99999, z1073741824, z_nn, z_add, z_sub, z_mul, z_div, z_rem, z_cl, z_in, z_chk, z_chkp, z_bnd, z_bn2, z_wth, z_bxr, z_bxl, z_bx2r, z_bx2l, z_bz0, z_bz1, z_mx, z_mn, z_tb1, z_tb0, z_eq, z_le, z_lt, z_nn_lt, z_nn_le, z_nn_ge, z_nn_gt, z_nn_eq, z_nn_eq2, z_bit, z_wow, z_wo, z_or, z_shl, z_if, z_ifn, fbit, if_true, if_false, Nat.zero_add, Nat.add_zero, not_false_iff, not_true, jX6_gives_44, fneedy6 hc w (TI_0 A) g1]
    obtain ⟨m1, a1, a2, a3⟩ := fgives_l w h60 (ticks - wsl A 6) (T0 A) (wsl A 6) FU m hc (TI_0 A) g1 (by omega) (by unfold FU; omega)
    exact ⟨m1, a1, f1.tr a2, a3⟩
