/-! COMPARES with 1 and 2, the loops of bitsOf -/
theorem cmp_def (x y : UInt64) : FP.dcmp x y = FP.Core.order (FP.Core.decode FP.Core.b64 x.toNat) (FP.Core.decode FP.Core.b64 y.toNat) := rfl
theorem dec_2 : FP.Core.decode FP.Core.b64 (4611686018427387904 : UInt64).toNat = .fin false 4503599627370496 (-51) := by decide +kernel
theorem dec_1 : FP.Core.decode FP.Core.b64 FP.dconst1.toNat = .fin false 4503599627370496 (-52) := by decide +kernel
theorem dec_0 : FP.Core.decode FP.Core.b64 FP.dconst0.toNat = .fin false 0 (-1074) := by decide +kernel
theorem cmp_lt {c d : Nat} {q r : Int} {k : Nat} (hq : r - q = (k : Int)) (h : c < d * 2 ^ k) : FP.Core.order (.fin false c q) (.fin false d r) = some .lt := by
  have e1 : min q r = q := by omega
  have e2 : (q - q).toNat = 0 := by omega
  have e3 : (r - q).toNat = k := by omega
  unfold FP.Core.order FP.Core.signed FP.Core.inUnits
  dsimp only
  rw [e1, e2, e3, if_neg (by decide), if_neg (by decide)]
  have h2 : ((c * 2 ^ 0 : Nat) : Int) < ((d * 2 ^ k : Nat) : Int) := by
    rw [Nat.pow_zero, Nat.mul_one]
    exact Int.ofNat_lt.mpr h
  rw [Int.compare_eq_lt.mpr h2]
theorem cmp_ge {c d : Nat} {q r : Int} {k : Nat} (hq : q - r = (k : Int)) (h : d ≤ c * 2 ^ k) : FP.Core.order (.fin false c q) (.fin false d r) ≠ some .lt ∧ FP.Core.order (.fin false c q) (.fin false d r) ≠ none := by
  have e1 : min q r = r := by omega
  have e2 : (r - r).toNat = 0 := by omega
  have e3 : (q - r).toNat = k := by omega
  unfold FP.Core.order FP.Core.signed FP.Core.inUnits
  dsimp only
  rw [e1, e2, e3, if_neg (by decide), if_neg (by decide)]
  have h2 : ¬ ((c * 2 ^ k : Nat) : Int) < ((d * 2 ^ 0 : Nat) : Int) := by
    rw [Nat.pow_zero, Nat.mul_one]
    intro z
    have := Int.ofNat_lt.mp z
    omega
  refine ⟨fun z => h2 (Int.compare_eq_lt.mp (Option.some.inj z)), fun z => by cases z⟩
theorem cv_lt {op : CmpOp} : Op.cmpValue (some .lt) op = -1 := by cases op <;> rfl
theorem cv_ge {o : Option Ordering} {op : CmpOp} (h : o ≠ some .lt ∧ o ≠ none) : 0 ≤ Op.cmpValue o op ∧ ¬ Op.cmpValue o op < 0 := by
  cases o with
  | none => exact absurd rfl h.2
  | some x => cases x with
    | lt => exact absurd rfl h.1
    | eq => cases op <;> exact ⟨by decide, by decide⟩
    | gt => cases op <;> exact ⟨by decide, by decide⟩
theorem cmp2_ge {e t : Nat} (h1 : 1024 ≤ e) (h2 : e ≤ 2046) (ht : t < 4503599627370496) : ¬ Op.cmpValue (FP.dcmp (bD e t) 4611686018427387904) .l < 0 := by
  rw [cmp_def, bD_nat h2 ht, dec_n (by omega) h2 ht, dec_2]
  refine (cv_ge (cmp_ge (k := e - 1024) (by omega) ?_)).2
  have := Nat.two_pow_pos (e - 1024)
  exact Nat.le_trans (Nat.le_add_right _ t) (Nat.le_mul_of_pos_right _ this)
theorem cmp2_lt {e t : Nat} (h0 : 1 ≤ e) (h1 : e < 1024) (ht : t < 4503599627370496) : Op.cmpValue (FP.dcmp (bD e t) 4611686018427387904) .l < 0 := by
  rw [cmp_def, bD_nat (by omega) ht, dec_n h0 (by omega) ht, dec_2, cmp_lt (k := 1024 - e) (by omega) ?_, cv_lt]
  · decide
  · have : 2 ^ 1 ≤ 2 ^ (1024 - e) := Nat.pow_le_pow_right (by decide) (by omega)
    have h3 := Nat.mul_le_mul_left 4503599627370496 this
    omega
theorem cmp1_ge {e t : Nat} (h1 : 1023 ≤ e) (h2 : e ≤ 2046) (ht : t < 4503599627370496) : 0 ≤ Op.cmpValue (FP.dcmp (bD e t) FP.dconst1) .g := by
  rw [cmp_def, bD_nat h2 ht, dec_n (by omega) h2 ht, dec_1]
  refine (cv_ge (cmp_ge (k := e - 1023) (by omega) ?_)).1
  have := Nat.two_pow_pos (e - 1023)
  exact Nat.le_trans (Nat.le_add_right _ t) (Nat.le_mul_of_pos_right _ this)
theorem cmp1_lt {e t : Nat} (h0 : 1 ≤ e) (h1 : e < 1023) (ht : t < 4503599627370496) : ¬ 0 ≤ Op.cmpValue (FP.dcmp (bD e t) FP.dconst1) .g := by
  rw [cmp_def, bD_nat (by omega) ht, dec_n h0 (by omega) ht, dec_1, cmp_lt (k := 1023 - e) (by omega) ?_, cv_lt]
  · decide
  · have : 2 ^ 1 ≤ 2 ^ (1023 - e) := Nat.pow_le_pow_right (by decide) (by omega)
    have h3 := Nat.mul_le_mul_left 4503599627370496 this
    omega
theorem cmp0 {e t : Nat} (h0 : 1 ≤ e) (h2 : e ≤ 2046) (ht : t < 4503599627370496) : 0 < Op.cmpValue (FP.dcmp (bD e t) FP.dconst0) .g := by
  rw [cmp_def, bD_nat h2 ht, dec_n h0 h2 ht, dec_0]
  have e1 : min ((e : Int) - 1075) (-1074) = -1074 := by omega
  have hp := Nat.two_pow_pos ((e : Int) - 1075 - -1074).toNat
  unfold FP.Core.order FP.Core.signed FP.Core.inUnits
  dsimp only
  rw [e1, if_neg (by decide), if_neg (by decide)]
  have h3 : ((0 * 2 ^ ((-1074 : Int) - -1074).toNat : Nat) : Int) < (((4503599627370496 + t) * 2 ^ ((e : Int) - 1075 - -1074).toNat : Nat) : Int) := by
    rw [Nat.zero_mul]
    exact Int.ofNat_lt.mpr (Nat.mul_pos (by omega) hp)
  rw [Int.compare_eq_gt.mpr h3]
  decide
def oL (n : Nat) : Int64 := Int64.ofNat n
theorem oL_add (a b : Nat) : oL a + oL b = oL (a + b) := (Int64.ofNat_add a b).symm
theorem oL_1 (a : Nat) : oL a + 1 = oL (a + 1) := oL_add a 1
theorem oL_m1 (a : Nat) : oL (a + 1) - 1 = oL a := by rw [← oL_1, Int64.add_sub_cancel]
/-- halving, from 1023 + k down to 1023 -/
theorem loop18 {b : Nat} {fb : Int32} (hb : b < 2147483648) {t : Nat} (ht : t < 4503599627370496) : ∀ k n x y, k ≤ 1023 → x + k ≤ b → k < n → lX5_bitsOf_18 n (nI b) fb (oL y) (bD (1023 + k) t) (nI x) = jX5_bitsOf_53 (nI b) fb (oL (y + k)) (bD 1023 t) := by
  intro k
  induction k with
  | zero =>
    intro n x y hk hx hn
    obtain ⟨m, rfl⟩ : ∃ m, n = m + 1 := ⟨n - 1, by omega⟩
    rw [lX5_bitsOf_18_s, Nat.add_zero, Nat.add_zero]
    by_cases c : nI b ≤ nI x
    · rw [if_pos c]
    · rw [if_neg c, if_pos (cmp2_lt (by decide) (by decide) ht)]
  | succ k ih =>
    intro n x y hk hx hn
    obtain ⟨m, rfl⟩ : ∃ m, n = m + 1 := ⟨n - 1, by omega⟩
    have h1 : FP.ddiv (bD (1023 + (k + 1)) t) 4611686018427387904 = bD (1023 + k) t := half_n (by omega) (by omega) ht
    rw [lX5_bitsOf_18_s, if_neg (show ¬ nI b ≤ nI x by rw [z_le hb (by omega)]; omega), if_neg (cmp2_ge (by omega) (by omega) ht), h1, chk_t (vf_n (by omega) ht), oL_1, z1, z_add, ih m (x + 1) (y + 1) (by omega) (by omega) (by omega)]
    congr 2
    omega
/-- doubling, from 1023 - k upq to 1023 -/
theorem loop56 {b : Nat} {fb : Int32} (hb : b < 2147483648) {t : Nat} (ht : t < 4503599627370496) : ∀ k n x y, k ≤ 1022 → x + k ≤ b → k < n → lX5_bitsOf_56 n (nI b) fb (oL (y + k)) (bD (1023 - k) t) (nI x) = jX5_bitsOf_89 fb (oL y) (bD 1023 t) := by
  intro k
  induction k with
  | zero =>
    intro n x y hk hx hn
    obtain ⟨m, rfl⟩ : ∃ m, n = m + 1 := ⟨n - 1, by omega⟩
    rw [lX5_bitsOf_56_s, Nat.add_zero, Nat.sub_zero]
    by_cases c : nI b ≤ nI x
    · rw [if_pos c]
    · rw [if_neg c, if_pos (cmp1_ge (by decide) (by decide) ht)]
  | succ k ih =>
    intro n x y hk hx hn
    obtain ⟨m, rfl⟩ : ∃ m, n = m + 1 := ⟨n - 1, by omega⟩
    have h1 : FP.dmul (bD (1023 - (k + 1)) t) 4611686018427387904 = bD (1023 - k) t := by
      rw [dbl_n (by omega) (by omega) ht]
      congr 1
      omega
    rw [lX5_bitsOf_56_s, if_neg (show ¬ nI b ≤ nI x by rw [z_le hb (by omega)]; omega), if_neg (cmp1_lt (by omega) (by omega) ht), h1, chk_t (vf_n (by omega) ht), show y + (k + 1) = (y + k) + 1 from rfl, oL_m1, z1, z_add]
    exact ih m (x + 1) y (by omega) (by omega) (by omega)
theorem log2_rng {t : Nat} (h0 : 0 < t) (ht : t < 4503599627370496) : ∃ l, l ≤ 51 ∧ 2 ^ l ≤ t ∧ t < 2 ^ (l + 1) := by
  refine ⟨t.log2, ?_, Nat.log2_self_le (by omega), Nat.lt_log2_self⟩
  have h1 := Nat.log2_self_le (n := t) (by omega)
  have h2 : (2 : Nat) ^ t.log2 < 2 ^ 52 := Nat.lt_of_le_of_lt h1 ht
  have := (Nat.pow_lt_pow_iff_right (a := 2) (by decide)).mp h2
  omega
/-- 1 off: the fraction alone, as a normal number -/
theorem sub1_n {t l : Nat} (hl : l ≤ 51) (h1 : 2 ^ l ≤ t) (h2 : t < 2 ^ (l + 1)) : FP.dsub (bD 1023 t) FP.dconst1 = bD (l + 971) (t * 2 ^ (52 - l) - 4503599627370496) ∧ 4503599627370496 ≤ t * 2 ^ (52 - l) ∧ t * 2 ^ (52 - l) < 9007199254740992 := by
  have p1 : 2 ^ l * 2 ^ (52 - l) = 4503599627370496 := by rw [← Nat.pow_add, show l + (52 - l) = 52 by omega]
  have p2 : 2 ^ (l + 1) * 2 ^ (52 - l) = 9007199254740992 := by rw [← Nat.pow_add, show l + 1 + (52 - l) = 53 by omega]
  have g1 : 4503599627370496 ≤ t * 2 ^ (52 - l) := by rw [← p1]; exact Nat.mul_le_mul_right _ h1
  have g2 : t * 2 ^ (52 - l) < 9007199254740992 := by rw [← p2]; exact Nat.mul_lt_mul_of_pos_right h2 (Nat.two_pow_pos _)
  have ht : t < 4503599627370496 := Nat.lt_of_lt_of_le h2 (Nat.pow_le_pow_right (n := 2) (by decide) (show l + 1 ≤ 52 by omega))
  have hpos := Nat.two_pow_pos l
  refine ⟨?_, g1, g2⟩
  show UInt64.ofNat (FP.Core.encode FP.Core.b64 (FP.Core.round FP.Core.b64 (FP.Core.exactSum (FP.Core.decode FP.Core.b64 (bD 1023 t).toNat) (FP.Core.negate (FP.Core.decode FP.Core.b64 FP.dconst1.toNat))))) = _
  rw [bD_nat (by decide) ht, dec_n (by decide) (by decide) ht, dec_1]
  have hs : FP.Core.exactSum (.fin false (4503599627370496 + t) (((1023 : Nat) : Int) - 1075)) (FP.Core.negate (.fin false 4503599627370496 (-52))) = .fin false t (-52) := by
    show FP.Core.Datum.fin (FP.Core.sumSign false true (FP.Core.sumUnits false (4503599627370496 + t) (-52) true 4503599627370496 (-52) (-52))) (FP.Core.sumUnits false (4503599627370496 + t) (-52) true 4503599627370496 (-52) (-52)).natAbs (-52) = _
    have hu : FP.Core.sumUnits false (4503599627370496 + t) (-52) true 4503599627370496 (-52) (-52) = (t : Int) := by
      unfold FP.Core.sumUnits FP.Core.signed FP.Core.inUnits
      rw [if_neg (by decide), if_pos rfl, show ((-52 : Int) - -52).toNat = 0 by decide]
      omega
    rw [hu]
    unfold FP.Core.sumSign
    rw [if_neg (by omega)]
    congr 1
  rw [hs]
  have hr := rr_n (A := t) (B := 1) (c := t * 2 ^ (52 - l)) (e0 := -52) (l := (l : Int)) (x := 52 - l) (y := 0) (by omega) (lead1 h1 h2) (by omega) (by omega) (by omega) (by omega) (by omega) (by decide) g2
  show UInt64.ofNat (FP.Core.encode FP.Core.b64 (FP.Core.roundRatio FP.Core.b64 false t 1 (-52))) = _
  rw [hr, show (l : Int) + -52 - 52 = ((l + 971 : Nat) : Int) - 1075 by omega, show t * 2 ^ (52 - l) = 4503599627370496 + (t * 2 ^ (52 - l) - 4503599627370496) by omega, enc_n (by omega)]
  have : 4503599627370496 + (t * 2 ^ (52 - l) - 4503599627370496) - 4503599627370496 = t * 2 ^ (52 - l) - 4503599627370496 := by omega
  rw [this]
  rfl
