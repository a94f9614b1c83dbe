/-! DOUBLES that are normal: e the exponent's field, t the fraction's -/
def bD (e t : Nat) : UInt64 := UInt64.ofNat (e * 4503599627370496 + t)
theorem bD_nat {e t : Nat} (h2 : e ≤ 2046) (ht : t < 4503599627370496) : (bD e t).toNat = e * 4503599627370496 + t := by
  unfold bD
  rw [UInt64.toNat_ofNat']
  exact Nat.mod_eq_of_lt (by omega)
theorem b64_tails : FP.Core.Fmt.tails FP.Core.b64 = 4503599627370496 := by decide
theorem b64_exps : FP.Core.Fmt.exps FP.Core.b64 = 2048 := by decide
theorem b64_qmin : FP.Core.Fmt.qmin FP.Core.b64 = -1074 := by decide
theorem b64_qmax : FP.Core.Fmt.qmax FP.Core.b64 = 971 := by decide
theorem dec_n {e t : Nat} (h1 : 1 ≤ e) (h2 : e ≤ 2046) (ht : t < 4503599627370496) : FP.Core.decode FP.Core.b64 (e * 4503599627370496 + t) = .fin false (4503599627370496 + t) ((e : Int) - 1075) := by
  have e1 : FP.Core.fieldE FP.Core.b64 (e * 4503599627370496 + t) = e := by
    unfold FP.Core.fieldE
    rw [b64_tails, b64_exps]
    omega
  have e2 : FP.Core.fieldT FP.Core.b64 (e * 4503599627370496 + t) = t := by
    unfold FP.Core.fieldT
    rw [b64_tails]
    omega
  have e3 : FP.Core.fieldS FP.Core.b64 (e * 4503599627370496 + t) = false := by
    unfold FP.Core.fieldS
    rw [b64_tails, b64_exps]
    have : (e * 4503599627370496 + t) / 4503599627370496 / 2048 % 2 = 0 := by omega
    rw [this]
    rfl
  unfold FP.Core.decode
  rw [e1, e2, e3, b64_exps, b64_tails, b64_qmin, if_neg (by omega), if_neg (by omega)]
  congr 1
  omega
theorem enc_n {t : Nat} {e : Nat} (h1 : 1 ≤ e) : FP.Core.encode FP.Core.b64 (.fin false (4503599627370496 + t) ((e : Int) - 1075)) = e * 4503599627370496 + t := by
  unfold FP.Core.encode FP.Core.assemble
  dsimp only
  rw [b64_tails, b64_exps, b64_qmin, if_neg (by omega)]
  have : ((e : Int) - 1075 - -1074).toNat + 1 = e := by omega
  rw [this]
  simp
/-- a ratio that is a number of the format -/
theorem rr_n {A B c : Nat} {e0 l : Int} {x y : Nat} (hA : A ≠ 0) (hl : FP.Core.leading A B = l) (h1 : -1074 ≤ l + e0 - 52) (h2 : l + e0 - 52 ≤ 971) (hx : (e0 - (l + e0 - 52)).toNat = x) (hy : ((l + e0 - 52) - e0).toNat = y) (hc : A * 2 ^ x = c * (B * 2 ^ y)) (hB : 0 < B) (hc2 : c < 9007199254740992) : FP.Core.roundRatio FP.Core.b64 false A B e0 = .fin false c (l + e0 - 52) := by
  have hq : FP.Core.quantum FP.Core.b64 A B e0 = l + e0 - 52 := by
    unfold FP.Core.quantum
    rw [hl, b64_qmin]
    have : ((FP.Core.b64.p : Int) - 1) = 52 := by decide
    rw [this]
    omega
  have hn : FP.Core.nearest (c * (B * 2 ^ y)) (B * 2 ^ y) = c := by
    have hp : 0 < B * 2 ^ y := Nat.mul_pos hB (Nat.two_pow_pos y)
    unfold FP.Core.nearest
    rw [Nat.mul_mod_left, Nat.mul_div_cancel _ hp, if_pos (by omega)]
  unfold FP.Core.roundRatio FP.Core.roundAt FP.Core.settle FP.Core.bound FP.Core.unitsNum FP.Core.unitsDen
  rw [if_neg hA, hq, hx, hy, hc, hn, b64_qmax, if_pos (show c < 2 ^ FP.Core.b64.p from hc2), if_pos h2]
theorem log2_n {A a : Nat} (h1 : 2 ^ a ≤ A) (h2 : A < 2 ^ (a + 1)) : A.log2 = a := by
  have h0 : A ≠ 0 := by
    have := Nat.two_pow_pos a
    omega
  have g1 := Nat.log2_self_le h0
  have g2 : A < 2 ^ (A.log2 + 1) := Nat.lt_log2_self
  have k1 : a < A.log2 + 1 := (Nat.pow_lt_pow_iff_right (a := 2) (by decide)).mp (Nat.lt_of_le_of_lt h1 g2)
  have k2 : A.log2 < a + 1 := (Nat.pow_lt_pow_iff_right (a := 2) (by decide)).mp (Nat.lt_of_le_of_lt g1 h2)
  omega
theorem lead1 {A a : Nat} (h1 : 2 ^ a ≤ A) (h2 : A < 2 ^ (a + 1)) : FP.Core.leading A 1 = (a : Int) := by
  have e := log2_n h1 h2
  have e1 : (1 : Nat).log2 = 0 := by decide
  unfold FP.Core.leading
  rw [e, e1]
  dsimp only
  rw [if_pos]
  · omega
  · have a1 : ((a : Int) - ((0 : Nat) : Int)).toNat = a := by omega
    have a2 : (-((a : Int) - ((0 : Nat) : Int))).toNat = 0 := by omega
    rw [a1, a2]
    omega
theorem lead52 {A : Nat} (h1 : 4503599627370496 ≤ A) (h2 : A < 9007199254740992) : FP.Core.leading A 4503599627370496 = 0 := by
  have e : A.log2 = 52 := log2_n h1 h2
  have e1 : (4503599627370496 : Nat).log2 = 52 := by decide +kernel
  unfold FP.Core.leading
  rw [e, e1]
  dsimp only
  rw [if_pos]
  · decide
  · show 4503599627370496 * 2 ^ 0 ≤ A * 2 ^ 0
    omega
theorem half_n {e t : Nat} (h1 : 2 ≤ e) (h2 : e ≤ 2046) (ht : t < 4503599627370496) : FP.ddiv (bD e t) 4611686018427387904 = bD (e - 1) t := by
  show UInt64.ofNat (FP.Core.encode FP.Core.b64 (FP.Core.quotient FP.Core.b64 (FP.Core.decode FP.Core.b64 (bD e t).toNat) (FP.Core.decode FP.Core.b64 (4611686018427387904 : UInt64).toNat))) = bD (e - 1) t
  have e2 : FP.Core.decode FP.Core.b64 (4611686018427387904 : UInt64).toNat = .fin false 4503599627370496 (-51) := by decide +kernel
  rw [bD_nat h2 ht, dec_n (by omega) h2 ht, e2]
  have hr := rr_n (A := 4503599627370496 + t) (B := 4503599627370496) (c := 4503599627370496 + t) (e0 := (e : Int) - 1075 - -51) (l := 0) (x := 52) (y := 0) (by omega) (lead52 (by omega) (by omega)) (by omega) (by omega) (by omega) (by omega) (by omega) (by decide) (by omega)
  unfold FP.Core.quotient
  dsimp only
  rw [if_neg (by decide)]
  show UInt64.ofNat (FP.Core.encode FP.Core.b64 (FP.Core.roundRatio FP.Core.b64 false (4503599627370496 + t) 4503599627370496 ((e : Int) - 1075 - -51))) = bD (e - 1) t
  rw [hr, show (0 : Int) + ((e : Int) - 1075 - -51) - 52 = ((e - 1 : Nat) : Int) - 1075 by omega, enc_n (by omega)]
  rfl
theorem dbl_n {e t : Nat} (h1 : 1 ≤ e) (h2 : e ≤ 2045) (ht : t < 4503599627370496) : FP.dmul (bD e t) 4611686018427387904 = bD (e + 1) t := by
  show UInt64.ofNat (FP.Core.encode FP.Core.b64 (FP.Core.round FP.Core.b64 (FP.Core.exactProduct (FP.Core.decode FP.Core.b64 (bD e t).toNat) (FP.Core.decode FP.Core.b64 (4611686018427387904 : UInt64).toNat)))) = bD (e + 1) t
  have e2 : FP.Core.decode FP.Core.b64 (4611686018427387904 : UInt64).toNat = .fin false 4503599627370496 (-51) := by decide +kernel
  rw [bD_nat (by omega) ht, dec_n h1 (by omega) ht, e2]
  have hr := rr_n (A := (4503599627370496 + t) * 4503599627370496) (B := 1) (c := 4503599627370496 + t) (e0 := (e : Int) - 1075 + -51) (l := 104) (x := 0) (y := 52) (by omega) (lead1 (a := 104) (by omega) (by omega)) (by omega) (by omega) (by omega) (by omega) (by omega) (by decide) (by omega)
  show UInt64.ofNat (FP.Core.encode FP.Core.b64 (FP.Core.roundRatio FP.Core.b64 false ((4503599627370496 + t) * 4503599627370496) 1 ((e : Int) - 1075 + -51))) = bD (e + 1) t
  rw [hr, show (104 : Int) + ((e : Int) - 1075 + -51) - 52 = ((e + 1 : Nat) : Int) - 1075 by omega, enc_n (by omega)]
  rfl
theorem vf_n {e t : Nat} (h2 : e ≤ 2046) (ht : t < 4503599627370496) : vf_n64 (bD e t) := by
  unfold vf_n64
  rw [UInt64.le_iff_toNat_le, UInt64.toNat_and, bD_nat h2 ht]
  refine Nat.le_trans Nat.and_le_left ?_
  show e * 4503599627370496 + t ≤ 9218868437227405312
  omega
