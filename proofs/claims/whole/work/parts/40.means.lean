/-! A RATIO of two numbers of a format is normal -/
theorem quo_n {f : FP.Core.Fmt} {n : Nat} (hp : f.p = n + 1) {C D : Nat} {e0 : Int} (hC1 : 2 ^ n ≤ C) (hC2 : C < 2 ^ (n + 1)) (hD1 : 2 ^ n ≤ D) (hD2 : D < 2 ^ (n + 1)) (hlo : f.qmin ≤ e0 - n - 1) (hhi : e0 - n + 1 ≤ f.qmax) : ∃ (N : Nat) (q : Int), FP.Core.roundRatio f false C D e0 = .fin false N q ∧ 2 ^ n ≤ N ∧ N < 2 ^ (n + 1) ∧ e0 - n - 1 ≤ q ∧ q ≤ e0 - n + 1 := by
  have hpos := Nat.two_pow_pos n
  have hs : 2 ^ (n + 1) = 2 * 2 ^ n := by rw [Nat.pow_succ, Nat.mul_comm]
  have lC := log2_n hC1 hC2
  have lD := log2_n hD1 hD2
  have hl : FP.Core.leading C D = if D ≤ C then 0 else -1 := by
    unfold FP.Core.leading
    rw [lC, lD, Int.sub_self]
    show (if D * 2 ^ 0 ≤ C * 2 ^ 0 then (0 : Int) else 0 - 1) = _
    simp only [Nat.pow_zero, Nat.mul_one]
    rfl
  have near : ∀ a b : Nat, 0 < b → 2 ^ n * b ≤ a → a < 2 ^ (n + 1) * b → 2 ^ n ≤ FP.Core.nearest a b ∧ FP.Core.nearest a b ≤ 2 ^ (n + 1) := by
    intro a b hb h1 h2
    have g1 : 2 ^ n ≤ a / b := (Nat.le_div_iff_mul_le hb).mpr h1
    have g2 : a / b < 2 ^ (n + 1) := (Nat.div_lt_iff_lt_mul hb).mpr h2
    have g3 : a / b % 2 ≤ 1 := by omega
    unfold FP.Core.nearest
    split
    · omega
    · split
      · omega
      · omega
  have fin : ∀ (N : Nat) (q : Int), 2 ^ n ≤ N → N ≤ 2 ^ (n + 1) → e0 - n - 1 ≤ q → q ≤ e0 - n → ∃ (N1 : Nat) (q1 : Int), FP.Core.settle f false N q = .fin false N1 q1 ∧ 2 ^ n ≤ N1 ∧ N1 < 2 ^ (n + 1) ∧ e0 - n - 1 ≤ q1 ∧ q1 ≤ e0 - n + 1 := by
    intro N q h1 h2 h3 h4
    unfold FP.Core.settle FP.Core.bound FP.Core.Fmt.tails
    rw [hp]
    by_cases c : N < 2 ^ (n + 1)
    · rw [if_pos c, if_pos (by omega)]
      exact ⟨N, q, rfl, h1, c, h3, by omega⟩
    · rw [if_neg c, if_pos (by omega), show n + 1 - 1 = n by omega]
      exact ⟨2 ^ n, q + 1, rfl, Nat.le_refl _, by omega, by omega, by omega⟩
  have hp1 : ((f.p : Int) - 1) = n := by rw [hp]; omega
  unfold FP.Core.roundRatio FP.Core.roundAt
  rw [if_neg (show ¬ C = 0 by omega)]
  by_cases c : D ≤ C
  · have hq : FP.Core.quantum f C D e0 = e0 - n := by
      unfold FP.Core.quantum
      rw [hl, if_pos c, hp1]
      omega
    rw [hq]
    unfold FP.Core.unitsNum FP.Core.unitsDen
    rw [show (e0 - (e0 - (n : Int))).toNat = n by omega, show ((e0 - (n : Int)) - e0).toNat = 0 by omega, Nat.pow_zero, Nat.mul_one]
    have h1 : 2 ^ n * D ≤ C * 2 ^ n := by rw [Nat.mul_comm]; exact Nat.mul_le_mul_right _ c
    have h2 : C * 2 ^ n < 2 ^ (n + 1) * D := by
      have h3 : C < 2 * D := by omega
      have h4 := Nat.mul_lt_mul_of_pos_right h3 hpos
      rw [hs, Nat.mul_comm 2, Nat.mul_assoc, Nat.mul_comm (2 ^ n)]
      exact h4
    obtain ⟨g1, g2⟩ := near _ _ (by omega) h1 h2
    exact fin _ _ g1 g2 (by omega) (by omega)
  · have hq : FP.Core.quantum f C D e0 = e0 - n - 1 := by
      unfold FP.Core.quantum
      rw [hl, if_neg c, hp1]
      omega
    rw [hq]
    unfold FP.Core.unitsNum FP.Core.unitsDen
    rw [show (e0 - (e0 - (n : Int) - 1)).toNat = n + 1 by omega, show ((e0 - (n : Int) - 1) - e0).toNat = 0 by omega, Nat.pow_zero, Nat.mul_one]
    have h1 : 2 ^ n * D ≤ C * 2 ^ (n + 1) := by
      have h3 : D ≤ 2 * C := by omega
      have h4 := Nat.mul_le_mul_left (2 ^ n) h3
      rw [hs]
      have e : 2 ^ n * (2 * C) = C * (2 * 2 ^ n) := by rw [Nat.mul_comm, Nat.mul_comm 2 C, Nat.mul_assoc]
      rw [← e]
      exact h4
    have h2 : C * 2 ^ (n + 1) < 2 ^ (n + 1) * D := by
      rw [Nat.mul_comm]
      exact Nat.mul_lt_mul_of_pos_left (by omega) (Nat.two_pow_pos _)
    obtain ⟨g1, g2⟩ := near _ _ (by omega) h1 h2
    exact fin _ _ g1 g2 (by omega) (by omega)
/-- a whole number of at most n + 1 digits, in a format -/
theorem whole_n {f : FP.Core.Fmt} {n s l : Nat} (hp : f.p = n + 1) (h1 : 2 ^ l ≤ s) (h2 : s < 2 ^ (l + 1)) (hl : l ≤ n) (hlo : f.qmin ≤ -(n : Int)) (hhi : 0 ≤ f.qmax) : FP.Core.roundRatio f false s 1 0 = .fin false (s * 2 ^ (n - l)) ((l : Int) - n) ∧ 2 ^ n ≤ s * 2 ^ (n - l) ∧ s * 2 ^ (n - l) < 2 ^ (n + 1) := by
  have hpos := Nat.two_pow_pos l
  have p1 : 2 ^ l * 2 ^ (n - l) = 2 ^ n := by rw [← Nat.pow_add, show l + (n - l) = n by omega]
  have p2 : 2 ^ (l + 1) * 2 ^ (n - l) = 2 ^ (n + 1) := by rw [← Nat.pow_add, show l + 1 + (n - l) = n + 1 by omega]
  have g1 : 2 ^ n ≤ s * 2 ^ (n - l) := by rw [← p1]; exact Nat.mul_le_mul_right _ h1
  have g2 : s * 2 ^ (n - l) < 2 ^ (n + 1) := by rw [← p2]; exact Nat.mul_lt_mul_of_pos_right h2 (Nat.two_pow_pos _)
  refine ⟨?_, g1, g2⟩
  have hp1 : ((f.p : Int) - 1) = n := by rw [hp]; omega
  have hq : FP.Core.quantum f s 1 0 = (l : Int) - n := by
    unfold FP.Core.quantum
    rw [lead1 h1 h2, hp1]
    omega
  have hn : ∀ x, FP.Core.nearest x 1 = x := by
    intro x
    unfold FP.Core.nearest
    rw [Nat.mod_one, Nat.div_one, if_pos (by omega)]
  unfold FP.Core.roundRatio FP.Core.roundAt FP.Core.settle FP.Core.bound FP.Core.unitsNum FP.Core.unitsDen
  rw [if_neg (show ¬ s = 0 by omega), hq, show ((0 : Int) - ((l : Int) - n)).toNat = n - l by omega, show (((l : Int) - n) - 0).toNat = 0 by omega, Nat.pow_zero, Nat.mul_one, hn, hp, if_pos g2, if_pos (show (l : Int) - n ≤ f.qmax by omega)]
theorem b32_qmax : FP.Core.Fmt.qmax FP.Core.b32 = 104 := by decide
theorem rng_l {s k : Nat} (h0 : 1 ≤ s) (h : s < 2 ^ (k + 1)) : ∃ l, l ≤ k ∧ 2 ^ l ≤ s ∧ s < 2 ^ (l + 1) := by
  refine ⟨s.log2, ?_, Nat.log2_self_le (by omega), Nat.lt_log2_self⟩
  have h1 := Nat.log2_self_le (n := s) (by omega)
  have := (Nat.pow_lt_pow_iff_right (a := 2) (by decide)).mp (Nat.lt_of_le_of_lt h1 h)
  omega
theorem enc_f {t : Nat} {e : Nat} (h1 : 1 ≤ e) : FP.Core.encode FP.Core.b32 (.fin false (8388608 + t) ((e : Int) - 150)) = e * 8388608 + t := by
  unfold FP.Core.encode FP.Core.assemble
  dsimp only
  rw [b32_tails, b32_exps, b32_qmin, if_neg (by omega)]
  have : ((e : Int) - 150 - -149).toNat + 1 = e := by omega
  rw [this]
  simp
theorem ofInt_n (s : Nat) : FP.Core.ofInt (s : Int) = .fin false s 0 := by
  unfold FP.Core.ofInt
  rw [decide_eq_false (show ¬ (s : Int) < 0 by omega)]
  rfl
/-- a whole number as a float, as a double -/
theorem i2f_n {s : Nat} (h0 : 1 ≤ s) (h : s < 16777216) : ∃ l C : Nat, l ≤ 23 ∧ 2 ^ l ≤ s ∧ 8388608 ≤ C ∧ C < 16777216 ∧ FP.Core.decode FP.Core.b32 (FP.i2f (nI s)).toNat = .fin false C ((l : Int) - 23) := by
  obtain ⟨l, hl, l1, l2⟩ := rng_l (k := 23) h0 h
  obtain ⟨e1, g1, g2⟩ := whole_n (f := FP.Core.b32) (n := 23) rfl l1 l2 hl (by rw [b32_qmin]; decide) (by rw [b32_qmax]; decide)
  refine ⟨l, s * 2 ^ (23 - l), hl, l1, g1, g2, ?_⟩
  have e2 : FP.i2f (nI s) = bF (l + 127) (s * 2 ^ (23 - l) - 8388608) := by
    show UInt32.ofNat (FP.Core.encode FP.Core.b32 (FP.Core.round FP.Core.b32 (FP.Core.ofInt (nI s).toInt))) = _
    rw [nI_toInt (by omega), ofInt_n]
    show UInt32.ofNat (FP.Core.encode FP.Core.b32 (FP.Core.roundRatio FP.Core.b32 false s 1 0)) = _
    rw [e1, show s * 2 ^ (23 - l) = 8388608 + (s * 2 ^ (23 - l) - 8388608) by omega, show (l : Int) - ((23 : Nat) : Int) = ((l + 127 : Nat) : Int) - 150 by omega, enc_f (by omega)]
    have : 8388608 + (s * 2 ^ (23 - l) - 8388608) - 8388608 = s * 2 ^ (23 - l) - 8388608 := by omega
    rw [this]
    rfl
  rw [e2, bF_nat (by omega) (by omega), dec_f (by omega) (by omega) (by omega), show 8388608 + (s * 2 ^ (23 - l) - 8388608) = s * 2 ^ (23 - l) by omega, show ((l + 127 : Nat) : Int) - 150 = (l : Int) - 23 by omega]
theorem i2d_n {s : Nat} (h0 : 1 ≤ s) (h : s < 16777216) : ∃ l C : Nat, l ≤ 23 ∧ 2 ^ l ≤ s ∧ 4503599627370496 ≤ C ∧ C < 9007199254740992 ∧ FP.Core.decode FP.Core.b64 (FP.i2d (nI s)).toNat = .fin false C ((l : Int) - 52) := by
  obtain ⟨l, hl, l1, l2⟩ := rng_l (k := 23) h0 h
  obtain ⟨e1, g1, g2⟩ := whole_n (f := FP.Core.b64) (n := 52) rfl l1 l2 (by omega) (by rw [b64_qmin]; decide) (by rw [b64_qmax]; decide)
  refine ⟨l, s * 2 ^ (52 - l), hl, l1, g1, g2, ?_⟩
  have e2 : FP.i2d (nI s) = bD (l + 1023) (s * 2 ^ (52 - l) - 4503599627370496) := by
    show UInt64.ofNat (FP.Core.encode FP.Core.b64 (FP.Core.round FP.Core.b64 (FP.Core.ofInt (nI s).toInt))) = _
    rw [nI_toInt (by omega), ofInt_n]
    show UInt64.ofNat (FP.Core.encode FP.Core.b64 (FP.Core.roundRatio FP.Core.b64 false s 1 0)) = _
    rw [e1, show s * 2 ^ (52 - l) = 4503599627370496 + (s * 2 ^ (52 - l) - 4503599627370496) by omega, show (l : Int) - ((52 : Nat) : Int) = ((l + 1023 : Nat) : Int) - 1075 by omega, enc_n (by omega)]
    have : 4503599627370496 + (s * 2 ^ (52 - l) - 4503599627370496) - 4503599627370496 = s * 2 ^ (52 - l) - 4503599627370496 := by omega
    rw [this]
    rfl
  rw [e2, bD_nat (by omega) (by omega), dec_n (by omega) (by omega) (by omega), show 4503599627370496 + (s * 2 ^ (52 - l) - 4503599627370496) = s * 2 ^ (52 - l) by omega, show ((l + 1023 : Nat) : Int) - 1075 = (l : Int) - 52 by omega]
theorem mn_ex {c s : Nat} (hc : 1 ≤ c) (hc2 : c ≤ 6) (hs : 1 ≤ s) (hs2 : s ≤ 2000 * c) : ∃ e t, 1 ≤ e ∧ e ≤ 254 ∧ t < 8388608 ∧ FP.fdiv (FP.i2f (nI s)) (FP.i2f (nI c)) = bF e t := by
  obtain ⟨l1, C, k1, -, k2, k3, k4⟩ := i2f_n hs (by omega)
  obtain ⟨l2, D, j1, -, j2, j3, j4⟩ := i2f_n hc (by omega)
  obtain ⟨N, q, r1, r2, r3, r4, r5⟩ := quo_n (f := FP.Core.b32) (n := 23) (C := C) (D := D) (e0 := ((l1 : Int) - 23) - ((l2 : Int) - 23)) rfl k2 k3 j2 j3 (by rw [b32_qmin]; omega) (by rw [b32_qmax]; omega)
  have r2' : 8388608 ≤ N := r2
  have r3' : N < 16777216 := r3
  refine ⟨(q + 150).toNat, N - 8388608, by omega, by omega, by omega, ?_⟩
  show UInt32.ofNat (FP.Core.encode FP.Core.b32 (FP.Core.quotient FP.Core.b32 (FP.Core.decode FP.Core.b32 (FP.i2f (nI s)).toNat) (FP.Core.decode FP.Core.b32 (FP.i2f (nI c)).toNat))) = _
  rw [k4, j4]
  unfold FP.Core.quotient
  dsimp only
  rw [if_neg (show ¬ D = 0 by omega)]
  show UInt32.ofNat (FP.Core.encode FP.Core.b32 (FP.Core.roundRatio FP.Core.b32 false C D (((l1 : Int) - 23) - ((l2 : Int) - 23)))) = _
  rw [r1, show N = 8388608 + (N - 8388608) by omega, show q = (((q + 150).toNat : Nat) : Int) - 150 by omega, enc_f (by omega)]
  have e1 : 8388608 + (N - 8388608) - 8388608 = N - 8388608 := by omega
  have e2 : (((((q + 150).toNat : Nat) : Int) - 150) + 150).toNat = (q + 150).toNat := by omega
  rw [e1, e2]
  rfl
theorem sh_ex {a b : Nat} (ha : 1 ≤ a) (ha2 : a ≤ 120) (hb : 1 ≤ b) (hb2 : b ≤ 138) : ∃ e t, 1 ≤ e ∧ e ≤ 2046 ∧ t < 4503599627370496 ∧ FP.ddiv (FP.i2d (nI a)) (FP.i2d (nI b)) = bD e t := by
  obtain ⟨l1, C, k1, -, k2, k3, k4⟩ := i2d_n ha (by omega)
  obtain ⟨l2, D, j1, -, j2, j3, j4⟩ := i2d_n hb (by omega)
  obtain ⟨N, q, r1, r2, r3, r4, r5⟩ := quo_n (f := FP.Core.b64) (n := 52) (C := C) (D := D) (e0 := ((l1 : Int) - 52) - ((l2 : Int) - 52)) rfl k2 k3 j2 j3 (by rw [b64_qmin]; omega) (by rw [b64_qmax]; omega)
  have r2' : 4503599627370496 ≤ N := r2
  have r3' : N < 9007199254740992 := r3
  refine ⟨(q + 1075).toNat, N - 4503599627370496, by omega, by omega, by omega, ?_⟩
  show UInt64.ofNat (FP.Core.encode FP.Core.b64 (FP.Core.quotient FP.Core.b64 (FP.Core.decode FP.Core.b64 (FP.i2d (nI a)).toNat) (FP.Core.decode FP.Core.b64 (FP.i2d (nI b)).toNat))) = _
  rw [k4, j4]
  unfold FP.Core.quotient
  dsimp only
  rw [if_neg (show ¬ D = 0 by omega)]
  show UInt64.ofNat (FP.Core.encode FP.Core.b64 (FP.Core.roundRatio FP.Core.b64 false C D (((l1 : Int) - 52) - ((l2 : Int) - 52)))) = _
  rw [r1, show N = 4503599627370496 + (N - 4503599627370496) by omega, show q = (((q + 1075).toNat : Nat) : Int) - 1075 by omega, enc_n (by omega)]
  have e1 : 4503599627370496 + (N - 4503599627370496) - 4503599627370496 = N - 4503599627370496 := by omega
  have e2 : (((((q + 1075).toNat : Nat) : Int) - 1075) + 1075).toNat = (q + 1075).toNat := by omega
  rw [e1, e2]
  rfl
