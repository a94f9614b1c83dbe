/-! THE BITS that bitsOf tells; floats as doubles; shares and means that are normal -/
theorem mul_n {e e1 t : Nat} (h1 : 1 ≤ e) (h2 : e ≤ 2046) (h3 : 1 ≤ e1) (h4 : e1 ≤ 2046) (h5 : 1024 ≤ e + e1) (h6 : e + e1 ≤ 3069) (ht : t < 4503599627370496) : FP.dmul (bD e t) (bD e1 0) = bD (e + e1 - 1023) t := by
  show UInt64.ofNat (FP.Core.encode FP.Core.b64 (FP.Core.round FP.Core.b64 (FP.Core.exactProduct (FP.Core.decode FP.Core.b64 (bD e t).toNat) (FP.Core.decode FP.Core.b64 (bD e1 0).toNat)))) = bD (e + e1 - 1023) t
  rw [bD_nat h2 ht, dec_n h1 h2 ht, bD_nat h4 (by decide), dec_n h3 h4 (by decide)]
  have hr := rr_n (A := (4503599627370496 + t) * (4503599627370496 + 0)) (B := 1) (c := 4503599627370496 + t) (e0 := (e : Int) - 1075 + ((e1 : Int) - 1075)) (l := 104) (x := 0) (y := 52) (by omega) (lead1 (a := 104) (by omega) (by omega)) (by omega) (by omega) (by omega) (by omega) (by omega) (by decide) (by omega)
  show UInt64.ofNat (FP.Core.encode FP.Core.b64 (FP.Core.roundRatio FP.Core.b64 false ((4503599627370496 + t) * (4503599627370496 + 0)) 1 ((e : Int) - 1075 + ((e1 : Int) - 1075)))) = bD (e + e1 - 1023) t
  rw [hr, show (104 : Int) + ((e : Int) - 1075 + ((e1 : Int) - 1075)) - 52 = ((e + e1 - 1023 : Nat) : Int) - 1075 by omega, enc_n (by omega)]
  rfl
theorem d2l_n {e u T k : Nat} (h1 : 1 ≤ e) (h2 : e ≤ 1074) (hu : u < 4503599627370496) (hk : 1075 - e = k) (hT : 4503599627370496 + u = T * 2 ^ k) (hT2 : T < 4503599627370496) : FP.d2l (bD e u) = oL T := by
  show FP.Core.toL (FP.Core.decode FP.Core.b64 (bD e u).toNat) = oL T
  rw [bD_nat (by omega) hu, dec_n h1 (by omega) hu]
  unfold FP.Core.toL FP.Core.toInt FP.Core.truncate FP.Core.signed
  dsimp only
  rw [show ((e : Int) - 1075).toNat = 0 by omega, show (-((e : Int) - 1075)).toNat = k by omega, Nat.pow_zero, Nat.mul_one, hT, Nat.mul_div_cancel _ (Nat.two_pow_pos k), if_neg (by decide)]
  have : max (-2 ^ 63 : Int) (min (2 ^ 63 - 1) (T : Int)) = (T : Int) := by omega
  rw [this]
  rfl
theorem lsh_n (y : Nat) {fb : Nat} (hf : fb = 52 ∨ fb = 23) : lsh (oL y) (nI fb) = oL (y * 2 ^ fb) := by
  have hs : ((((nI fb).toInt64 &&& 63 : Int64).toBitVec).smod 64).toNat = fb := by
    rcases hf with rfl | rfl <;> decide +kernel
  apply Int64.toBitVec_inj.mp
  apply BitVec.eq_of_toNat_eq
  show ((oL y).toBitVec <<< (((nI fb).toInt64 &&& 63 : Int64).toBitVec.smod 64).toNat).toNat = _
  rw [hs, BitVec.toNat_shiftLeft, Nat.shiftLeft_eq]
  show (y % 2 ^ 64) * 2 ^ fb % 2 ^ 64 = (y * 2 ^ fb) % 2 ^ 64
  rw [Nat.mul_mod, Nat.mod_mod, ← Nat.mul_mod]
theorem l2d_n {fb : Nat} (hf : fb = 52 ∨ fb = 23) : FP.l2d (lsh 1 (nI fb)) = bD (1023 + fb) 0 := by
  rcases hf with rfl | rfl <;> decide +kernel
theorem end89 {fb y t T : Nat} (hf : fb = 52 ∨ fb = 23) (ht : t < 4503599627370496) (hT : t = T * 2 ^ (52 - fb)) : jX5_bitsOf_89 (nI fb) (oL y) (bD 1023 t) = some (oL (y * 2 ^ fb + T)) := by
  have hTt : T ≤ t := by
    rw [hT]
    exact Nat.le_mul_of_pos_right _ (Nat.two_pow_pos _)
  unfold jX5_bitsOf_89
  rw [l2d_n hf, lsh_n y hf]
  by_cases h0 : t = 0
  · have hT0 : T = 0 := by omega
    subst hT0
    rw [h0]
    have e1 : FP.dsub (bD 1023 0) FP.dconst1 = 0 := by decide +kernel
    rw [e1]
    have e2 : FP.dmul 0 (bD (1023 + fb) 0) = 0 := by rcases hf with rfl | rfl <;> decide +kernel
    rw [e2, chk_t (show vf_n64 0 by unfold vf_n64; decide), chk_t (show vf_n64 0 by unfold vf_n64; decide)]
    have e3 : FP.d2l 0 = oL 0 := by decide +kernel
    rw [e3, oL_add]
  · obtain ⟨l, hl, l1, l2⟩ := log2_rng (by omega) ht
    obtain ⟨e1, g1, g2⟩ := sub1_n hl l1 l2
    have hfb : fb ≤ 52 ∧ 23 ≤ fb := by omega
    rw [e1, chk_t (vf_n (by omega) (by omega)), mul_n (by omega) (by omega) (by omega) (by omega) (by omega) (by omega) (by omega), chk_t (vf_n (by omega) (by omega))]
    have e2 : FP.d2l (bD (l + 971 + (1023 + fb) - 1023) (t * 2 ^ (52 - l) - 4503599627370496)) = oL T := by
      refine d2l_n (k := 104 - l - fb) (by omega) (by omega) (by omega) (by omega) ?_ (by omega)
      rw [show 4503599627370496 + (t * 2 ^ (52 - l) - 4503599627370496) = t * 2 ^ (52 - l) by omega, hT, Nat.mul_assoc, ← Nat.pow_add]
      congr 2
      omega
    rw [e2, oL_add]
theorem bits_n {b fb E e t T : Nat} (hf : fb = 52 ∨ fb = 23) (ht : t < 4503599627370496) (hT : t = T * 2 ^ (52 - fb)) (hb : b ≤ 1023) (he : e + b = 1023 + E) (h1 : 1 ≤ E) (h2 : E ≤ 2 * b) : fX5_bitsOf (bD e t) (nI b) (nI fb) = some (oL (E * 2 ^ fb + T)) := by
  have hL : (nI b).toInt64 = oL b := nI_l (by omega)
  unfold fX5_bitsOf
  rw [if_pos (cmp0 (by omega) (by omega) ht), hL]
  by_cases c : 1023 ≤ e
  · obtain ⟨k, rfl⟩ : ∃ k, e = 1023 + k := ⟨e - 1023, by omega⟩
    rw [z0, loop18 (by omega) ht k FU 0 b (by omega) (by omega) (by unfold FU; omega)]
    unfold jX5_bitsOf_53
    have := loop56 (b := b) (fb := nI fb) (by omega) ht 0 FU 0 (b + k) (by omega) (by omega) (by decide)
    rw [Nat.add_zero, Nat.sub_zero] at this
    rw [z0, this, end89 hf ht hT, show b + k = E by omega]
  · rw [show FU = 4095 + 1 from rfl, lX5_bitsOf_18_s, if_neg (show ¬ nI b ≤ 0 by rw [z0, z_le (by omega) (by omega)]; omega), if_pos (cmp2_lt (by omega) (by omega) ht)]
    unfold jX5_bitsOf_53
    have := loop56 (b := b) (fb := nI fb) (by omega) ht (1023 - e) FU 0 E (by omega) (by omega) (by unfold FU; omega)
    rw [show E + (1023 - e) = b by omega, show 1023 - (1023 - e) = e by omega] at this
    rw [z0, this, end89 hf ht hT]
theorem bits_0 {b fb : Int32} : fX5_bitsOf FP.dconst0 b fb = some (oL 0) := by
  unfold fX5_bitsOf
  rw [if_neg (by decide +kernel)]
  rfl
/-- a float that is normal -/
def bF (e t : Nat) : UInt32 := UInt32.ofNat (e * 8388608 + t)
theorem bF_nat {e t : Nat} (h2 : e ≤ 254) (ht : t < 8388608) : (bF e t).toNat = e * 8388608 + t := by
  unfold bF
  rw [UInt32.toNat_ofNat']
  exact Nat.mod_eq_of_lt (by omega)
theorem b32_tails : FP.Core.Fmt.tails FP.Core.b32 = 8388608 := by decide
theorem b32_exps : FP.Core.Fmt.exps FP.Core.b32 = 256 := by decide
theorem b32_qmin : FP.Core.Fmt.qmin FP.Core.b32 = -149 := by decide
theorem dec_f {e t : Nat} (h1 : 1 ≤ e) (h2 : e ≤ 254) (ht : t < 8388608) : FP.Core.decode FP.Core.b32 (e * 8388608 + t) = .fin false (8388608 + t) ((e : Int) - 150) := by
  have e1 : FP.Core.fieldE FP.Core.b32 (e * 8388608 + t) = e := by
    unfold FP.Core.fieldE
    rw [b32_tails, b32_exps]
    omega
  have e2 : FP.Core.fieldT FP.Core.b32 (e * 8388608 + t) = t := by
    unfold FP.Core.fieldT
    rw [b32_tails]
    omega
  have e3 : FP.Core.fieldS FP.Core.b32 (e * 8388608 + t) = false := by
    unfold FP.Core.fieldS
    rw [b32_tails, b32_exps]
    have : (e * 8388608 + t) / 8388608 / 256 % 2 = 0 := by omega
    rw [this]
    rfl
  unfold FP.Core.decode
  rw [e1, e2, e3, b32_exps, b32_tails, b32_qmin, if_neg (by omega), if_neg (by omega)]
  congr 1
  omega
theorem f2d_n {e t : Nat} (h1 : 1 ≤ e) (h2 : e ≤ 254) (ht : t < 8388608) : FP.f2d (bF e t) = bD (e + 896) (t * 536870912) := by
  have hd : FP.Core.decode FP.Core.b32 (bF e t).toNat = .fin false (8388608 + t) ((e : Int) - 150) := by rw [bF_nat h2 ht, dec_f h1 h2 ht]
  have hn : FP.Core.fIsNaN (bF e t) = false := by
    show decide (FP.Core.decode FP.Core.b32 (bF e t).toNat = .nan) = false
    rw [hd]
    exact decide_eq_false (fun z => by cases z)
  unfold FP.f2d
  rw [hn, if_neg (by decide)]
  show UInt64.ofNat (FP.Core.encode FP.Core.b64 (FP.Core.round FP.Core.b64 (FP.Core.decode FP.Core.b32 (bF e t).toNat))) = _
  rw [hd]
  have hr := rr_n (A := 8388608 + t) (B := 1) (c := 4503599627370496 + t * 536870912) (e0 := (e : Int) - 150) (l := 23) (x := 29) (y := 0) (by omega) (lead1 (a := 23) (by omega) (by omega)) (by omega) (by omega) (by omega) (by omega) (by omega) (by decide) (by omega)
  show UInt64.ofNat (FP.Core.encode FP.Core.b64 (FP.Core.roundRatio FP.Core.b64 false (8388608 + t) 1 ((e : Int) - 150))) = _
  rw [hr, show (23 : Int) + ((e : Int) - 150) - 52 = ((e + 896 : Nat) : Int) - 1075 by omega, enc_n (by omega)]
  rfl
theorem vf_f {e t : Nat} (h2 : e ≤ 254) (ht : t < 8388608) : vf_n32 (bF e t) := by
  unfold vf_n32
  rw [UInt32.le_iff_toNat_le, UInt32.toNat_and, bF_nat h2 ht]
  refine Nat.le_trans Nat.and_le_left ?_
  show e * 8388608 + t ≤ 2139095040
  omega
theorem dcmp_slf {x : UInt64} {s : Bool} {c : Nat} {q : Int} (h : FP.Core.decode FP.Core.b64 x.toNat = .fin s c q) : Op.cmpValue (FP.dcmp x x) .l = 0 := by
  rw [cmp_def, h]
  unfold FP.Core.order
  dsimp only
  rw [Int.compare_eq_eq.mpr rfl]
  rfl
theorem fcmp_slf {x : UInt32} {s : Bool} {c : Nat} {q : Int} (h : FP.Core.decode FP.Core.b32 x.toNat = .fin s c q) : Op.cmpValue (FP.fcmp x x) .l = 0 := by
  have e : FP.fcmp x x = FP.Core.order (FP.Core.decode FP.Core.b32 x.toNat) (FP.Core.decode FP.Core.b32 x.toNat) := rfl
  rw [e, h]
  unfold FP.Core.order
  dsimp only
  rw [Int.compare_eq_eq.mpr rfl]
  rfl
theorem dlb {x : UInt64} {s : Bool} {c : Nat} {q : Int} (h : FP.Core.decode FP.Core.b64 x.toNat = .fin s c q) : fJxe99ae_doubleToLongBits_ccdee x = some (rawL x) := by
  unfold fJxe99ae_doubleToLongBits_ccdee fJxe99ae_isNaN_b9ae7
  rw [if_pos (dcmp_slf h), z0, z_bz0, chk_t trivial]
  simp (disch := omega) only [z_bnd, if_true]
theorem fib {x : UInt32} {s : Bool} {c : Nat} {q : Int} (h : FP.Core.decode FP.Core.b32 x.toNat = .fin s c q) : fJxf58ca_floatToIntBits_5c35a x = some (rawI x) := by
  unfold fJxf58ca_floatToIntBits_5c35a fJxf58ca_isNaN_12338
  rw [if_pos (fcmp_slf h), z0, z_bz0, chk_t trivial]
  simp (disch := omega) only [z_bnd, if_true]
/-- both sides tell the same bits of a normal double, of a normal float -/
theorem dbits {e t : Nat} (h1 : 1 ≤ e) (h2 : e ≤ 2046) (ht : t < 4503599627370496) : ∃ r, fX5_bitsOf (bD e t) 1023 52 = some r ∧ fJxe99ae_doubleToLongBits_ccdee (bD e t) = some r := by
  refine ⟨oL (e * 2 ^ 52 + t), bits_n (b := 1023) (fb := 52) (E := e) (Or.inl rfl) ht (by omega) (by decide) (by omega) h1 (by omega), ?_⟩
  rw [dlb (x := bD e t) (by rw [bD_nat h2 ht, dec_n h1 h2 ht])]
  rfl
theorem fbits {e t : Nat} (h1 : 1 ≤ e) (h2 : e ≤ 254) (ht : t < 8388608) : ∃ r : Int32, fX5_bitsOf (FP.f2d (bF e t)) 127 23 = some r.toInt64 ∧ fJxf58ca_floatToIntBits_5c35a (bF e t) = some r ∧ vf_n64 (FP.f2d (bF e t)) ∧ vf_n32 (bF e t) := by
  rw [f2d_n h1 h2 ht]
  refine ⟨nI (e * 8388608 + t), ?_, ?_, vf_n (by omega) (by omega), vf_f h2 ht⟩
  · have hb := bits_n (b := 127) (fb := 23) (E := e) (e := e + 896) (t := t * 536870912) (T := t) (Or.inr rfl) (by omega) rfl (by decide) (by omega) h1 (by omega)
    have hL : (nI (e * 8388608 + t)).toInt64 = oL (e * 8388608 + t) := nI_l (by omega)
    rw [hL]
    exact hb
  · rw [fib (x := bF e t) (by rw [bF_nat h2 ht, dec_f h1 h2 ht])]
    rfl
def nr64 (x : UInt64) : Bool := decide (1 ≤ x.toNat / 4503599627370496 ∧ x.toNat / 4503599627370496 ≤ 2046)
def nr32 (x : UInt32) : Bool := decide (1 ≤ x.toNat / 8388608 ∧ x.toNat / 8388608 ≤ 254)
theorem nr64_ex {x : UInt64} (h : nr64 x = true) : ∃ e t, 1 ≤ e ∧ e ≤ 2046 ∧ t < 4503599627370496 ∧ x = bD e t := by
  have h := of_decide_eq_true h
  refine ⟨x.toNat / 4503599627370496, x.toNat % 4503599627370496, h.1, h.2, Nat.mod_lt _ (by decide), ?_⟩
  apply UInt64.toNat_inj.mp
  rw [bD_nat h.2 (Nat.mod_lt _ (by decide))]
  omega
theorem nr32_ex {x : UInt32} (h : nr32 x = true) : ∃ e t, 1 ≤ e ∧ e ≤ 254 ∧ t < 8388608 ∧ x = bF e t := by
  have h := of_decide_eq_true h
  refine ⟨x.toNat / 8388608, x.toNat % 8388608, h.1, h.2, Nat.mod_lt _ (by decide), ?_⟩
  apply UInt32.toNat_inj.mp
  rw [bF_nat h.2 (Nat.mod_lt _ (by decide))]
  omega
