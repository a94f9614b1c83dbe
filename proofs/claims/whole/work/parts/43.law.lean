/-! THE LAW'S LOOP answers true, whatever the script is -/
theorem lgc_self (x : Int64) : lg_cmp x x = 0 := (lg_cmp_eq x x).mpr rfl
theorem law_ok {o : Option (Int32 × gM)} {g : gM → Option (Int32 × gM)} {K : gM → Option Int32} (h : Okq o g) (hK : ∀ m2, HIq m2 → K m2 = some (1 : Int32)) : bn2 o (fun r5 m6 => bn2 (g m6) (fun r10 m11 => bnd (fX6_thrown m11) (fun r13 => if r13 = r5 then (if r5 = 0 then (if (lg_cmp (gl m11 34 0) r10.toInt64) = 0 then (K m11) else (some (0 : Int32))) else (K m11)) else (some (0 : Int32))))) = some (1 : Int32) := by
  obtain ⟨k, m1, b, m2, e1, e2, e3, e4, e5⟩ := h
  rw [e1]
  simp only [z_bn2, e2, fX6_thrown, z_bnd]
  show (if gi m2 21 0 0 = k then (if k = 0 then (if (lg_cmp (gl m2 34 0) b.toInt64) = 0 then (K m2) else (some (0 : Int32))) else (K m2)) else (some (0 : Int32))) = some (1 : Int32)
  rw [if_pos e3]
  by_cases c : k = 0
  · rw [if_pos c, e4 c, if_pos (lgc_self _)]
    exact hK m2 e5
  · rw [if_neg c]
    exact hK m2 e5
theorem law_two {o : Option (Int32 × gM)} {g : gM → Option (Int32 × gM)} {K : gM → Option Int32} (h : ∃ r m1 m2, o = some (r, m1) ∧ g m1 = some (r, m2) ∧ HIq m2) (hK : ∀ m2, HIq m2 → K m2 = some (1 : Int32)) : bn2 o (fun r5 m6 => bn2 (g m6) (fun r10 m11 => if r5 = r10 then (K m11) else (some (0 : Int32)))) = some (1 : Int32) := by
  obtain ⟨r, m1, m2, e1, e2, e5⟩ := h
  rw [e1]
  simp only [z_bn2, e2, if_true]
  exact hK m2 e5
theorem law_one {m : gM} {o : Option Int32} {g : gM → Option (Int32 × gM)} {K : gM → Option Int32} (h : ∃ r m2, o = some r ∧ g m = some (r, m2) ∧ HIq m2) (hK : ∀ m2, HIq m2 → K m2 = some (1 : Int32)) : bnd o (fun r5 => bn2 (g m) (fun r10 m11 => if r5 = r10 then (K m11) else (some (0 : Int32)))) = some (1 : Int32) := by
  obtain ⟨r, m2, e1, e2, e5⟩ := h
  rw [e1, e2]
  show (if r = r then (K m2) else (some (0 : Int32))) = some (1 : Int32)
  rw [if_pos rfl]
  exact hK m2 e5
theorem law_share {m : gM} {K : gM → Option Int32} (h : HIq m) (hK : ∀ m2, HIq m2 → K m2 = some (1 : Int32)) : bnd (fX5_litShare m) (fun r379 => bn2 (fX6_litShare m) (fun r382 m383 => if (Op.cmpValue (FP.dcmp r379 r382) .l) = 0 then (K m383) else (if (Op.cmpValue (FP.dcmp r379 r379) .l) = 0 then (some (0 : Int32)) else (if (Op.cmpValue (FP.dcmp r382 r382) .l) = 0 then (some (0 : Int32)) else (K m383))))) = some (1 : Int32) := by
  obtain ⟨r, m2, e1, e2, e5⟩ := op_share h
  rw [e1, e2]
  show (if (Op.cmpValue (FP.dcmp r r) .l) = 0 then (K m2) else (if (Op.cmpValue (FP.dcmp r r) .l) = 0 then (some (0 : Int32)) else (if (Op.cmpValue (FP.dcmp r r) .l) = 0 then (some (0 : Int32)) else (K m2)))) = some (1 : Int32)
  by_cases c : Op.cmpValue (FP.dcmp r r) .l = 0
  · rw [if_pos c]
    exact hK m2 e5
  · rw [if_neg c, if_neg c, if_neg c]
    exact hK m2 e5
theorem law_bright {m : gM} {K : gM → Option Int32} (h : HIq m) (hK : ∀ m2, HIq m2 → K m2 = some (1 : Int32)) : bn2 (fX5_meanBrightness m) (fun r389 m390 => chk (vf_n64 (FP.f2d r389)) (bn2 (fX6_meanBrightness m390) (fun r393 m394 => chk (vf_n64 (FP.f2d r393)) (if (Op.cmpValue (FP.dcmp (FP.f2d r389) (FP.f2d r393)) .l) = 0 then (K m394) else (if (Op.cmpValue (FP.dcmp (FP.f2d r389) (FP.f2d r389)) .l) = 0 then (some (0 : Int32)) else (if (Op.cmpValue (FP.dcmp (FP.f2d r393) (FP.f2d r393)) .l) = 0 then (some (0 : Int32)) else (K m394))))))) = some (1 : Int32) := by
  obtain ⟨r, m1, m2, e1, e2, e3, e5⟩ := op_bright h
  rw [e1]
  show chk (vf_n64 (FP.f2d r)) (bn2 (fX6_meanBrightness m1) _) = _
  rw [chk_t e3, e2]
  show chk (vf_n64 (FP.f2d r)) (if (Op.cmpValue (FP.dcmp (FP.f2d r) (FP.f2d r)) .l) = 0 then (K m2) else (if (Op.cmpValue (FP.dcmp (FP.f2d r) (FP.f2d r)) .l) = 0 then (some (0 : Int32)) else (if (Op.cmpValue (FP.dcmp (FP.f2d r) (FP.f2d r)) .l) = 0 then (some (0 : Int32)) else (K m2)))) = some (1 : Int32)
  rw [chk_t e3]
  by_cases c : Op.cmpValue (FP.dcmp (FP.f2d r) (FP.f2d r)) .l = 0
  · rw [if_pos c]
    exact hK m2 e5
  · rw [if_neg c, if_neg c, if_neg c]
    exact hK m2 e5
theorem law_digest {m : gM} {K : gM → Option Int32} (h : HIq m) (hK : ∀ m2, HIq m2 → K m2 = some (1 : Int32)) : bn2 (fX5_digest m) (fun r401 m402 => bn2 (fX6_digest m402) (fun r404 m405 => if (lg_cmp r401 r404) = 0 then (K m405) else (some (0 : Int32)))) = some (1 : Int32) := by
  obtain ⟨r, m1, m2, e1, e2, e5⟩ := op_digest h
  rw [e1]
  simp only [z_bn2, e2]
  show (if (lg_cmp r r) = 0 then (K m2) else (some (0 : Int32))) = some (1 : Int32)
  rw [if_pos (lgc_self _)]
  exact hK m2 e5
theorem law_end (L i : Nat) (hL : L ≤ 2048) (hi : i ≤ 4096) : ((Int32.ofNat L) - 4 < nI i) = (L < i + 4) := by
  show ((nI L) - nI 4 < nI i) = _
  rw [Int32.lt_iff_toInt_lt, pk_sub_toInt (by omega) (by omega), nI_toInt (by omega)]
  apply propext
  omega
set_option maxHeartbeats 4000000 in
theorem law_step (xs : Nat → Int32) (L : Nat) (hL : L ≤ 2048) (n i : Nat) (m : gM) (hi : i + 4 ≤ L) (hI : HIq m) (ih : ∀ m2, HIq m2 → lL_law_23 xs L n (nI (i + 4)) m2 = some (1 : Int32)) : lL_law_23 xs L (n + 1) (nI i) m = some (1 : Int32) := by
  have hv0 : vp_in (nI i) L := vp_in_nI (by omega) (by omega)
  have hv1 : vp_in (nI i + 1) L := by rw [z1, z_add]; exact vp_in_nI (by omega) (by omega)
  have hv2 : vp_in (nI i + 2) L := by rw [z2, z_add]; exact vp_in_nI (by omega) (by omega)
  have hv3 : vp_in (nI i + 3) L := by rw [z3, z_add]; exact vp_in_nI (by omega) (by omega)
  have hK : ∀ m2, HIq m2 → lL_law_23 xs L n (nI i + 4) m2 = some (1 : Int32) := by rw [z4, z_add]; exact ih
  rw [lL_law_23_s, if_neg (show ¬ (Int32.ofNat L) - 4 < nI i by rw [law_end L i hL (by omega)]; omega), chk_t hv0]
  generalize hop : (xs (nI i).toNatClampNeg) &&& 31 = op
  by_cases c0 : op = 0
  · rw [if_pos c0]
    simp only [chk_t hv1, chk_t hv2, chk_t hv3]
    exact law_ok (op_show hI) hK
  rw [if_neg c0]
  by_cases c1 : op = 1
  · rw [if_pos c1]
    simp only [chk_t hv1, chk_t hv2, chk_t hv3]
    exact law_ok (op_dot hI) hK
  rw [if_neg c1]
  by_cases c2 : op = 2
  · rw [if_pos c2]
    simp only [chk_t hv1, chk_t hv2, chk_t hv3]
    exact law_ok (op_burn hI) hK
  rw [if_neg c2]
  by_cases c3 : op = 3
  · rw [if_pos c3]
    simp only [chk_t hv1, chk_t hv2, chk_t hv3]
    exact law_ok (op_cut hI) hK
  rw [if_neg c3]
  by_cases c4 : op = 4
  · rw [if_pos c4]
    simp only [chk_t hv1, chk_t hv2, chk_t hv3]
    exact law_ok (op_time hI) hK
  rw [if_neg c4]
  by_cases c5 : op = 5
  · rw [if_pos c5]
    simp only [chk_t hv1, chk_t hv2, chk_t hv3]
    exact law_ok (op_balance hI) hK
  rw [if_neg c5]
  by_cases c6 : op = 6
  · rw [if_pos c6]
    simp only [chk_t hv1, chk_t hv2, chk_t hv3]
    exact law_ok (op_set hI) hK
  rw [if_neg c6]
  by_cases c7 : op = 7
  · rw [if_pos c7]
    simp only [chk_t hv1, chk_t hv2, chk_t hv3]
    exact law_ok (op_pass hI) hK
  rw [if_neg c7]
  by_cases c8 : op = 8
  · rw [if_pos c8]
    simp only [chk_t hv1, chk_t hv2, chk_t hv3]
    exact law_ok (op_append hI) hK
  rw [if_neg c8]
  by_cases c9 : op = 9
  · rw [if_pos c9]
    exact law_two (op_clear hI) hK
  rw [if_neg c9]
  by_cases c10 : op = 10
  · rw [if_pos c10]
    exact law_one (op_first hI) hK
  rw [if_neg c10]
  by_cases c11 : op = 11
  · rw [if_pos c11]
    exact law_ok (op_load hI) hK
  rw [if_neg c11]
  by_cases c12 : op = 12
  · rw [if_pos c12]
    exact law_two (op_write hI) hK
  rw [if_neg c12]
  by_cases c13 : op = 13
  · rw [if_pos c13]
    simp only [chk_t hv1, chk_t hv2, chk_t hv3]
    exact law_ok (op_keep hI) hK
  rw [if_neg c13]
  by_cases c14 : op = 14
  · rw [if_pos c14]
    simp only [chk_t hv1, chk_t hv2, chk_t hv3]
    exact law_ok (op_goBack hI) hK
  rw [if_neg c14]
  by_cases c15 : op = 15
  · rw [if_pos c15]
    exact law_ok (op_undo hI) hK
  rw [if_neg c15]
  by_cases c16 : op = 16
  · rw [if_pos c16]
    simp only [chk_t hv1, chk_t hv2, chk_t hv3]
    exact law_ok (op_slotOf hI) hK
  rw [if_neg c16]
  by_cases c17 : op = 17
  · rw [if_pos c17]
    simp only [chk_t hv1, chk_t hv2, chk_t hv3]
    exact law_ok (op_segmentOf hI) hK
  rw [if_neg c17]
  by_cases c18 : op = 18
  · rw [if_pos c18]
    simp only [chk_t hv1, chk_t hv2, chk_t hv3]
    exact law_ok (op_count hI) hK
  rw [if_neg c18]
  by_cases c19 : op = 19
  · rw [if_pos c19]
    simp only [chk_t hv1, chk_t hv2, chk_t hv3]
    exact law_ok (op_setting hI) hK
  rw [if_neg c19]
  by_cases c20 : op = 20
  · rw [if_pos c20]
    simp only [chk_t hv1, chk_t hv2, chk_t hv3]
    exact law_ok (op_couldBe hI) hK
  rw [if_neg c20]
  by_cases c21 : op = 21
  · rw [if_pos c21]
    simp only [chk_t hv1, chk_t hv2, chk_t hv3]
    exact law_ok (op_ifTimed hI) hK
  rw [if_neg c21]
  by_cases c22 : op = 22
  · rw [if_pos c22]
    simp only [chk_t hv1, chk_t hv2, chk_t hv3]
    exact law_ok (op_ifBalanced hI) hK
  rw [if_neg c22]
  by_cases c23 : op = 23
  · rw [if_pos c23]
    simp only [chk_t hv1, chk_t hv2, chk_t hv3]
    exact law_ok (op_safest hI) hK
  rw [if_neg c23]
  by_cases c24 : op = 24
  · rw [if_pos c24]
    exact law_share hI hK
  rw [if_neg c24]
  by_cases c25 : op = 25
  · rw [if_pos c25]
    exact law_bright hI hK
  rw [if_neg c25]
  by_cases c26 : op = 26
  · rw [if_pos c26]
    exact law_digest hI hK
  rw [if_neg c26]
  exact hK m hI
theorem law_all (xs : Nat → Int32) (L : Nat) (hL : L ≤ 2048) : ∀ q i n m, HIq m → i ≤ 4096 → L < i + 4 * q + 4 → q < n → lL_law_23 xs L n (nI i) m = some (1 : Int32) := by
  intro q
  induction q with
  | zero =>
    intro i n m hI hi hq hn
    obtain ⟨n2, rfl⟩ : ∃ n2, n = n2 + 1 := ⟨n - 1, by omega⟩
    rw [lL_law_23_s, if_pos (show (Int32.ofNat L) - 4 < nI i by rw [law_end L i hL hi]; omega)]
  | succ q ih =>
    intro i n m hI hi hq hn
    obtain ⟨n2, rfl⟩ : ∃ n2, n = n2 + 1 := ⟨n - 1, by omega⟩
    by_cases c : i + 4 ≤ L
    · exact law_step xs L hL n2 i m c hI (fun m2 h2 => ih (i + 4) n2 m2 h2 (by omega) (by omega) (by omega))
    · rw [lL_law_23_s, if_pos (show (Int32.ofNat L) - 4 < nI i by rw [law_end L i hL hi]; omega)]
/-- the first state -/
def AIn : Nat → Nat := fun j => if j = 0 then 1 else if j = 1 then 840 else if j = 2 then 4 else if j = 3 then 10 else if 8 ≤ j ∧ j < 32 ∧ j % 4 = 0 then 17 else if 8 ≤ j ∧ j < 32 ∧ j % 4 = 2 then 2 else 0
theorem AI_CS : CS 0 AIn mmI := by
  refine ⟨?_, ?_, ?_, ?_, ?_, ?_, ?_, ?_, ?_, ?_⟩ <;> decide +kernel
theorem AI_RM : RMq AIn mmI := by
  show ∀ i, i < 80 → gi mmI 22 0 i = nI (AIn i)
  decide +kernel
theorem AI_WF : WF AIn := by
  refine ⟨?_, ?_, ?_, ?_, ?_, ?_, ?_, ?_, ?_, ?_, ?_, ?_, ?_, ?_, ?_, ?_⟩ <;> decide +kernel
theorem HI_first : HIq mmI := by
  refine ⟨AIn, 0, 0, fun _ => AIn, fun _ => AIn, fun _ => 0, fun _ => 0, 0, ⟨AI_WF, Or.inl rfl, by decide, by decide, fun j hj => absurd hj (Nat.not_lt_zero j), fun i hi => ⟨Nat.zero_le _, fun z => absurd z (show ¬ (0 : Nat) = 1 by decide)⟩, by decide, fun i hi => absurd hi (Nat.not_lt_zero i)⟩, ⟨AI_CS, fun i hi => Or.inl rfl, ⟨rfl, rfl, fun j hj => absurd hj (Nat.not_lt_zero j)⟩, ⟨fun i hi => rfl, fun i hi z => absurd z (show ¬ (0 : Nat) = 1 by decide)⟩, rfl, fun i hi => absurd hi (Nat.not_lt_zero i)⟩, AI_RM, ⟨rfl, fun j k hj => absurd hj (Nat.not_lt_zero j)⟩, ⟨fun i hi => rfl, fun i k hi z => absurd z (show ¬ (0 : Nat) = 1 by decide)⟩, rfl, fun i hi => absurd hi (Nat.not_lt_zero i)⟩
theorem pure_law (xs : Nat → Int32) (L : Nat) (hL : L ≤ 2048) : lL_law_23 xs L FU 0 mmI = some (1 : Int32) := law_all xs L hL 512 0 FU mmI HI_first (by decide) (by omega) (by decide)
