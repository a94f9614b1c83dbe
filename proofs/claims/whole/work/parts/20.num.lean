/-! NUMBERS: the functions' pieces over nI -/
def nn : Int32 := -1
theorem z0 : (0 : Int32) = nI 0 := id rfl
theorem z1 : (1 : Int32) = nI 1 := id rfl
theorem z2 : (2 : Int32) = nI 2 := id rfl
theorem z3 : (3 : Int32) = nI 3 := id rfl
theorem z4 : (4 : Int32) = nI 4 := id rfl
theorem z5 : (5 : Int32) = nI 5 := id rfl
theorem z6 : (6 : Int32) = nI 6 := id rfl
theorem z7 : (7 : Int32) = nI 7 := id rfl
theorem z8 : (8 : Int32) = nI 8 := id rfl
theorem z9 : (9 : Int32) = nI 9 := id rfl
theorem z10 : (10 : Int32) = nI 10 := id rfl
theorem z11 : (11 : Int32) = nI 11 := id rfl
theorem z12 : (12 : Int32) = nI 12 := id rfl
theorem z13 : (13 : Int32) = nI 13 := id rfl
theorem z14 : (14 : Int32) = nI 14 := id rfl
theorem z15 : (15 : Int32) = nI 15 := id rfl
theorem z16 : (16 : Int32) = nI 16 := id rfl
theorem z17 : (17 : Int32) = nI 17 := id rfl
theorem z18 : (18 : Int32) = nI 18 := id rfl
theorem z19 : (19 : Int32) = nI 19 := id rfl
theorem z20 : (20 : Int32) = nI 20 := id rfl
theorem z23 : (23 : Int32) = nI 23 := id rfl
theorem z24 : (24 : Int32) = nI 24 := id rfl
theorem z28 : (28 : Int32) = nI 28 := id rfl
theorem z31 : (31 : Int32) = nI 31 := id rfl
theorem z32 : (32 : Int32) = nI 32 := id rfl
theorem z33 : (33 : Int32) = nI 33 := id rfl
theorem z45 : (45 : Int32) = nI 45 := id rfl
theorem z46 : (46 : Int32) = nI 46 := id rfl
theorem z47 : (47 : Int32) = nI 47 := id rfl
theorem z48 : (48 : Int32) = nI 48 := id rfl
theorem z52 : (52 : Int32) = nI 52 := id rfl
theorem z57 : (57 : Int32) = nI 57 := id rfl
theorem z60 : (60 : Int32) = nI 60 := id rfl
theorem z63 : (63 : Int32) = nI 63 := id rfl
theorem z65 : (65 : Int32) = nI 65 := id rfl
theorem z70 : (70 : Int32) = nI 70 := id rfl
theorem z80 : (80 : Int32) = nI 80 := id rfl
theorem z95 : (95 : Int32) = nI 95 := id rfl
theorem z100 : (100 : Int32) = nI 100 := id rfl
theorem z126 : (126 : Int32) = nI 126 := id rfl
theorem z127 : (127 : Int32) = nI 127 := id rfl
theorem z128 : (128 : Int32) = nI 128 := id rfl
theorem z200 : (200 : Int32) = nI 200 := id rfl
theorem z240 : (240 : Int32) = nI 240 := id rfl
theorem z255 : (255 : Int32) = nI 255 := id rfl
theorem z400 : (400 : Int32) = nI 400 := id rfl
theorem z480 : (480 : Int32) = nI 480 := id rfl
theorem z500 : (500 : Int32) = nI 500 := id rfl
theorem z840 : (840 : Int32) = nI 840 := id rfl
theorem z1023 : (1023 : Int32) = nI 1023 := id rfl
theorem z2000 : (2000 : Int32) = nI 2000 := id rfl
theorem z99999 : (99999 : Int32) = nI 99999 := id rfl
theorem z1073741824 : (1073741824 : Int32) = nI 1073741824 := id rfl
theorem z_nn : -(nI 1) = nn := id rfl
theorem z_nn2 : (-1 : Int32) = nn := id rfl
theorem z_eq {a b : Nat} (ha : a < 4294967296) (hb : b < 4294967296) : (nI a = nI b) = (a = b) := by
  apply propext
  constructor
  · intro h
    have h1 : (nI a).toBitVec.toNat = (nI b).toBitVec.toNat := by rw [h]
    rw [pk_tn ha, pk_tn hb] at h1
    exact h1
  · intro h; rw [h]
theorem z_le {a b : Nat} (ha : a < 2147483648) (hb : b < 2147483648) : (nI a ≤ nI b) = (a ≤ b) := propext (nI_leI ha hb)
theorem z_lt {a b : Nat} (ha : a < 2147483648) (hb : b < 2147483648) : (nI a < nI b) = (a < b) := propext (nI_ltI ha hb)
theorem z_nn_lt {a : Nat} (ha : a < 2147483648) : (nI a < nn) = False := by
  apply propext
  rw [Int32.lt_iff_toInt_lt, nI_toInt ha, show nn.toInt = -1 by decide]
  exact ⟨fun h => by omega, fun h => h.elim⟩
theorem z_nn_le {a : Nat} (ha : a < 2147483648) : (nI a ≤ nn) = False := by
  apply propext
  rw [Int32.le_iff_toInt_le, nI_toInt ha, show nn.toInt = -1 by decide]
  exact ⟨fun h => by omega, fun h => h.elim⟩
theorem z_nn_ge {a : Nat} (ha : a < 2147483648) : (nn ≤ nI a) = True := by
  apply propext
  rw [Int32.le_iff_toInt_le, nI_toInt ha, show nn.toInt = -1 by decide]
  exact ⟨fun _ => trivial, fun _ => by omega⟩
theorem z_nn_gt {a : Nat} (ha : a < 2147483648) : (nn < nI a) = True := by
  apply propext
  rw [Int32.lt_iff_toInt_lt, nI_toInt ha, show nn.toInt = -1 by decide]
  exact ⟨fun _ => trivial, fun _ => by omega⟩
theorem z_nn_eq {a : Nat} (ha : a < 2147483648) : (nI a = nn) = False := by
  apply propext
  rw [← Int32.toInt_inj, nI_toInt ha, show nn.toInt = -1 by decide]
  exact ⟨fun h => by omega, fun h => h.elim⟩
theorem z_nn_eq2 {a : Nat} (ha : a < 2147483648) : (nn = nI a) = False := by
  apply propext
  rw [← Int32.toInt_inj, nI_toInt ha, show nn.toInt = -1 by decide]
  exact ⟨fun h => by omega, fun h => h.elim⟩
theorem z_add (a b : Nat) : nI a + nI b = nI (a + b) := nI_add a b
theorem z_sub {a b : Nat} (h : b ≤ a) : nI a - nI b = nI (a - b) := pk_sub h
theorem z_mul (a b : Nat) : nI a * nI b = nI (a * b) := pk_mul a b
theorem z_div {a d : Nat} (ha : a < 2147483648) (h0 : 0 < d) (hd : d < 2147483648) : nI a / nI d = nI (a / d) := pk_div ha h0 hd
theorem z_rem {a d : Nat} (ha : a < 2147483648) (h0 : 0 < d) (hd : d < 2147483648) : irm (nI a) (nI d) = nI (a % d) := pk_rem ha h0 hd
theorem z_cl {a : Nat} (ha : a < 2147483648) : (nI a).toNatClampNeg = a := nI_clamp ha
theorem z_in {a N : Nat} (ha : a < N) (hN : N < 2147483648) : vp_in (nI a) N = True := propext ⟨fun _ => trivial, fun _ => vp_in_nI ha hN⟩
theorem z_chk {α : Type} {k : Option α} : chk True k = k := chk_t trivial
theorem z_chkp {α : Type} {b : Prop} {k : Option α} (hb : b) : chk b k = k := chk_t hb
theorem z_bnd {α β : Type} (a : α) (k : α → Option β) : bnd (some a) k = k a := id rfl
theorem z_bn2 {α β γ : Type} (a : α) (b : β) (k : α → β → Option γ) : bn2 (some (a, b)) k = k a b := id rfl
theorem z_wth {α β : Type} (a : α) (k : α → β) : wth a k = k a := id rfl
theorem z_bxr {α β : Type} (a : α) (x : String → Option β) (k : α → Option β) : bx (some (.inr a)) x k = k a := id rfl
theorem z_bxl {α β : Type} (a : String) (x : String → Option β) (k : α → Option β) : bx (some (.inl a)) x k = x a := id rfl
theorem z_bx2r {α β γ : Type} (a : α) (m : γ) (x : String → γ → Option β) (k : α → γ → Option β) : bx2 (some (.inr a, m)) x k = k a m := id rfl
theorem z_bx2l {α β γ : Type} (a : String) (m : γ) (x : String → γ → Option β) (k : α → γ → Option β) : bx2 (some (.inl a, m)) x k = x a m := id rfl
theorem z_bz0 : bz (nI 0) = True := propext ⟨fun _ => trivial, fun _ => ⟨rfl, rfl⟩⟩
theorem z_bz1 : bz (nI 1) = True := propext ⟨fun _ => trivial, fun _ => ⟨rfl, rfl⟩⟩
theorem z_mx {a b : Nat} (ha : a < 2147483648) (hb : b < 2147483648) : mx (nI a) (nI b) = nI (max a b) := by
  unfold mx
  simp only [z_lt ha hb]
  by_cases h : a < b
  · rw [if_pos h, Nat.max_eq_right (by omega)]
  · rw [if_neg h, Nat.max_eq_left (by omega)]
theorem z_mn {a b : Nat} (ha : a < 2147483648) (hb : b < 2147483648) : mn (nI a) (nI b) = nI (min a b) := by
  unfold mn
  simp only [z_lt hb ha]
  by_cases h : b < a
  · rw [if_pos h, Nat.min_eq_right (by omega)]
  · rw [if_neg h, Nat.min_eq_left (by omega)]
theorem z_mxm {a b : Nat} (h : a < b) (hb : b < 2147483648) : mx (nI 0) (nI a - nI b) = nI 0 := by
  unfold mx
  rw [if_neg]
  rw [Int32.lt_iff_toInt_lt, nI_toInt (by omega)]
  by_cases hb' : b < 1073741824
  · rw [pk_sub_toInt (by omega) (by omega)]; omega
  · rw [Int32.toInt_sub, nI_toInt (by omega), nI_toInt (by omega), Int.bmod_eq_of_le (by omega) (by omega)]; omega
theorem z_if {α : Type} {c : Prop} [h : Decidable c] {x y : α} (hc : c) : (if c then x else y) = x := if_pos hc
theorem z_ifn {α : Type} {c : Prop} [h : Decidable c] {x y : α} (hc : ¬ c) : (if c then x else y) = y := if_neg hc
theorem zs_l : ∀ n, n < 32 → ((nI n &&& nI 31).toBitVec.smod 32).toNat = n := by decide +kernel
theorem z_shr {w k : Nat} (hw : w < 2147483648) (hk : k < 32) : nI w >>> (nI k &&& nI 31) = nI (w / 2 ^ k) := pk_shrN hw _ k (zs_l k hk)
theorem z_shl {k : Nat} (hk : k < 31) : nI 1 <<< (nI k &&& nI 31) = nI (2 ^ k) := by
  have h := pk_shlN (n := 1) (nI k &&& nI 31) k (zs_l k (by omega)) (by rw [Nat.one_mul]; exact Nat.pow_lt_pow_right (by decide) (by omega))
  rw [h, Nat.one_mul]
theorem z_and1 {w : Nat} (hw : w < 4294967296) : nI w &&& nI 1 = nI (w % 2) := pk_andN (m := 1) hw 1 (by decide)
def tbq (w k : Nat) : Nat := w / 2 ^ k % 2
theorem tb_lt (w k : Nat) : tbq w k < 2 := Nat.mod_lt _ (by decide)
theorem z_bit {w k : Nat} (hw : w < 2147483648) (hk : k < 32) : (nI w >>> (nI k &&& nI 31)) &&& nI 1 = nI (tbq w k) := by
  have h1 : w / 2 ^ k ≤ w := Nat.div_le_self _ _
  rw [z_shr hw hk, z_and1 (by omega)]; rfl
theorem fbit {w k : Nat} (hw : w < 2147483648) (hk : k < 32) : fX5_bit (nI w) (nI k) = some (nI (tbq w k)) := congrArg some (z_bit hw hk)
theorem zb_ext {x y : Int32} (h : ∀ i, i < 32 → x.toBitVec.getLsbD i = y.toBitVec.getLsbD i) : x = y := Int32.toBitVec_inj.mp (BitVec.eq_of_getLsbD_eq (fun i hi => h i hi))
theorem zb_nI (n i : Nat) : (nI n).toBitVec.getLsbD i = (decide (i < 32) && n.testBit i) := by
  show (BitVec.ofNat 32 n).getLsbD i = _
  rw [BitVec.getLsbD_ofNat]
theorem z_or (a b : Nat) : nI a ||| nI b = nI (a ||| b) := by
  apply zb_ext
  intro i hi
  rw [Int32.toBitVec_or, BitVec.getLsbD_or, zb_nI, zb_nI, zb_nI, Nat.testBit_or]
  simp [hi]
theorem z_and (a b : Nat) : nI a &&& nI b = nI (a &&& b) := by
  apply zb_ext
  intro i hi
  rw [Int32.toBitVec_and, BitVec.getLsbD_and, zb_nI, zb_nI, zb_nI, Nat.testBit_and]
  simp [hi]
theorem z_xor (a b : Nat) : nI a ^^^ nI b = nI (a ^^^ b) := by
  apply zb_ext
  intro i hi
  rw [Int32.toBitVec_xor, BitVec.getLsbD_xor, zb_nI, zb_nI, zb_nI, Nat.testBit_xor]
  simp [hi]
theorem zb_nn : ∀ i, i < 32 → nn.toBitVec.getLsbD i = true := by decide +kernel
theorem tb8 {x i : Nat} (hx : x < 256) (hi : 8 ≤ i) : x.testBit i = false := Nat.testBit_lt_two_pow (Nat.lt_of_lt_of_le hx (Nat.pow_le_pow_right (n := 2) (by decide) hi))
theorem tb255 (i : Nat) : (255 : Nat).testBit i = decide (i < 8) := Nat.testBit_two_pow_sub_one 8 i
/-- x without the bits of f -/
def wo (x f : Nat) : Nat := x &&& (255 ^^^ f)
theorem wo_tb {x : Nat} (hx : x < 256) (f i : Nat) : (wo x f).testBit i = (x.testBit i && !f.testBit i) := by
  unfold wo
  rw [Nat.testBit_and, Nat.testBit_xor, tb255]
  by_cases h : i < 8
  · rw [decide_eq_true h, Bool.true_xor]
  · rw [tb8 hx (by omega)]; rfl
theorem wo_lt {x f : Nat} (hx : x < 256) : wo x f < 256 := Nat.lt_of_le_of_lt Nat.and_le_left hx
theorem z_wo {x f : Nat} (hx : x < 256) : nI x &&& (nI f ^^^ nn) = nI (wo x f) := by
  apply zb_ext
  intro i hi
  rw [Int32.toBitVec_and, Int32.toBitVec_xor, BitVec.getLsbD_and, BitVec.getLsbD_xor, zb_nI, zb_nI, zb_nI, zb_nn i hi, wo_tb hx]
  simp [hi]
theorem z_wo2 {x f g : Nat} (hx : x < 256) : (nI x &&& (nI f ^^^ nn)) &&& (nI g ^^^ nn) = nI (wo x (f ||| g)) := by
  rw [z_wo hx, z_wo (wo_lt hx)]
  congr 1
  apply Nat.eq_of_testBit_eq
  intro i
  rw [wo_tb (wo_lt hx), wo_tb hx, wo_tb hx, Nat.testBit_or]
  cases x.testBit i <;> cases f.testBit i <;> cases g.testBit i <;> rfl
theorem z_wow {x f g : Nat} (hx : x < 256) : nI (wo x f) &&& (nI g ^^^ nn) = nI (wo x (f ||| g)) := by
  rw [← z_wo hx, z_wo2 hx]
theorem tb_bit (w k : Nat) : tbq w k = (w.testBit k).toNat := by
  unfold tbq
  rw [Nat.testBit_eq_decide_div_mod_eq]
  rcases Nat.mod_two_eq_zero_or_one (w / 2 ^ k) with h | h <;> rw [h] <;> rfl
theorem z_tb1 (w k : Nat) : (nI (tbq w k) = nI 1) = (tbq w k = 1) := z_eq (Nat.lt_trans (tb_lt w k) (by decide)) (by decide)
theorem z_tb0 (w k : Nat) : (nI (tbq w k) = nI 0) = (tbq w k = 0) := z_eq (Nat.lt_trans (tb_lt w k) (by decide)) (by decide)
def pc (w : Nat) : Nat := tbq w 0 + tbq w 1 + tbq w 2 + tbq w 3 + tbq w 4 + tbq w 5 + tbq w 6 + tbq w 7
theorem pc_le (w : Nat) : pc w ≤ 8 := by
  have h := tb_lt w
  have h0 := h 0; have h1 := h 1; have h2 := h 2; have h3 := h 3; have h4 := h 4; have h5 := h 5; have h6 := h 6; have h7 := h 7
  unfold pc; omega
theorem fones_all : ∀ w, w < 256 → fX6_ones (nI w) = some (nI (pc w)) := by decide +kernel
theorem fpop_all : ∀ w, w < 256 → fJ6_bitCount_0f7a4 (nI w) = some (nI (pc w)) := by decide +kernel
theorem pc_0_all : ∀ w, w < 256 → (pc w = 0 ↔ w = 0) := by decide +kernel
theorem pc_split {x : Nat} (hx : x < 256) (f : Nat) : pc (x &&& f) + pc (wo x f) = pc x := by
  have h : ∀ k, tbq (x &&& f) k + tbq (wo x f) k = tbq x k := by
    intro k
    rw [tb_bit, tb_bit, tb_bit, wo_tb hx, Nat.testBit_and]
    cases x.testBit k <;> cases f.testBit k <;> rfl
  have h0 := h 0; have h1 := h 1; have h2 := h 2; have h3 := h 3; have h4 := h 4; have h5 := h 5; have h6 := h 6; have h7 := h 7
  unfold pc; omega
/-- loops -/
theorem loop_up {R : Type} (F : Nat → Nat → Option R) (fin : Option R) (N : Nat) (hs : ∀ n i, i < N → F (n + 1) i = F n (i + 1)) (he : ∀ n, F (n + 1) N = fin) : ∀ n i, i ≤ N → N < n + i → F n i = fin := by
  intro n
  induction n with
  | zero => intro i h1 h2; omega
  | succ n ih =>
    intro i h1 h2
    by_cases h : i = N
    · rw [h]; exact he n
    · rw [hs n i (by omega)]; exact ih (i + 1) (by omega) (by omega)
theorem loop_ex {S R : Type} (F : Nat → Nat → S → Option R) (I : Nat → S → Prop) (Q : Option R → Prop) (N : Nat) (hs : ∀ n i s, i < N → I i s → ∃ s1, I (i + 1) s1 ∧ F (n + 1) i s = F n (i + 1) s1) (he : ∀ n s, I N s → Q (F (n + 1) N s)) : ∀ n i s, i ≤ N → N < n + i → I i s → Q (F n i s) := by
  intro n
  induction n with
  | zero => intro i s h1 h2; omega
  | succ n ih =>
    intro i s h1 h2 hI
    by_cases h : i = N
    · subst h; exact he n s hI
    · obtain ⟨s1, h3, h4⟩ := hs n i s (by omega) hI
      rw [h4]; exact ih (i + 1) s1 (by omega) (by omega) h3
