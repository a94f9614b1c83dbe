/-! WHAT HOLDS BETWEEN THE CALLS: of the object's cells, of the reference's, of the numbers behind both -/
def IC3 (Sn : Nat → Nat → Nat) (K : Nat → Nat) (m : gM) : Prop := (∀ i, i < 2 → gi m 19 0 i = nI (K i)) ∧ ∀ i, i < 2 → K i = 1 → CS (2 + i) (Sn i) m
def IC4 (B : Nat → Nat) (L : Nat) (m : gM) : Prop := gi m 16 0 1 = nI L ∧ ∀ i, i < L → gi m 17 0 i = nI (B i)
def IR3 (Sn : Nat → Nat → Nat) (K : Nat → Nat) (m : gM) : Prop := (∀ i, i < 2 → gi m 25 0 i = nI (K i)) ∧ ∀ i k, i < 2 → K i = 1 → k < 80 → gi m 24 0 (80 * i + k) = nI (Sn i k)
def IR4 (B : Nat → Nat) (L : Nat) (m : gM) : Prop := gi m 21 0 7 = nI L ∧ ∀ i, i < L → gi m 26 0 i = nI (B i)
def ICq (A : Nat → Nat) (n p : Nat) (Sv Sn : Nat → Nat → Nat) (K B : Nat → Nat) (L : Nat) (m : gM) : Prop := CS 0 A m ∧ ECq 0 A m ∧ IC2 n p Sv m ∧ IC3 Sn K m ∧ IC4 B L m
def IR (A : Nat → Nat) (n : Nat) (Sv Sn : Nat → Nat → Nat) (K B : Nat → Nat) (L : Nat) (m : gM) : Prop := RMq A m ∧ IR2 n Sv m ∧ IR3 Sn K m ∧ IR4 B L m
def GVq (A : Nat → Nat) (n p : Nat) (Sv Sn : Nat → Nat → Nat) (K B : Nat → Nat) (L : Nat) : Prop := WF A ∧ WP A ∧ n ≤ 6 ∧ p < 6 ∧ (∀ j, j < n → WF (Sv j) ∧ WP (Sv j)) ∧ (∀ i, i < 2 → K i ≤ 1 ∧ (K i = 1 → WF (Sn i) ∧ WP (Sn i))) ∧ L ≤ 12 ∧ ∀ i, i < L → 33 ≤ B i ∧ B i ≤ 126
def HIq (m : gM) : Prop := ∃ A n p Sv Sn K B L, GVq A n p Sv Sn K B L ∧ ICq A n p Sv Sn K B L m ∧ IR A n Sv Sn K B L m
def FCq (m m1 : gM) : Prop := ∀ c t i, 21 ≤ c → gi m1 c t i = gi m c t i
def FRe (m m1 : gM) : Prop := (∀ c t i, c ≤ 20 → gi m1 c t i = gi m c t i) ∧ gl m1 34 0 = gl m 34 0
theorem FCq.rf {m : gM} : FCq m m := fun _ _ _ _ => rfl
theorem FCq.tr {m m1 m2 : gM} (h : FCq m m1) (h2 : FCq m1 m2) : FCq m m2 := fun c t i hc => (h2 c t i hc).trans (h c t i hc)
theorem FRe.rf {m : gM} : FRe m m := ⟨fun _ _ _ _ => rfl, rfl⟩
theorem FRe.tr {m m1 m2 : gM} (h : FRe m m1) (h2 : FRe m1 m2) : FRe m m2 := ⟨fun c t i hc => (h2.1 c t i hc).trans (h.1 c t i hc), h2.2.trans h.2⟩
theorem Frq.fc {P : Nat → Nat → Bool} {m m1 : gM} (h : Frq P m m1) (hp : ∀ c t, 21 ≤ c → P c t = false) : FCq m m1 := fun c t i hc => h.1 c t i (hp c t hc)
theorem Frq.fre {P : Nat → Nat → Bool} {m m1 : gM} (h : Frq P m m1) (hp : ∀ c t, c ≤ 20 → P c t = false) : FRe m m1 := ⟨fun c t i hc => h.1 c t i (hp c t hc), h.2 34 0⟩
theorem FS.fre {m m1 : gM} (h : FS m m1) : FRe m m1 := ⟨fun c t i hc => h.1 c t i (by omega) (by omega), h.2 34 0⟩
theorem FRe.si {m : gM} {c t i : Nat} {v : Int32} (hc : 21 ≤ c) : FRe m (si m c t i v) := ⟨fun c1 t1 i1 h1 => by rw [gi_si, if_neg (fun z => by omega)], rfl⟩
theorem CS.eqv {t : Nat} {A : Nat → Nat} {m m1 : gM} (h : CS t A m) (hf : ∀ c i, c < 6 → gi m1 c t i = gi m c t i) : CS t A m1 := by
  obtain ⟨h1, h2, h3, h4, h5, h6, h7, h8, h9, h10⟩ := h
  exact ⟨fun i hi => (hf 1 i (by decide)).trans (h1 i hi), fun i hi => (hf 2 i (by decide)).trans (h2 i hi), fun i hi => (hf 3 i (by decide)).trans (h3 i hi), fun i hi => (hf 4 i (by decide)).trans (h4 i hi), fun i hi => (hf 5 i (by decide)).trans (h5 i hi), (hf 0 5 (by decide)).trans h6, (hf 0 6 (by decide)).trans h7, (hf 0 7 (by decide)).trans h8, (hf 0 8 (by decide)).trans h9, (hf 0 9 (by decide)).trans h10⟩
theorem ECq.eqv {A : Nat → Nat} {m m1 : gM} (h : ECq 0 A m) (hf : ∀ c i, 7 ≤ c → c ≤ 10 → gi m1 c 0 i = gi m c 0 i) : ECq 0 A m1 := fun i hi => by
  rcases h i hi with a | ⟨a, b⟩
  · exact Or.inl ((hf 10 i (by decide) (by decide)).trans a)
  · refine Or.inr ⟨(hf 10 i (by decide) (by decide)).trans a, fun k hk => ?_⟩
    obtain ⟨b1, b2, b3⟩ := b k hk
    exact ⟨(hf 7 _ (by decide) (by decide)).trans b1, (hf 8 _ (by decide) (by decide)).trans b2, (hf 9 _ (by decide) (by decide)).trans b3⟩
theorem IC2.eqv {n p : Nat} {Sv : Nat → Nat → Nat} {m m1 : gM} (h : IC2 n p Sv m) (hf : ∀ c t i, c < 6 → 4 ≤ t → gi m1 c t i = gi m c t i) (h9 : gi m1 12 0 9 = gi m 12 0 9) (h10 : gi m1 12 0 10 = gi m 12 0 10) : IC2 n p Sv m1 := ⟨h9.trans h.1, h10.trans h.2.1, fun j hj => (h.2.2 j hj).eqv (fun c i hc => hf c _ i hc (by omega))⟩
theorem IC3.eqv {Sn : Nat → Nat → Nat} {K : Nat → Nat} {m m1 : gM} (h : IC3 Sn K m) (hf : ∀ c t i, c < 6 → 2 ≤ t → t < 4 → gi m1 c t i = gi m c t i) (h19 : ∀ i, gi m1 19 0 i = gi m 19 0 i) : IC3 Sn K m1 := ⟨fun i hi => (h19 i).trans (h.1 i hi), fun i hi hk => (h.2 i hi hk).eqv (fun c j hc => hf c _ j hc (by omega) (by omega))⟩
theorem IC4.eqv {B : Nat → Nat} {L : Nat} {m m1 : gM} (h : IC4 B L m) (h16 : gi m1 16 0 1 = gi m 16 0 1) (h17 : ∀ i, gi m1 17 0 i = gi m 17 0 i) : IC4 B L m1 := ⟨h16.trans h.1, fun i hi => (h17 i).trans (h.2 i hi)⟩
theorem ICq.re {A : Nat → Nat} {n p : Nat} {Sv Sn : Nat → Nat → Nat} {K B : Nat → Nat} {L : Nat} {m m1 : gM} (h : ICq A n p Sv Sn K B L m) (hf : FRe m m1) : ICq A n p Sv Sn K B L m1 := by
  obtain ⟨h1, h2, h3, h4, h5⟩ := h
  exact ⟨h1.eqv (fun c i hc => hf.1 c 0 i (by omega)), h2.eqv (fun c i hc hc2 => hf.1 c 0 i (by omega)), h3.eqv (fun c t i hc _ => hf.1 c t i (by omega)) (hf.1 _ _ _ (by decide)) (hf.1 _ _ _ (by decide)), h4.eqv (fun c t i hc _ _ => hf.1 c t i (by omega)) (fun i => hf.1 _ _ _ (by decide)), h5.eqv (hf.1 _ _ _ (by decide)) (fun i => hf.1 _ _ _ (by decide))⟩
theorem IR2.eqv {n : Nat} {Sv : Nat → Nat → Nat} {m m1 : gM} (h : IR2 n Sv m) (h3 : gi m1 21 0 3 = gi m 21 0 3) (h23 : ∀ i, gi m1 23 0 i = gi m 23 0 i) : IR2 n Sv m1 := ⟨h3.trans h.1, fun j k hj hk => (h23 _).trans (h.2 j k hj hk)⟩
theorem IR3.eqv {Sn : Nat → Nat → Nat} {K : Nat → Nat} {m m1 : gM} (h : IR3 Sn K m) (h25 : ∀ i, gi m1 25 0 i = gi m 25 0 i) (h24 : ∀ i, gi m1 24 0 i = gi m 24 0 i) : IR3 Sn K m1 := ⟨fun i hi => (h25 i).trans (h.1 i hi), fun i k hi hk hk2 => (h24 _).trans (h.2 i k hi hk hk2)⟩
theorem IR4.eqv {B : Nat → Nat} {L : Nat} {m m1 : gM} (h : IR4 B L m) (h7 : gi m1 21 0 7 = gi m 21 0 7) (h26 : ∀ i, gi m1 26 0 i = gi m 26 0 i) : IR4 B L m1 := ⟨h7.trans h.1, fun i hi => (h26 i).trans (h.2 i hi)⟩
theorem IR.fc {A : Nat → Nat} {n : Nat} {Sv Sn : Nat → Nat → Nat} {K B : Nat → Nat} {L : Nat} {m m1 : gM} (h : IR A n Sv Sn K B L m) (hf : FCq m m1) : IR A n Sv Sn K B L m1 := by
  obtain ⟨h1, h2, h3, h4⟩ := h
  exact ⟨fun i hi => (hf 22 0 i (by decide)).trans (h1 i hi), h2.eqv (hf _ _ _ (by decide)) (fun i => hf _ _ _ (by decide)), h3.eqv (fun i => hf _ _ _ (by decide)) (fun i => hf _ _ _ (by decide)), h4.eqv (hf _ _ _ (by decide)) (fun i => hf _ _ _ (by decide))⟩
/-- the reference's rows are as they were, but for the thrown code and what it views with -/
theorem IR.th {A : Nat → Nat} {n : Nat} {Sv Sn : Nat → Nat → Nat} {K B : Nat → Nat} {L : Nat} {m : gM} {v : Int32} (h : IR A n Sv Sn K B L m) : IR A n Sv Sn K B L (si m 21 0 0 v) := by
  obtain ⟨h1, h2, h3, h4⟩ := h
  refine ⟨RM_si (by decide) h1, h2.eqv ?_ (fun i => ?_), h3.eqv (fun i => ?_) (fun i => ?_), h4.eqv ?_ (fun i => ?_)⟩ <;> rw [gi_si, if_neg (fun z => by omega)]
theorem IR.vw {P : Nat → Nat → Bool} {A : Nat → Nat} {n : Nat} {Sv Sn : Nat → Nat → Nat} {K B : Nat → Nat} {L : Nat} {m m1 : gM} (h : IR A n Sv Sn K B L m) (hf : Frq P m m1) (hp : ∀ c, 21 ≤ c → c ≤ 26 → P c 0 = false) : IR A n Sv Sn K B L m1 := by
  obtain ⟨h1, h2, h3, h4⟩ := h
  exact ⟨h1.fr hf (hp 22 (by decide) (by decide)), h2.eqv (hf.1 _ _ _ (hp 21 (by decide) (by decide))) (fun i => hf.1 _ _ _ (hp 23 (by decide) (by decide))), h3.eqv (fun i => hf.1 _ _ _ (hp 25 (by decide) (by decide))) (fun i => hf.1 _ _ _ (hp 24 (by decide) (by decide))), h4.eqv (hf.1 _ _ _ (hp 21 (by decide) (by decide))) (fun i => hf.1 _ _ _ (hp 26 (by decide) (by decide)))⟩
/-- a call's end, for the law: the code, the answer's wide number, and all that holds between the calls -/
def Okq (o : Option (Int32 × gM)) (g : gM → Option (Int32 × gM)) : Prop := ∃ k m1 b m2, o = some (k, m1) ∧ g m1 = some (b, m2) ∧ gi m2 21 0 0 = k ∧ (k = 0 → gl m2 34 0 = b.toInt64) ∧ HIq m2
theorem FCq.sl {m : gM} {v : Int64} : FCq m (sl m 34 0 v) := fun _ _ _ _ => rfl
theorem ICq.sl {A : Nat → Nat} {n p : Nat} {Sv Sn : Nat → Nat → Nat} {K B : Nat → Nat} {L : Nat} {m : gM} {v : Int64} (h : ICq A n p Sv Sn K B L m) : ICq A n p Sv Sn K B L (sl m 34 0 v) := h
theorem ok_ret {A A1 : Nat → Nat} {n n1 p1 : Nat} {Sv Sv1 Sn Sn1 : Nat → Nat → Nat} {K K1 B B1 : Nat → Nat} {L L1 : Nat} {m : gM} {r : Int32} {o : Option (Int32 × gM)} {g : gM → Option (Int32 × gM)} (hr : IR A n Sv Sn K B L m) (hc : ∃ m1, o = some (nI 0, sl m1 34 0 r.toInt64) ∧ ICq A1 n1 p1 Sv1 Sn1 K1 B1 L1 m1 ∧ FCq m m1) (h6 : ∀ m, IR A n Sv Sn K B L m → ∃ m2, g m = some (r, m2) ∧ IR A1 n1 Sv1 Sn1 K1 B1 L1 m2 ∧ FRe m m2 ∧ gi m2 21 0 0 = nI 0) (hg : GVq A1 n1 p1 Sv1 Sn1 K1 B1 L1) : Okq o g := by
  obtain ⟨m1, e1, c1, f1⟩ := hc
  obtain ⟨m2, e2, c2, f2, t2⟩ := h6 (sl m1 34 0 r.toInt64) ((hr.fc f1).fc FCq.sl)
  refine ⟨_, _, _, _, e1, e2, t2, fun _ => ?_, _, _, _, _, _, _, _, _, hg, (ICq.sl c1).re f2, c2⟩
  rw [f2.2, gl_sl, if_pos ⟨rfl, rfl⟩]
theorem ok_thr {A : Nat → Nat} {n p : Nat} {Sv Sn : Nat → Nat → Nat} {K B : Nat → Nat} {L : Nat} {m : gM} {k : Int32} {o : Option (Int32 × gM)} {g : gM → Option (Int32 × gM)} (hr : IR A n Sv Sn K B L m) (hk : k ≠ 0) (hc : ∃ m1, o = some (k, m1) ∧ ICq A n p Sv Sn K B L m1 ∧ FCq m m1) (h6 : ∀ m, IR A n Sv Sn K B L m → ∃ b m2, g m = some (b, m2) ∧ IR A n Sv Sn K B L m2 ∧ FRe m m2 ∧ gi m2 21 0 0 = k) (hg : GVq A n p Sv Sn K B L) : Okq o g := by
  obtain ⟨m1, e1, c1, f1⟩ := hc
  obtain ⟨b, m2, e2, c2, f2, t2⟩ := h6 m1 (hr.fc f1)
  exact ⟨_, _, _, _, e1, e2, t2, fun z => absurd z hk, _, _, _, _, _, _, _, _, hg, c1.re f2, c2⟩
def P0s : Nat → Nat → Bool := fun c t => decide (c < 6) && t == 0
/-- the object saves, then changes its state of now -/
theorem save_mod {A : Nat → Nat} {n p : Nat} {Sv Sn : Nat → Nat → Nat} {K B : Nat → Nat} {L : Nat} {m : gM} (h : ICq A n p Sv Sn K B L m) (hn : n ≤ 6) (hp : p < 6) : ∃ m1, fX5_saveState m = some m1 ∧ CS 0 A m1 ∧ NL 0 m1 ∧ ICq A (min (n + 1) 6) (if p < 5 then p + 1 else 0) (psh A Sv) Sn K B L m1 ∧ FCq m m1 ∧ ∀ A1 m2, Frq P0s m1 m2 → CS 0 A1 m2 → ICq A1 (min (n + 1) 6) (if p < 5 then p + 1 else 0) (psh A Sv) Sn K B L m2 ∧ FCq m m2 := by
  obtain ⟨h1, h2, h3, h4, h5⟩ := h
  obtain ⟨m1, e1, c1, n1, i1, f1⟩ := fsaveState h1 h3 hn hp
  have k3 : IC3 Sn K m1 := h4.eqv (fun c t i hc ht ht2 => f1.1 c t i (by unfold PSv; simp; omega)) (fun i => f1.1 _ _ _ rfl)
  have k4 : IC4 B L m1 := h5.eqv (f1.1 _ _ _ rfl) (fun i => f1.1 _ _ _ rfl)
  have fc : FCq m m1 := f1.fc (fun c t hc => by unfold PSv; simp; omega)
  refine ⟨m1, e1, c1, n1, ⟨c1, n1.ec, i1, k3, k4⟩, fc, fun A1 m2 f2 c2 => ⟨⟨c2, ?_, ?_, ?_, ?_⟩, ?_⟩⟩
  · exact NL.ec (fun i hi => (f2.1 10 0 i rfl).trans (n1 i hi))
  · exact i1.eqv (fun c t i hc ht => f2.1 c t i (by unfold P0s; simp; omega)) (f2.1 _ _ _ rfl) (f2.1 _ _ _ rfl)
  · exact k3.eqv (fun c t i hc ht ht2 => f2.1 c t i (by unfold P0s; simp; omega)) (fun i => f2.1 _ _ _ rfl)
  · exact k4.eqv (f2.1 _ _ _ rfl) (fun i => f2.1 _ _ _ rfl)
  · exact fc.tr (f2.fc (fun c t hc => by unfold P0s; simp; omega))
/-- the reference saves, then changes its row -/
theorem saves_mod {A : Nat → Nat} {n : Nat} {Sv Sn : Nat → Nat → Nat} {K B : Nat → Nat} {L : Nat} {m : gM} (h : IR A n Sv Sn K B L m) (hn : n ≤ 6) : ∃ m1, fX6_saves m = some m1 ∧ RMq A m1 ∧ FRe m m1 ∧ (∀ i, i ≠ 3 → gi m1 21 0 i = gi m 21 0 i) ∧ (∀ c t i, 24 ≤ c → gi m1 c t i = gi m c t i) ∧ ∀ A1 m2, (∀ c i, 21 ≤ c → c ≤ 26 → c ≠ 22 → gi m2 c 0 i = gi m1 c 0 i) → RMq A1 m2 → IR A1 (min (n + 1) 6) (psh A Sv) Sn K B L m2 := by
  obtain ⟨h1, h2, h3, h4⟩ := h
  obtain ⟨m1, e1, i1, f1⟩ := fsaves h1 h2 hn
  refine ⟨m1, e1, h1.fs f1, f1.fre, fun i hi => f1.1 21 0 i (by decide) (fun _ => hi), fun c t i hc => f1.1 c t i (by omega) (by omega), fun A1 m2 f2 r2 => ⟨r2, ?_, ?_, ?_⟩⟩
  · exact i1.eqv (f2 21 3 (by decide) (by decide) (by decide)) (fun i => f2 23 i (by decide) (by decide) (by decide))
  · exact (h3.eqv (fun i => f1.1 25 0 i (by decide) (by omega)) (fun i => f1.1 24 0 i (by decide) (by omega))).eqv (fun i => f2 25 i (by decide) (by decide) (by decide)) (fun i => f2 24 i (by decide) (by decide) (by decide))
  · exact (h4.eqv (f1.1 21 0 7 (by decide) (by omega)) (fun i => f1.1 26 0 i (by decide) (by omega))).eqv (f2 21 7 (by decide) (by decide) (by decide)) (fun i => f2 26 i (by decide) (by decide) (by decide))
theorem GV_push {A A1 : Nat → Nat} {n p : Nat} {Sv Sn : Nat → Nat → Nat} {K B : Nat → Nat} {L : Nat} (h : GVq A n p Sv Sn K B L) (w : WF A1) (wp : WP A1) : GVq A1 (min (n + 1) 6) (if p < 5 then p + 1 else 0) (psh A Sv) Sn K B L := by
  obtain ⟨h1, h2, h3, h4, h5, h6, h7⟩ := h
  refine ⟨w, wp, Nat.min_le_right _ _, by split <;> omega, fun j hj => ?_, h6, h7⟩
  unfold psh
  by_cases c : j = 0
  · rw [if_pos c]
    exact ⟨h1, h2⟩
  · rw [if_neg c]
    exact h5 (j - 1) (by have := Nat.lt_of_lt_of_le hj (Nat.min_le_left (n + 1) 6); omega)
theorem en_cg {A A1 : Nat → Nat} (h0 : A1 0 = A 0) (ht : ∀ i, i < 6 → A1 (10 + 4 * i) = A (10 + 4 * i)) : ∀ i, i ≤ 6 → en A1 i = en A i
  | 0, _ => rfl
  | i + 1, h => by
    show en A1 i + tk A1 i = en A i + tk A i
    rw [en_cg h0 ht i (by omega)]
    unfold tk
    rw [h0, ht i (by omega)]
theorem WP_cg {A A1 : Nat → Nat} (h : WP A) (h6 : A1 6 = A 6) (h0 : A1 0 = A 0) (ht : ∀ i, i < 6 → A1 (10 + 4 * i) = A (10 + 4 * i)) : WP A1 := by
  unfold WP rt at *
  rw [h6, en_cg h0 ht 6 (Nat.le_refl _)]
  exact h
/-! arguments -/
theorem ixZ (x : Int32) {n : Nat} (hn : n < 2147483648) : (x.toInt < 0 ∨ (n : Int) ≤ x.toInt) ∨ ∃ j : Nat, j < n ∧ x = nI j := by
  rcases pk_ix x hn with h | h | h
  · refine Or.inl (Or.inl ?_)
    rw [Int32.lt_iff_toInt_lt] at h
    exact h
  · refine Or.inl (Or.inr ?_)
    rw [Int32.le_iff_toInt_le, nI_toInt hn] at h
    exact h
  · exact Or.inr h
theorem zx_lt1 {x : Int32} {k : Nat} (hk : k < 2147483648) : (x < nI k) = (x.toInt < (k : Int)) := by
  rw [Int32.lt_iff_toInt_lt, nI_toInt hk]
theorem zx_lt2 {x : Int32} {k : Nat} (hk : k < 2147483648) : (nI k < x) = ((k : Int) < x.toInt) := by
  rw [Int32.lt_iff_toInt_lt, nI_toInt hk]
theorem zx_le1 {x : Int32} {k : Nat} (hk : k < 2147483648) : (x ≤ nI k) = (x.toInt ≤ (k : Int)) := by
  rw [Int32.le_iff_toInt_le, nI_toInt hk]
theorem zx_le2 {x : Int32} {k : Nat} (hk : k < 2147483648) : (nI k ≤ x) = ((k : Int) ≤ x.toInt) := by
  rw [Int32.le_iff_toInt_le, nI_toInt hk]
theorem in_bad {x : Int32} {a b : Nat} (ha : a < 2147483648) (hb : b < 2147483648) (h : x.toInt < (a : Int) ∨ (b : Int) < x.toInt) : fX6_in x (nI a) (nI b) = some (nI 0) := by
  unfold fX6_in jX6_in_14
  rcases h with h | h
  · simp (disch := omega) only [z_nn2, z0, z1, z2, z3, z4, z5, z6, z7, z8, z9, z10, z11, z12, z13, z14, z15, z16, z17, z18, z19, z20, z23, z24, z28, z31, z32, z33, z45, z46, z47, z48, z52, z57, z60, z63, z65, z70, z80, z95, z100, z126, z127, z128, z200, z240, z255, z400, z480, z500, z840, z1023, z2000, z99999, z1073741824, z_nn, z_add, z_sub, z_mul, z_div, z_rem, z_cl, z_in, z_chk, z_chkp, z_bnd, z_bn2, z_wth, z_bxr, z_bxl, z_bx2r, z_bx2l, z_bz0, z_bz1, z_mx, z_mn, z_tb1, z_tb0, z_eq, z_le, z_lt, z_nn_lt, z_nn_le, z_nn_ge, z_nn_gt, z_nn_eq, z_nn_eq2, z_bit, z_wow, z_wo, z_or, z_shl, z_if, z_ifn, fbit, if_true, if_false, Nat.zero_add, Nat.add_zero, not_false_iff, not_true, zx_lt1, zx_lt2]
  · by_cases c : x.toInt < (a : Int)
    · simp (disch := omega) only [z_nn2, z0, z1, z2, z3, z4, z5, z6, z7, z8, z9, z10, z11, z12, z13, z14, z15, z16, z17, z18, z19, z20, z23, z24, z28, z31, z32, z33, z45, z46, z47, z48, z52, z57, z60, z63, z65, z70, z80, z95, z100, z126, z127, z128, z200, z240, z255, z400, z480, z500, z840, z1023, z2000, z99999, z1073741824, z_nn, z_add, z_sub, z_mul, z_div, z_rem, z_cl, z_in, z_chk, z_chkp, z_bnd, z_bn2, z_wth, z_bxr, z_bxl, z_bx2r, z_bx2l, z_bz0, z_bz1, z_mx, z_mn, z_tb1, z_tb0, z_eq, z_le, z_lt, z_nn_lt, z_nn_le, z_nn_ge, z_nn_gt, z_nn_eq, z_nn_eq2, z_bit, z_wow, z_wo, z_or, z_shl, z_if, z_ifn, fbit, if_true, if_false, Nat.zero_add, Nat.add_zero, not_false_iff, not_true, zx_lt1, zx_lt2]
    · simp (disch := omega) only [z_nn2, z0, z1, z2, z3, z4, z5, z6, z7, z8, z9, z10, z11, z12, z13, z14, z15, z16, z17, z18, z19, z20, z23, z24, z28, z31, z32, z33, z45, z46, z47, z48, z52, z57, z60, z63, z65, z70, z80, z95, z100, z126, z127, z128, z200, z240, z255, z400, z480, z500, z840, z1023, z2000, z99999, z1073741824, z_nn, z_add, z_sub, z_mul, z_div, z_rem, z_cl, z_in, z_chk, z_chkp, z_bnd, z_bn2, z_wth, z_bxr, z_bxl, z_bx2r, z_bx2l, z_bz0, z_bz1, z_mx, z_mn, z_tb1, z_tb0, z_eq, z_le, z_lt, z_nn_lt, z_nn_le, z_nn_ge, z_nn_gt, z_nn_eq, z_nn_eq2, z_bit, z_wow, z_wo, z_or, z_shl, z_if, z_ifn, fbit, if_true, if_false, Nat.zero_add, Nat.add_zero, not_false_iff, not_true, zx_lt1, zx_lt2]
theorem in_ok {x : Int32} {a b : Nat} (ha : a < 2147483648) (hb : b < 2147483648) (h : (a : Int) ≤ x.toInt) (h2 : x.toInt ≤ (b : Int)) : fX6_in x (nI a) (nI b) = some (nI 1) := by
  unfold fX6_in jX6_in_14
  simp (disch := omega) only [z_nn2, z0, z1, z2, z3, z4, z5, z6, z7, z8, z9, z10, z11, z12, z13, z14, z15, z16, z17, z18, z19, z20, z23, z24, z28, z31, z32, z33, z45, z46, z47, z48, z52, z57, z60, z63, z65, z70, z80, z95, z100, z126, z127, z128, z200, z240, z255, z400, z480, z500, z840, z1023, z2000, z99999, z1073741824, z_nn, z_add, z_sub, z_mul, z_div, z_rem, z_cl, z_in, z_chk, z_chkp, z_bnd, z_bn2, z_wth, z_bxr, z_bxl, z_bx2r, z_bx2l, z_bz0, z_bz1, z_mx, z_mn, z_tb1, z_tb0, z_eq, z_le, z_lt, z_nn_lt, z_nn_le, z_nn_ge, z_nn_gt, z_nn_eq, z_nn_eq2, z_bit, z_wow, z_wo, z_or, z_shl, z_if, z_ifn, fbit, if_true, if_false, Nat.zero_add, Nat.add_zero, not_false_iff, not_true, zx_lt1, zx_lt2]
theorem cSlot_bad {x : Int32} (h : x.toInt < 0 ∨ ((6 : Nat) : Int) ≤ x.toInt) : fX5_checkSlot x = some (.inl "java/lang/IndexOutOfBoundsException") ∧ fX6_isSlot x = some (nI 0) := by
  constructor
  · unfold fX5_checkSlot jX5_checkSlot_10
    rcases h with h | h
    · simp (disch := omega) only [z_nn2, z0, z1, z2, z3, z4, z5, z6, z7, z8, z9, z10, z11, z12, z13, z14, z15, z16, z17, z18, z19, z20, z23, z24, z28, z31, z32, z33, z45, z46, z47, z48, z52, z57, z60, z63, z65, z70, z80, z95, z100, z126, z127, z128, z200, z240, z255, z400, z480, z500, z840, z1023, z2000, z99999, z1073741824, z_nn, z_add, z_sub, z_mul, z_div, z_rem, z_cl, z_in, z_chk, z_chkp, z_bnd, z_bn2, z_wth, z_bxr, z_bxl, z_bx2r, z_bx2l, z_bz0, z_bz1, z_mx, z_mn, z_tb1, z_tb0, z_eq, z_le, z_lt, z_nn_lt, z_nn_le, z_nn_ge, z_nn_gt, z_nn_eq, z_nn_eq2, z_bit, z_wow, z_wo, z_or, z_shl, z_if, z_ifn, fbit, if_true, if_false, Nat.zero_add, Nat.add_zero, not_false_iff, not_true, zx_lt1]
    · simp (disch := omega) only [z_nn2, z0, z1, z2, z3, z4, z5, z6, z7, z8, z9, z10, z11, z12, z13, z14, z15, z16, z17, z18, z19, z20, z23, z24, z28, z31, z32, z33, z45, z46, z47, z48, z52, z57, z60, z63, z65, z70, z80, z95, z100, z126, z127, z128, z200, z240, z255, z400, z480, z500, z840, z1023, z2000, z99999, z1073741824, z_nn, z_add, z_sub, z_mul, z_div, z_rem, z_cl, z_in, z_chk, z_chkp, z_bnd, z_bn2, z_wth, z_bxr, z_bxl, z_bx2r, z_bx2l, z_bz0, z_bz1, z_mx, z_mn, z_tb1, z_tb0, z_eq, z_le, z_lt, z_nn_lt, z_nn_le, z_nn_ge, z_nn_gt, z_nn_eq, z_nn_eq2, z_bit, z_wow, z_wo, z_or, z_shl, z_if, z_ifn, fbit, if_true, if_false, Nat.zero_add, Nat.add_zero, not_false_iff, not_true, zx_lt1]
  · unfold fX6_isSlot
    simp only [z0, z5]
    rw [in_bad (by decide) (by decide) (by omega)]
    simp (disch := omega) only [z_nn2, z0, z1, z2, z3, z4, z5, z6, z7, z8, z9, z10, z11, z12, z13, z14, z15, z16, z17, z18, z19, z20, z23, z24, z28, z31, z32, z33, z45, z46, z47, z48, z52, z57, z60, z63, z65, z70, z80, z95, z100, z126, z127, z128, z200, z240, z255, z400, z480, z500, z840, z1023, z2000, z99999, z1073741824, z_nn, z_add, z_sub, z_mul, z_div, z_rem, z_cl, z_in, z_chk, z_chkp, z_bnd, z_bn2, z_wth, z_bxr, z_bxl, z_bx2r, z_bx2l, z_bz0, z_bz1, z_mx, z_mn, z_tb1, z_tb0, z_eq, z_le, z_lt, z_nn_lt, z_nn_le, z_nn_ge, z_nn_gt, z_nn_eq, z_nn_eq2, z_bit, z_wow, z_wo, z_or, z_shl, z_if, z_ifn, fbit, if_true, if_false, Nat.zero_add, Nat.add_zero, not_false_iff, not_true]
theorem cSlot_ok {j : Nat} (h : j < 6) : fX5_checkSlot (nI j) = some (.inr ()) ∧ fX6_isSlot (nI j) = some (nI 1) := by
  have e := nI_toInt (n := j) (by omega)
  constructor
  · unfold fX5_checkSlot jX5_checkSlot_10
    simp (disch := omega) only [z_nn2, z0, z1, z2, z3, z4, z5, z6, z7, z8, z9, z10, z11, z12, z13, z14, z15, z16, z17, z18, z19, z20, z23, z24, z28, z31, z32, z33, z45, z46, z47, z48, z52, z57, z60, z63, z65, z70, z80, z95, z100, z126, z127, z128, z200, z240, z255, z400, z480, z500, z840, z1023, z2000, z99999, z1073741824, z_nn, z_add, z_sub, z_mul, z_div, z_rem, z_cl, z_in, z_chk, z_chkp, z_bnd, z_bn2, z_wth, z_bxr, z_bxl, z_bx2r, z_bx2l, z_bz0, z_bz1, z_mx, z_mn, z_tb1, z_tb0, z_eq, z_le, z_lt, z_nn_lt, z_nn_le, z_nn_ge, z_nn_gt, z_nn_eq, z_nn_eq2, z_bit, z_wow, z_wo, z_or, z_shl, z_if, z_ifn, fbit, if_true, if_false, Nat.zero_add, Nat.add_zero, not_false_iff, not_true]
  · unfold fX6_isSlot
    simp only [z0, z5]
    rw [in_ok (by decide) (by decide) (by omega) (by omega)]
    simp (disch := omega) only [z_nn2, z0, z1, z2, z3, z4, z5, z6, z7, z8, z9, z10, z11, z12, z13, z14, z15, z16, z17, z18, z19, z20, z23, z24, z28, z31, z32, z33, z45, z46, z47, z48, z52, z57, z60, z63, z65, z70, z80, z95, z100, z126, z127, z128, z200, z240, z255, z400, z480, z500, z840, z1023, z2000, z99999, z1073741824, z_nn, z_add, z_sub, z_mul, z_div, z_rem, z_cl, z_in, z_chk, z_chkp, z_bnd, z_bn2, z_wth, z_bxr, z_bxl, z_bx2r, z_bx2l, z_bz0, z_bz1, z_mx, z_mn, z_tb1, z_tb0, z_eq, z_le, z_lt, z_nn_lt, z_nn_le, z_nn_ge, z_nn_gt, z_nn_eq, z_nn_eq2, z_bit, z_wow, z_wo, z_or, z_shl, z_if, z_ifn, fbit, if_true, if_false, Nat.zero_add, Nat.add_zero, not_false_iff, not_true]
theorem cSeg_bad {x : Int32} (h : x.toInt < 0 ∨ ((8 : Nat) : Int) ≤ x.toInt) : fX5_checkSegment x = some (.inl "java/lang/IndexOutOfBoundsException") ∧ fX6_isSegment x = some (nI 0) := by
  constructor
  · unfold fX5_checkSegment jX5_checkSegment_10
    rcases h with h | h
    · simp (disch := omega) only [z_nn2, z0, z1, z2, z3, z4, z5, z6, z7, z8, z9, z10, z11, z12, z13, z14, z15, z16, z17, z18, z19, z20, z23, z24, z28, z31, z32, z33, z45, z46, z47, z48, z52, z57, z60, z63, z65, z70, z80, z95, z100, z126, z127, z128, z200, z240, z255, z400, z480, z500, z840, z1023, z2000, z99999, z1073741824, z_nn, z_add, z_sub, z_mul, z_div, z_rem, z_cl, z_in, z_chk, z_chkp, z_bnd, z_bn2, z_wth, z_bxr, z_bxl, z_bx2r, z_bx2l, z_bz0, z_bz1, z_mx, z_mn, z_tb1, z_tb0, z_eq, z_le, z_lt, z_nn_lt, z_nn_le, z_nn_ge, z_nn_gt, z_nn_eq, z_nn_eq2, z_bit, z_wow, z_wo, z_or, z_shl, z_if, z_ifn, fbit, if_true, if_false, Nat.zero_add, Nat.add_zero, not_false_iff, not_true, zx_lt1]
    · simp (disch := omega) only [z_nn2, z0, z1, z2, z3, z4, z5, z6, z7, z8, z9, z10, z11, z12, z13, z14, z15, z16, z17, z18, z19, z20, z23, z24, z28, z31, z32, z33, z45, z46, z47, z48, z52, z57, z60, z63, z65, z70, z80, z95, z100, z126, z127, z128, z200, z240, z255, z400, z480, z500, z840, z1023, z2000, z99999, z1073741824, z_nn, z_add, z_sub, z_mul, z_div, z_rem, z_cl, z_in, z_chk, z_chkp, z_bnd, z_bn2, z_wth, z_bxr, z_bxl, z_bx2r, z_bx2l, z_bz0, z_bz1, z_mx, z_mn, z_tb1, z_tb0, z_eq, z_le, z_lt, z_nn_lt, z_nn_le, z_nn_ge, z_nn_gt, z_nn_eq, z_nn_eq2, z_bit, z_wow, z_wo, z_or, z_shl, z_if, z_ifn, fbit, if_true, if_false, Nat.zero_add, Nat.add_zero, not_false_iff, not_true, zx_lt1]
  · unfold fX6_isSegment
    simp only [z0, z7]
    rw [in_bad (by decide) (by decide) (by omega)]
    simp (disch := omega) only [z_nn2, z0, z1, z2, z3, z4, z5, z6, z7, z8, z9, z10, z11, z12, z13, z14, z15, z16, z17, z18, z19, z20, z23, z24, z28, z31, z32, z33, z45, z46, z47, z48, z52, z57, z60, z63, z65, z70, z80, z95, z100, z126, z127, z128, z200, z240, z255, z400, z480, z500, z840, z1023, z2000, z99999, z1073741824, z_nn, z_add, z_sub, z_mul, z_div, z_rem, z_cl, z_in, z_chk, z_chkp, z_bnd, z_bn2, z_wth, z_bxr, z_bxl, z_bx2r, z_bx2l, z_bz0, z_bz1, z_mx, z_mn, z_tb1, z_tb0, z_eq, z_le, z_lt, z_nn_lt, z_nn_le, z_nn_ge, z_nn_gt, z_nn_eq, z_nn_eq2, z_bit, z_wow, z_wo, z_or, z_shl, z_if, z_ifn, fbit, if_true, if_false, Nat.zero_add, Nat.add_zero, not_false_iff, not_true]
theorem cSeg_ok {j : Nat} (h : j < 8) : fX5_checkSegment (nI j) = some (.inr ()) ∧ fX6_isSegment (nI j) = some (nI 1) := by
  have e := nI_toInt (n := j) (by omega)
  constructor
  · unfold fX5_checkSegment jX5_checkSegment_10
    simp (disch := omega) only [z_nn2, z0, z1, z2, z3, z4, z5, z6, z7, z8, z9, z10, z11, z12, z13, z14, z15, z16, z17, z18, z19, z20, z23, z24, z28, z31, z32, z33, z45, z46, z47, z48, z52, z57, z60, z63, z65, z70, z80, z95, z100, z126, z127, z128, z200, z240, z255, z400, z480, z500, z840, z1023, z2000, z99999, z1073741824, z_nn, z_add, z_sub, z_mul, z_div, z_rem, z_cl, z_in, z_chk, z_chkp, z_bnd, z_bn2, z_wth, z_bxr, z_bxl, z_bx2r, z_bx2l, z_bz0, z_bz1, z_mx, z_mn, z_tb1, z_tb0, z_eq, z_le, z_lt, z_nn_lt, z_nn_le, z_nn_ge, z_nn_gt, z_nn_eq, z_nn_eq2, z_bit, z_wow, z_wo, z_or, z_shl, z_if, z_ifn, fbit, if_true, if_false, Nat.zero_add, Nat.add_zero, not_false_iff, not_true]
  · unfold fX6_isSegment
    simp only [z0, z7]
    rw [in_ok (by decide) (by decide) (by omega) (by omega)]
    simp (disch := omega) only [z_nn2, z0, z1, z2, z3, z4, z5, z6, z7, z8, z9, z10, z11, z12, z13, z14, z15, z16, z17, z18, z19, z20, z23, z24, z28, z31, z32, z33, z45, z46, z47, z48, z52, z57, z60, z63, z65, z70, z80, z95, z100, z126, z127, z128, z200, z240, z255, z400, z480, z500, z840, z1023, z2000, z99999, z1073741824, z_nn, z_add, z_sub, z_mul, z_div, z_rem, z_cl, z_in, z_chk, z_chkp, z_bnd, z_bn2, z_wth, z_bxr, z_bxl, z_bx2r, z_bx2l, z_bz0, z_bz1, z_mx, z_mn, z_tb1, z_tb0, z_eq, z_le, z_lt, z_nn_lt, z_nn_le, z_nn_ge, z_nn_gt, z_nn_eq, z_nn_eq2, z_bit, z_wow, z_wo, z_or, z_shl, z_if, z_ifn, fbit, if_true, if_false, Nat.zero_add, Nat.add_zero, not_false_iff, not_true]
theorem cTime_bad {x : Int32} (h : x.toInt < 0 ∨ ((21 : Nat) : Int) ≤ x.toInt) : fX5_checkTime x = some (.inl "java/lang/IllegalArgumentException") ∧ fX6_in x (nI 0) (nI 20) = some (nI 0) := by
  constructor
  · unfold fX5_checkTime jX5_checkTime_10
    rcases h with h | h
    · simp (disch := omega) only [z_nn2, z0, z1, z2, z3, z4, z5, z6, z7, z8, z9, z10, z11, z12, z13, z14, z15, z16, z17, z18, z19, z20, z23, z24, z28, z31, z32, z33, z45, z46, z47, z48, z52, z57, z60, z63, z65, z70, z80, z95, z100, z126, z127, z128, z200, z240, z255, z400, z480, z500, z840, z1023, z2000, z99999, z1073741824, z_nn, z_add, z_sub, z_mul, z_div, z_rem, z_cl, z_in, z_chk, z_chkp, z_bnd, z_bn2, z_wth, z_bxr, z_bxl, z_bx2r, z_bx2l, z_bz0, z_bz1, z_mx, z_mn, z_tb1, z_tb0, z_eq, z_le, z_lt, z_nn_lt, z_nn_le, z_nn_ge, z_nn_gt, z_nn_eq, z_nn_eq2, z_bit, z_wow, z_wo, z_or, z_shl, z_if, z_ifn, fbit, if_true, if_false, Nat.zero_add, Nat.add_zero, not_false_iff, not_true, zx_lt1]
    · simp (disch := omega) only [z_nn2, z0, z1, z2, z3, z4, z5, z6, z7, z8, z9, z10, z11, z12, z13, z14, z15, z16, z17, z18, z19, z20, z23, z24, z28, z31, z32, z33, z45, z46, z47, z48, z52, z57, z60, z63, z65, z70, z80, z95, z100, z126, z127, z128, z200, z240, z255, z400, z480, z500, z840, z1023, z2000, z99999, z1073741824, z_nn, z_add, z_sub, z_mul, z_div, z_rem, z_cl, z_in, z_chk, z_chkp, z_bnd, z_bn2, z_wth, z_bxr, z_bxl, z_bx2r, z_bx2l, z_bz0, z_bz1, z_mx, z_mn, z_tb1, z_tb0, z_eq, z_le, z_lt, z_nn_lt, z_nn_le, z_nn_ge, z_nn_gt, z_nn_eq, z_nn_eq2, z_bit, z_wow, z_wo, z_or, z_shl, z_if, z_ifn, fbit, if_true, if_false, Nat.zero_add, Nat.add_zero, not_false_iff, not_true, zx_lt1, zx_le1]
  · exact in_bad (by decide) (by decide) (by omega)
theorem cTime_ok {j : Nat} (h : j < 21) : fX5_checkTime (nI j) = some (.inr ()) ∧ fX6_in (nI j) (nI 0) (nI 20) = some (nI 1) := by
  have e := nI_toInt (n := j) (by omega)
  constructor
  · unfold fX5_checkTime jX5_checkTime_10
    simp (disch := omega) only [z_nn2, z0, z1, z2, z3, z4, z5, z6, z7, z8, z9, z10, z11, z12, z13, z14, z15, z16, z17, z18, z19, z20, z23, z24, z28, z31, z32, z33, z45, z46, z47, z48, z52, z57, z60, z63, z65, z70, z80, z95, z100, z126, z127, z128, z200, z240, z255, z400, z480, z500, z840, z1023, z2000, z99999, z1073741824, z_nn, z_add, z_sub, z_mul, z_div, z_rem, z_cl, z_in, z_chk, z_chkp, z_bnd, z_bn2, z_wth, z_bxr, z_bxl, z_bx2r, z_bx2l, z_bz0, z_bz1, z_mx, z_mn, z_tb1, z_tb0, z_eq, z_le, z_lt, z_nn_lt, z_nn_le, z_nn_ge, z_nn_gt, z_nn_eq, z_nn_eq2, z_bit, z_wow, z_wo, z_or, z_shl, z_if, z_ifn, fbit, if_true, if_false, Nat.zero_add, Nat.add_zero, not_false_iff, not_true]
  · exact in_ok (by decide) (by decide) (by omega) (by omega)
theorem cBal_bad {x : Int32} (h : x.toInt < 6 ∨ ((61 : Nat) : Int) ≤ x.toInt) : fX5_checkBalanced x = some (.inl "java/lang/IllegalArgumentException") ∧ fX6_in x (nI 6) (nI 60) = some (nI 0) := by
  constructor
  · unfold fX5_checkBalanced jX5_checkBalanced_12
    rcases h with h | h
    · simp (disch := omega) only [z_nn2, z0, z1, z2, z3, z4, z5, z6, z7, z8, z9, z10, z11, z12, z13, z14, z15, z16, z17, z18, z19, z20, z23, z24, z28, z31, z32, z33, z45, z46, z47, z48, z52, z57, z60, z63, z65, z70, z80, z95, z100, z126, z127, z128, z200, z240, z255, z400, z480, z500, z840, z1023, z2000, z99999, z1073741824, z_nn, z_add, z_sub, z_mul, z_div, z_rem, z_cl, z_in, z_chk, z_chkp, z_bnd, z_bn2, z_wth, z_bxr, z_bxl, z_bx2r, z_bx2l, z_bz0, z_bz1, z_mx, z_mn, z_tb1, z_tb0, z_eq, z_le, z_lt, z_nn_lt, z_nn_le, z_nn_ge, z_nn_gt, z_nn_eq, z_nn_eq2, z_bit, z_wow, z_wo, z_or, z_shl, z_if, z_ifn, fbit, if_true, if_false, Nat.zero_add, Nat.add_zero, not_false_iff, not_true, zx_lt1]
    · simp (disch := omega) only [z_nn2, z0, z1, z2, z3, z4, z5, z6, z7, z8, z9, z10, z11, z12, z13, z14, z15, z16, z17, z18, z19, z20, z23, z24, z28, z31, z32, z33, z45, z46, z47, z48, z52, z57, z60, z63, z65, z70, z80, z95, z100, z126, z127, z128, z200, z240, z255, z400, z480, z500, z840, z1023, z2000, z99999, z1073741824, z_nn, z_add, z_sub, z_mul, z_div, z_rem, z_cl, z_in, z_chk, z_chkp, z_bnd, z_bn2, z_wth, z_bxr, z_bxl, z_bx2r, z_bx2l, z_bz0, z_bz1, z_mx, z_mn, z_tb1, z_tb0, z_eq, z_le, z_lt, z_nn_lt, z_nn_le, z_nn_ge, z_nn_gt, z_nn_eq, z_nn_eq2, z_bit, z_wow, z_wo, z_or, z_shl, z_if, z_ifn, fbit, if_true, if_false, Nat.zero_add, Nat.add_zero, not_false_iff, not_true, zx_lt1, zx_le1]
  · exact in_bad (by decide) (by decide) (by omega)
theorem cBal_ok {j : Nat} (h6 : 6 ≤ j) (h : j < 61) : fX5_checkBalanced (nI j) = some (.inr ()) ∧ fX6_in (nI j) (nI 6) (nI 60) = some (nI 1) := by
  have e := nI_toInt (n := j) (by omega)
  constructor
  · unfold fX5_checkBalanced jX5_checkBalanced_12
    simp (disch := omega) only [z_nn2, z0, z1, z2, z3, z4, z5, z6, z7, z8, z9, z10, z11, z12, z13, z14, z15, z16, z17, z18, z19, z20, z23, z24, z28, z31, z32, z33, z45, z46, z47, z48, z52, z57, z60, z63, z65, z70, z80, z95, z100, z126, z127, z128, z200, z240, z255, z400, z480, z500, z840, z1023, z2000, z99999, z1073741824, z_nn, z_add, z_sub, z_mul, z_div, z_rem, z_cl, z_in, z_chk, z_chkp, z_bnd, z_bn2, z_wth, z_bxr, z_bxl, z_bx2r, z_bx2l, z_bz0, z_bz1, z_mx, z_mn, z_tb1, z_tb0, z_eq, z_le, z_lt, z_nn_lt, z_nn_le, z_nn_ge, z_nn_gt, z_nn_eq, z_nn_eq2, z_bit, z_wow, z_wo, z_or, z_shl, z_if, z_ifn, fbit, if_true, if_false, Nat.zero_add, Nat.add_zero, not_false_iff, not_true]
  · exact in_ok (by decide) (by decide) (by omega) (by omega)
theorem cSet_bad {x : Int32} (h : x.toInt < 0 ∨ ((4 : Nat) : Int) ≤ x.toInt) : fX5_checkSetting x = some (.inl "java/lang/IndexOutOfBoundsException") ∧ fX6_in x (nI 0) (nI 3) = some (nI 0) := by
  constructor
  · unfold fX5_checkSetting jX5_checkSetting_9
    rcases h with h | h
    · simp (disch := omega) only [z_nn2, z0, z1, z2, z3, z4, z5, z6, z7, z8, z9, z10, z11, z12, z13, z14, z15, z16, z17, z18, z19, z20, z23, z24, z28, z31, z32, z33, z45, z46, z47, z48, z52, z57, z60, z63, z65, z70, z80, z95, z100, z126, z127, z128, z200, z240, z255, z400, z480, z500, z840, z1023, z2000, z99999, z1073741824, z_nn, z_add, z_sub, z_mul, z_div, z_rem, z_cl, z_in, z_chk, z_chkp, z_bnd, z_bn2, z_wth, z_bxr, z_bxl, z_bx2r, z_bx2l, z_bz0, z_bz1, z_mx, z_mn, z_tb1, z_tb0, z_eq, z_le, z_lt, z_nn_lt, z_nn_le, z_nn_ge, z_nn_gt, z_nn_eq, z_nn_eq2, z_bit, z_wow, z_wo, z_or, z_shl, z_if, z_ifn, fbit, if_true, if_false, Nat.zero_add, Nat.add_zero, not_false_iff, not_true, zx_lt1]
    · simp (disch := omega) only [z_nn2, z0, z1, z2, z3, z4, z5, z6, z7, z8, z9, z10, z11, z12, z13, z14, z15, z16, z17, z18, z19, z20, z23, z24, z28, z31, z32, z33, z45, z46, z47, z48, z52, z57, z60, z63, z65, z70, z80, z95, z100, z126, z127, z128, z200, z240, z255, z400, z480, z500, z840, z1023, z2000, z99999, z1073741824, z_nn, z_add, z_sub, z_mul, z_div, z_rem, z_cl, z_in, z_chk, z_chkp, z_bnd, z_bn2, z_wth, z_bxr, z_bxl, z_bx2r, z_bx2l, z_bz0, z_bz1, z_mx, z_mn, z_tb1, z_tb0, z_eq, z_le, z_lt, z_nn_lt, z_nn_le, z_nn_ge, z_nn_gt, z_nn_eq, z_nn_eq2, z_bit, z_wow, z_wo, z_or, z_shl, z_if, z_ifn, fbit, if_true, if_false, Nat.zero_add, Nat.add_zero, not_false_iff, not_true, zx_lt1]
  · exact in_bad (by decide) (by decide) (by omega)
theorem cSet_ok {j : Nat} (h : j < 4) : fX5_checkSetting (nI j) = some (.inr ()) ∧ fX6_in (nI j) (nI 0) (nI 3) = some (nI 1) := by
  have e := nI_toInt (n := j) (by omega)
  constructor
  · unfold fX5_checkSetting jX5_checkSetting_9
    simp (disch := omega) only [z_nn2, z0, z1, z2, z3, z4, z5, z6, z7, z8, z9, z10, z11, z12, z13, z14, z15, z16, z17, z18, z19, z20, z23, z24, z28, z31, z32, z33, z45, z46, z47, z48, z52, z57, z60, z63, z65, z70, z80, z95, z100, z126, z127, z128, z200, z240, z255, z400, z480, z500, z840, z1023, z2000, z99999, z1073741824, z_nn, z_add, z_sub, z_mul, z_div, z_rem, z_cl, z_in, z_chk, z_chkp, z_bnd, z_bn2, z_wth, z_bxr, z_bxl, z_bx2r, z_bx2l, z_bz0, z_bz1, z_mx, z_mn, z_tb1, z_tb0, z_eq, z_le, z_lt, z_nn_lt, z_nn_le, z_nn_ge, z_nn_gt, z_nn_eq, z_nn_eq2, z_bit, z_wow, z_wo, z_or, z_shl, z_if, z_ifn, fbit, if_true, if_false, Nat.zero_add, Nat.add_zero, not_false_iff, not_true]
  · exact in_ok (by decide) (by decide) (by omega) (by omega)
theorem cSnap_bad {x : Int32} (h : x.toInt < 0 ∨ ((2 : Nat) : Int) ≤ x.toInt) : fX5_checkSnapshot x = some (.inl "java/lang/IllegalArgumentException") ∧ fX6_in x (nI 0) (nI 1) = some (nI 0) := by
  constructor
  · unfold fX5_checkSnapshot jX5_checkSnapshot_9
    rcases h with h | h
    · simp (disch := omega) only [z_nn2, z0, z1, z2, z3, z4, z5, z6, z7, z8, z9, z10, z11, z12, z13, z14, z15, z16, z17, z18, z19, z20, z23, z24, z28, z31, z32, z33, z45, z46, z47, z48, z52, z57, z60, z63, z65, z70, z80, z95, z100, z126, z127, z128, z200, z240, z255, z400, z480, z500, z840, z1023, z2000, z99999, z1073741824, z_nn, z_add, z_sub, z_mul, z_div, z_rem, z_cl, z_in, z_chk, z_chkp, z_bnd, z_bn2, z_wth, z_bxr, z_bxl, z_bx2r, z_bx2l, z_bz0, z_bz1, z_mx, z_mn, z_tb1, z_tb0, z_eq, z_le, z_lt, z_nn_lt, z_nn_le, z_nn_ge, z_nn_gt, z_nn_eq, z_nn_eq2, z_bit, z_wow, z_wo, z_or, z_shl, z_if, z_ifn, fbit, if_true, if_false, Nat.zero_add, Nat.add_zero, not_false_iff, not_true, zx_lt1]
    · simp (disch := omega) only [z_nn2, z0, z1, z2, z3, z4, z5, z6, z7, z8, z9, z10, z11, z12, z13, z14, z15, z16, z17, z18, z19, z20, z23, z24, z28, z31, z32, z33, z45, z46, z47, z48, z52, z57, z60, z63, z65, z70, z80, z95, z100, z126, z127, z128, z200, z240, z255, z400, z480, z500, z840, z1023, z2000, z99999, z1073741824, z_nn, z_add, z_sub, z_mul, z_div, z_rem, z_cl, z_in, z_chk, z_chkp, z_bnd, z_bn2, z_wth, z_bxr, z_bxl, z_bx2r, z_bx2l, z_bz0, z_bz1, z_mx, z_mn, z_tb1, z_tb0, z_eq, z_le, z_lt, z_nn_lt, z_nn_le, z_nn_ge, z_nn_gt, z_nn_eq, z_nn_eq2, z_bit, z_wow, z_wo, z_or, z_shl, z_if, z_ifn, fbit, if_true, if_false, Nat.zero_add, Nat.add_zero, not_false_iff, not_true, zx_lt1]
  · exact in_bad (by decide) (by decide) (by omega)
theorem cSnap_ok {j : Nat} (h : j < 2) : fX5_checkSnapshot (nI j) = some (.inr ()) ∧ fX6_in (nI j) (nI 0) (nI 1) = some (nI 1) := by
  have e := nI_toInt (n := j) (by omega)
  constructor
  · unfold fX5_checkSnapshot jX5_checkSnapshot_9
    simp (disch := omega) only [z_nn2, z0, z1, z2, z3, z4, z5, z6, z7, z8, z9, z10, z11, z12, z13, z14, z15, z16, z17, z18, z19, z20, z23, z24, z28, z31, z32, z33, z45, z46, z47, z48, z52, z57, z60, z63, z65, z70, z80, z95, z100, z126, z127, z128, z200, z240, z255, z400, z480, z500, z840, z1023, z2000, z99999, z1073741824, z_nn, z_add, z_sub, z_mul, z_div, z_rem, z_cl, z_in, z_chk, z_chkp, z_bnd, z_bn2, z_wth, z_bxr, z_bxl, z_bx2r, z_bx2l, z_bz0, z_bz1, z_mx, z_mn, z_tb1, z_tb0, z_eq, z_le, z_lt, z_nn_lt, z_nn_le, z_nn_ge, z_nn_gt, z_nn_eq, z_nn_eq2, z_bit, z_wow, z_wo, z_or, z_shl, z_if, z_ifn, fbit, if_true, if_false, Nat.zero_add, Nat.add_zero, not_false_iff, not_true]
  · exact in_ok (by decide) (by decide) (by omega) (by omega)
theorem cWhat_bad {x : Int32} {k : Nat} (hk : 0 < k) (hk2 : k < 100) (h : x.toInt < 0 ∨ (k : Int) ≤ x.toInt) : fX5_checkWhat x (nI k) = some (.inl "java/lang/IllegalArgumentException") ∧ fX6_in x (nI 0) (nI (k - 1)) = some (nI 0) := by
  constructor
  · unfold fX5_checkWhat jX5_checkWhat_9
    rcases h with h | h
    · simp (disch := omega) only [z_nn2, z0, z1, z2, z3, z4, z5, z6, z7, z8, z9, z10, z11, z12, z13, z14, z15, z16, z17, z18, z19, z20, z23, z24, z28, z31, z32, z33, z45, z46, z47, z48, z52, z57, z60, z63, z65, z70, z80, z95, z100, z126, z127, z128, z200, z240, z255, z400, z480, z500, z840, z1023, z2000, z99999, z1073741824, z_nn, z_add, z_sub, z_mul, z_div, z_rem, z_cl, z_in, z_chk, z_chkp, z_bnd, z_bn2, z_wth, z_bxr, z_bxl, z_bx2r, z_bx2l, z_bz0, z_bz1, z_mx, z_mn, z_tb1, z_tb0, z_eq, z_le, z_lt, z_nn_lt, z_nn_le, z_nn_ge, z_nn_gt, z_nn_eq, z_nn_eq2, z_bit, z_wow, z_wo, z_or, z_shl, z_if, z_ifn, fbit, if_true, if_false, Nat.zero_add, Nat.add_zero, not_false_iff, not_true, zx_lt1]
    · simp (disch := omega) only [z_nn2, z0, z1, z2, z3, z4, z5, z6, z7, z8, z9, z10, z11, z12, z13, z14, z15, z16, z17, z18, z19, z20, z23, z24, z28, z31, z32, z33, z45, z46, z47, z48, z52, z57, z60, z63, z65, z70, z80, z95, z100, z126, z127, z128, z200, z240, z255, z400, z480, z500, z840, z1023, z2000, z99999, z1073741824, z_nn, z_add, z_sub, z_mul, z_div, z_rem, z_cl, z_in, z_chk, z_chkp, z_bnd, z_bn2, z_wth, z_bxr, z_bxl, z_bx2r, z_bx2l, z_bz0, z_bz1, z_mx, z_mn, z_tb1, z_tb0, z_eq, z_le, z_lt, z_nn_lt, z_nn_le, z_nn_ge, z_nn_gt, z_nn_eq, z_nn_eq2, z_bit, z_wow, z_wo, z_or, z_shl, z_if, z_ifn, fbit, if_true, if_false, Nat.zero_add, Nat.add_zero, not_false_iff, not_true, zx_lt1]
  · exact in_bad (by decide) (by omega) (by omega)
theorem cWhat_ok {j k : Nat} (hk2 : k < 100) (h : j < k) : fX5_checkWhat (nI j) (nI k) = some (.inr ()) ∧ fX6_in (nI j) (nI 0) (nI (k - 1)) = some (nI 1) := by
  have e := nI_toInt (n := j) (by omega)
  constructor
  · unfold fX5_checkWhat jX5_checkWhat_9
    simp (disch := omega) only [z_nn2, z0, z1, z2, z3, z4, z5, z6, z7, z8, z9, z10, z11, z12, z13, z14, z15, z16, z17, z18, z19, z20, z23, z24, z28, z31, z32, z33, z45, z46, z47, z48, z52, z57, z60, z63, z65, z70, z80, z95, z100, z126, z127, z128, z200, z240, z255, z400, z480, z500, z840, z1023, z2000, z99999, z1073741824, z_nn, z_add, z_sub, z_mul, z_div, z_rem, z_cl, z_in, z_chk, z_chkp, z_bnd, z_bn2, z_wth, z_bxr, z_bxl, z_bx2r, z_bx2l, z_bz0, z_bz1, z_mx, z_mn, z_tb1, z_tb0, z_eq, z_le, z_lt, z_nn_lt, z_nn_le, z_nn_ge, z_nn_gt, z_nn_eq, z_nn_eq2, z_bit, z_wow, z_wo, z_or, z_shl, z_if, z_ifn, fbit, if_true, if_false, Nat.zero_add, Nat.add_zero, not_false_iff, not_true]
  · exact in_ok (by decide) (by omega) (by omega) (by omega)
