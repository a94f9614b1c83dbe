/-! CHANGES of a state; copies; saved states -/
def upq (A : Nat → Nat) (k v : Nat) : Nat → Nat := fun j => if j = k then v else A j
theorem up_eq {A : Nat → Nat} {k v j : Nat} (h : j = k) : upq A k v j = v := if_pos h
theorem up_ne {A : Nat → Nat} {k v j : Nat} (h : j ≠ k) : upq A k v j = A j := if_neg h
theorem dm_up {A : Nat → Nat} {k v : Nat} (h : ∀ i, i < 6 → k ≠ 9 + 4 * i) : dm (upq A k v) = dm A := by
  have h0 := h 0 (by decide); have h1 := h 1 (by decide); have h2 := h 2 (by decide); have h3 := h 3 (by decide); have h4 := h 4 (by decide); have h5 := h 5 (by decide)
  unfold dm
  simp (disch := omega) only [up_ne]
theorem RM_up {A : Nat → Nat} {m : gM} (h : RMq A m) {k v : Nat} : RMq (upq A k v) (si m 22 0 k (nI v)) := fun i hi => by
  unfold upq
  by_cases c : i = k
  · rw [if_pos c, gi_si, if_pos ⟨rfl, rfl, c⟩]
  · rw [if_neg c, gi_si, if_neg (fun z => c z.2.2)]
    exact h i hi
theorem CS_sign {t : Nat} {A : Nat → Nat} {m : gM} (h : CS t A m) {i v : Nat} (hi : i < 6) : CS t (upq A (8 + 4 * i) v) (si m 1 t i (nI v)) := by
  obtain ⟨h1, h2, h3, h4, h5, h6, h7, h8, h9, h10⟩ := h
  refine ⟨fun j hj => ?_, fun j hj => ?_, fun j hj => ?_, fun j hj => ?_, fun j hj => ?_, ?_, ?_, ?_, ?_, ?_⟩
  · by_cases c : j = i
    · subst c
      simp (disch := omega) only [gi_si, z_if, z_ifn, and_self, if_true, up_eq]
    · simp (disch := omega) only [gi_si, z_ifn, up_ne, h1]
  · simp (disch := omega) only [gi_si, z_ifn, up_ne, h2]
  · simp (disch := omega) only [gi_si, z_ifn, up_ne, h3]
  · simp (disch := omega) only [gi_si, z_ifn, up_ne, h4]
  · simp (disch := omega) only [gi_si, z_ifn, up_ne, h5]
  · rw [dm_up (fun i hi => by omega)]
    simp (disch := omega) only [gi_si, z_ifn, h6]
  · simp (disch := omega) only [gi_si, z_ifn, up_ne, h7]
  · simp (disch := omega) only [gi_si, z_ifn, up_ne, h8]
  · simp (disch := omega) only [gi_si, z_ifn, up_ne, h9]
  · simp (disch := omega) only [gi_si, z_ifn, up_ne, h10]
theorem CS_burnt {t : Nat} {A : Nat → Nat} {m : gM} (h : CS t A m) {i v : Nat} (hi : i < 6) : CS t (upq A (11 + 4 * i) v) (si m 2 t i (nI v)) := by
  obtain ⟨h1, h2, h3, h4, h5, h6, h7, h8, h9, h10⟩ := h
  refine ⟨fun j hj => ?_, fun j hj => ?_, fun j hj => ?_, fun j hj => ?_, fun j hj => ?_, ?_, ?_, ?_, ?_, ?_⟩
  · simp (disch := omega) only [gi_si, z_ifn, up_ne, h1]
  · by_cases c : j = i
    · subst c
      simp (disch := omega) only [gi_si, z_if, z_ifn, and_self, if_true, up_eq]
    · simp (disch := omega) only [gi_si, z_ifn, up_ne, h2]
  · simp (disch := omega) only [gi_si, z_ifn, up_ne, h3]
  · simp (disch := omega) only [gi_si, z_ifn, up_ne, h4]
  · simp (disch := omega) only [gi_si, z_ifn, up_ne, h5]
  · rw [dm_up (fun i hi => by omega)]
    simp (disch := omega) only [gi_si, z_ifn, h6]
  · simp (disch := omega) only [gi_si, z_ifn, up_ne, h7]
  · simp (disch := omega) only [gi_si, z_ifn, up_ne, h8]
  · simp (disch := omega) only [gi_si, z_ifn, up_ne, h9]
  · simp (disch := omega) only [gi_si, z_ifn, up_ne, h10]
theorem CS_time {t : Nat} {A : Nat → Nat} {m : gM} (h : CS t A m) {i v : Nat} (hi : i < 6) : CS t (upq A (10 + 4 * i) v) (si m 3 t i (nI v)) := by
  obtain ⟨h1, h2, h3, h4, h5, h6, h7, h8, h9, h10⟩ := h
  refine ⟨fun j hj => ?_, fun j hj => ?_, fun j hj => ?_, fun j hj => ?_, fun j hj => ?_, ?_, ?_, ?_, ?_, ?_⟩
  · simp (disch := omega) only [gi_si, z_ifn, up_ne, h1]
  · simp (disch := omega) only [gi_si, z_ifn, up_ne, h2]
  · by_cases c : j = i
    · subst c
      simp (disch := omega) only [gi_si, z_if, z_ifn, and_self, if_true, up_eq]
    · simp (disch := omega) only [gi_si, z_ifn, up_ne, h3]
  · simp (disch := omega) only [gi_si, z_ifn, up_ne, h4]
  · simp (disch := omega) only [gi_si, z_ifn, up_ne, h5]
  · rw [dm_up (fun i hi => by omega)]
    simp (disch := omega) only [gi_si, z_ifn, h6]
  · simp (disch := omega) only [gi_si, z_ifn, up_ne, h7]
  · simp (disch := omega) only [gi_si, z_ifn, up_ne, h8]
  · simp (disch := omega) only [gi_si, z_ifn, up_ne, h9]
  · simp (disch := omega) only [gi_si, z_ifn, up_ne, h10]
theorem CS_glow {t : Nat} {A : Nat → Nat} {m : gM} (h : CS t A m) {i v : Nat} (hi : i < 48) : CS t (upq A (32 + i) v) (si m 4 t i (nI v)) := by
  obtain ⟨h1, h2, h3, h4, h5, h6, h7, h8, h9, h10⟩ := h
  refine ⟨fun j hj => ?_, fun j hj => ?_, fun j hj => ?_, fun j hj => ?_, fun j hj => ?_, ?_, ?_, ?_, ?_, ?_⟩
  · simp (disch := omega) only [gi_si, z_ifn, up_ne, h1]
  · simp (disch := omega) only [gi_si, z_ifn, up_ne, h2]
  · simp (disch := omega) only [gi_si, z_ifn, up_ne, h3]
  · by_cases c : j = i
    · subst c
      simp (disch := omega) only [gi_si, z_if, z_ifn, and_self, if_true, up_eq]
    · simp (disch := omega) only [gi_si, z_ifn, up_ne, h4]
  · simp (disch := omega) only [gi_si, z_ifn, up_ne, h5]
  · rw [dm_up (fun i hi => by omega)]
    simp (disch := omega) only [gi_si, z_ifn, h6]
  · simp (disch := omega) only [gi_si, z_ifn, up_ne, h7]
  · simp (disch := omega) only [gi_si, z_ifn, up_ne, h8]
  · simp (disch := omega) only [gi_si, z_ifn, up_ne, h9]
  · simp (disch := omega) only [gi_si, z_ifn, up_ne, h10]
theorem CS_set {t : Nat} {A : Nat → Nat} {m : gM} (h : CS t A m) {i v : Nat} (hi : i < 4) : CS t (upq A i v) (si m 5 t i (nI v)) := by
  obtain ⟨h1, h2, h3, h4, h5, h6, h7, h8, h9, h10⟩ := h
  refine ⟨fun j hj => ?_, fun j hj => ?_, fun j hj => ?_, fun j hj => ?_, fun j hj => ?_, ?_, ?_, ?_, ?_, ?_⟩
  · simp (disch := omega) only [gi_si, z_ifn, up_ne, h1]
  · simp (disch := omega) only [gi_si, z_ifn, up_ne, h2]
  · simp (disch := omega) only [gi_si, z_ifn, up_ne, h3]
  · simp (disch := omega) only [gi_si, z_ifn, up_ne, h4]
  · by_cases c : j = i
    · subst c
      simp (disch := omega) only [gi_si, z_if, z_ifn, and_self, if_true, up_eq]
    · simp (disch := omega) only [gi_si, z_ifn, up_ne, h5]
  · rw [dm_up (fun i hi => by omega)]
    simp (disch := omega) only [gi_si, z_ifn, h6]
  · simp (disch := omega) only [gi_si, z_ifn, up_ne, h7]
  · simp (disch := omega) only [gi_si, z_ifn, up_ne, h8]
  · simp (disch := omega) only [gi_si, z_ifn, up_ne, h9]
  · simp (disch := omega) only [gi_si, z_ifn, up_ne, h10]
/-- the four numbers of a state that aren't rows: cut lines, ticks, position, rounds -/
theorem CS_num {t : Nat} {A : Nat → Nat} {m : gM} (h : CS t A m) {k v : Nat} (h1 : 4 ≤ k) (h2 : k < 8) : CS t (upq A k v) (si m 0 t (k + 2) (nI v)) := by
  obtain ⟨g1, g2, g3, g4, g5, g6, g7, g8, g9, g10⟩ := h
  refine ⟨fun j hj => ?_, fun j hj => ?_, fun j hj => ?_, fun j hj => ?_, fun j hj => ?_, ?_, ?_, ?_, ?_, ?_⟩
  · simp (disch := omega) only [gi_si, z_ifn, up_ne, g1]
  · simp (disch := omega) only [gi_si, z_ifn, up_ne, g2]
  · simp (disch := omega) only [gi_si, z_ifn, up_ne, g3]
  · simp (disch := omega) only [gi_si, z_ifn, up_ne, g4]
  · simp (disch := omega) only [gi_si, z_ifn, up_ne, g5]
  · rw [dm_up (fun i hi => by omega)]
    simp (disch := omega) only [gi_si, z_ifn, g6]
  · by_cases c : k = 4
    · rw [gi_si, if_pos ⟨rfl, rfl, by omega⟩, up_eq (by omega)]
    · simp (disch := omega) only [gi_si, z_ifn, up_ne, g7]
  · by_cases c : k = 5
    · rw [gi_si, if_pos ⟨rfl, rfl, by omega⟩, up_eq (by omega)]
    · simp (disch := omega) only [gi_si, z_ifn, up_ne, g8]
  · by_cases c : k = 6
    · rw [gi_si, if_pos ⟨rfl, rfl, by omega⟩, up_eq (by omega)]
    · simp (disch := omega) only [gi_si, z_ifn, up_ne, g9]
  · by_cases c : k = 7
    · rw [gi_si, if_pos ⟨rfl, rfl, by omega⟩, up_eq (by omega)]
    · simp (disch := omega) only [gi_si, z_ifn, up_ne, g10]
theorem CS_dots {t : Nat} {A B : Nat → Nat} {m : gM} (h : CS t A m) (hB : ∀ j, (∀ i, i < 6 → j ≠ 9 + 4 * i) → B j = A j) : CS t B (si m 0 t 5 (nI (dm B))) := by
  obtain ⟨g1, g2, g3, g4, g5, g6, g7, g8, g9, g10⟩ := h
  refine ⟨fun j hj => ?_, fun j hj => ?_, fun j hj => ?_, fun j hj => ?_, fun j hj => ?_, ?_, ?_, ?_, ?_, ?_⟩
  · rw [hB _ (fun i hi => by omega)]
    simp (disch := omega) only [gi_si, z_ifn, g1]
  · rw [hB _ (fun i hi => by omega)]
    simp (disch := omega) only [gi_si, z_ifn, g2]
  · rw [hB _ (fun i hi => by omega)]
    simp (disch := omega) only [gi_si, z_ifn, g3]
  · rw [hB _ (fun i hi => by omega)]
    simp (disch := omega) only [gi_si, z_ifn, g4]
  · rw [hB _ (fun i hi => by omega)]
    simp (disch := omega) only [gi_si, z_ifn, g5]
  · simp (disch := omega) only [gi_si, z_if, and_self, if_true]
  · rw [hB _ (fun i hi => by omega)]
    simp (disch := omega) only [gi_si, z_ifn, g7]
  · rw [hB _ (fun i hi => by omega)]
    simp (disch := omega) only [gi_si, z_ifn, g8]
  · rw [hB _ (fun i hi => by omega)]
    simp (disch := omega) only [gi_si, z_ifn, g9]
  · rw [hB _ (fun i hi => by omega)]
    simp (disch := omega) only [gi_si, z_ifn, g10]
def PC2 (t1 : Nat) : Nat → Nat → Bool := fun c t => decide (c < 6) && t == t1
theorem Frq.cy {P : Nat → Nat → Bool} {m : gM} {c t c0 t0 spq dp n : Nat} (h : P c t = true) : Frq P m (cy m c t c0 t0 spq dp n) := by
  refine ⟨fun c1 t1 i1 hp => ?_, fun _ _ => rfl⟩
  rw [gi_cy, if_neg]
  rintro ⟨rfl, rfl⟩
  rw [h] at hp; cases hp
theorem PC2_ok {t c : Nat} (h : c < 6) : PC2 t c t = true := by
  unfold PC2
  simp [h]
theorem fcopy {t0 t1 : Nat} {A : Nat → Nat} {m : gM} (h : CS t1 A m) (ht : t0 ≠ t1) : ∃ m1, fX2_copyFrom t0 t1 m = some m1 ∧ CS t0 A m1 ∧ Frq (PC2 t0) m m1 := by
  obtain ⟨h1, h2, h3, h4, h5, h6, h7, h8, h9, h10⟩ := h
  unfold fX2_copyFrom
  simp only [z_wth]
  obtain ⟨m1, e1⟩ : ∃ q, q = cy m 1 t0 1 t1 0 0 6 := ⟨_, rfl⟩
  rw [← e1]
  have a1 : ∀ j, j < 6 → gi m1 1 t0 j = gi m 1 t1 j := fun j hj => by
    rw [e1, gi_cy, if_pos ⟨rfl, rfl⟩, pk_cpy_in (Nat.zero_le _) (by omega), Nat.zero_add, Nat.sub_zero]
  have b1 : ∀ c t i, ¬ (c = 1 ∧ t = t0) → gi m1 c t i = gi m c t i := fun c t i hc => by
    rw [e1, gi_cy, if_neg hc]
  have f1 : Frq (PC2 t0) m m1 := by
    rw [e1]
    exact Frq.cy (PC2_ok (by decide))
  obtain ⟨m2, e2⟩ : ∃ q, q = cy m1 2 t0 2 t1 0 0 6 := ⟨_, rfl⟩
  rw [← e2]
  have a2 : ∀ j, j < 6 → gi m2 2 t0 j = gi m1 2 t1 j := fun j hj => by
    rw [e2, gi_cy, if_pos ⟨rfl, rfl⟩, pk_cpy_in (Nat.zero_le _) (by omega), Nat.zero_add, Nat.sub_zero]
  have b2 : ∀ c t i, ¬ (c = 2 ∧ t = t0) → gi m2 c t i = gi m1 c t i := fun c t i hc => by
    rw [e2, gi_cy, if_neg hc]
  have f2 : Frq (PC2 t0) m1 m2 := by
    rw [e2]
    exact Frq.cy (PC2_ok (by decide))
  obtain ⟨m3, e3⟩ : ∃ q, q = cy m2 3 t0 3 t1 0 0 6 := ⟨_, rfl⟩
  rw [← e3]
  have a3 : ∀ j, j < 6 → gi m3 3 t0 j = gi m2 3 t1 j := fun j hj => by
    rw [e3, gi_cy, if_pos ⟨rfl, rfl⟩, pk_cpy_in (Nat.zero_le _) (by omega), Nat.zero_add, Nat.sub_zero]
  have b3 : ∀ c t i, ¬ (c = 3 ∧ t = t0) → gi m3 c t i = gi m2 c t i := fun c t i hc => by
    rw [e3, gi_cy, if_neg hc]
  have f3 : Frq (PC2 t0) m2 m3 := by
    rw [e3]
    exact Frq.cy (PC2_ok (by decide))
  obtain ⟨m4, e4⟩ : ∃ q, q = cy m3 4 t0 4 t1 0 0 48 := ⟨_, rfl⟩
  rw [← e4]
  have a4 : ∀ j, j < 48 → gi m4 4 t0 j = gi m3 4 t1 j := fun j hj => by
    rw [e4, gi_cy, if_pos ⟨rfl, rfl⟩, pk_cpy_in (Nat.zero_le _) (by omega), Nat.zero_add, Nat.sub_zero]
  have b4 : ∀ c t i, ¬ (c = 4 ∧ t = t0) → gi m4 c t i = gi m3 c t i := fun c t i hc => by
    rw [e4, gi_cy, if_neg hc]
  have f4 : Frq (PC2 t0) m3 m4 := by
    rw [e4]
    exact Frq.cy (PC2_ok (by decide))
  obtain ⟨m5, e5⟩ : ∃ q, q = cy m4 5 t0 5 t1 0 0 4 := ⟨_, rfl⟩
  rw [← e5]
  have a5 : ∀ j, j < 4 → gi m5 5 t0 j = gi m4 5 t1 j := fun j hj => by
    rw [e5, gi_cy, if_pos ⟨rfl, rfl⟩, pk_cpy_in (Nat.zero_le _) (by omega), Nat.zero_add, Nat.sub_zero]
  have b5 : ∀ c t i, ¬ (c = 5 ∧ t = t0) → gi m5 c t i = gi m4 c t i := fun c t i hc => by
    rw [e5, gi_cy, if_neg hc]
  have f5 : Frq (PC2 t0) m4 m5 := by
    rw [e5]
    exact Frq.cy (PC2_ok (by decide))
  obtain ⟨m6, e6⟩ : ∃ q, q = si m5 0 t0 5 (gi m5 0 t1 5) := ⟨_, rfl⟩
  rw [← e6]
  have a6 : gi m6 0 t0 5 = gi m5 0 t1 5 := by
    rw [e6, gi_si, if_pos ⟨rfl, rfl, rfl⟩]
  have b6 : ∀ c t i, ¬ (c = 0 ∧ t = t0 ∧ i = 5) → gi m6 c t i = gi m5 c t i := fun c t i hc => by
    rw [e6, gi_si, if_neg hc]
  have f6 : Frq (PC2 t0) m5 m6 := by
    rw [e6]
    exact Frq.si (PC2_ok (by decide))
  obtain ⟨m7, e7⟩ : ∃ q, q = si m6 0 t0 6 (gi m6 0 t1 6) := ⟨_, rfl⟩
  rw [← e7]
  have a7 : gi m7 0 t0 6 = gi m6 0 t1 6 := by
    rw [e7, gi_si, if_pos ⟨rfl, rfl, rfl⟩]
  have b7 : ∀ c t i, ¬ (c = 0 ∧ t = t0 ∧ i = 6) → gi m7 c t i = gi m6 c t i := fun c t i hc => by
    rw [e7, gi_si, if_neg hc]
  have f7 : Frq (PC2 t0) m6 m7 := by
    rw [e7]
    exact Frq.si (PC2_ok (by decide))
  obtain ⟨m8, e8⟩ : ∃ q, q = si m7 0 t0 7 (gi m7 0 t1 7) := ⟨_, rfl⟩
  rw [← e8]
  have a8 : gi m8 0 t0 7 = gi m7 0 t1 7 := by
    rw [e8, gi_si, if_pos ⟨rfl, rfl, rfl⟩]
  have b8 : ∀ c t i, ¬ (c = 0 ∧ t = t0 ∧ i = 7) → gi m8 c t i = gi m7 c t i := fun c t i hc => by
    rw [e8, gi_si, if_neg hc]
  have f8 : Frq (PC2 t0) m7 m8 := by
    rw [e8]
    exact Frq.si (PC2_ok (by decide))
  obtain ⟨m9, e9⟩ : ∃ q, q = si m8 0 t0 8 (gi m8 0 t1 8) := ⟨_, rfl⟩
  rw [← e9]
  have a9 : gi m9 0 t0 8 = gi m8 0 t1 8 := by
    rw [e9, gi_si, if_pos ⟨rfl, rfl, rfl⟩]
  have b9 : ∀ c t i, ¬ (c = 0 ∧ t = t0 ∧ i = 8) → gi m9 c t i = gi m8 c t i := fun c t i hc => by
    rw [e9, gi_si, if_neg hc]
  have f9 : Frq (PC2 t0) m8 m9 := by
    rw [e9]
    exact Frq.si (PC2_ok (by decide))
  obtain ⟨m10, e10⟩ : ∃ q, q = si m9 0 t0 9 (gi m9 0 t1 9) := ⟨_, rfl⟩
  rw [← e10]
  have a10 : gi m10 0 t0 9 = gi m9 0 t1 9 := by
    rw [e10, gi_si, if_pos ⟨rfl, rfl, rfl⟩]
  have b10 : ∀ c t i, ¬ (c = 0 ∧ t = t0 ∧ i = 9) → gi m10 c t i = gi m9 c t i := fun c t i hc => by
    rw [e10, gi_si, if_neg hc]
  have f10 : Frq (PC2 t0) m9 m10 := by
    rw [e10]
    exact Frq.si (PC2_ok (by decide))
  refine ⟨m10, rfl, ⟨fun j hj => ?_, fun j hj => ?_, fun j hj => ?_, fun j hj => ?_, fun j hj => ?_, ?_, ?_, ?_, ?_, ?_⟩, ?_⟩
  · simp (disch := omega) only [a1, a2, a3, a4, a5, a6, a7, a8, a9, a10, b1, b2, b3, b4, b5, b6, b7, b8, b9, b10, h1]
  · simp (disch := omega) only [a1, a2, a3, a4, a5, a6, a7, a8, a9, a10, b1, b2, b3, b4, b5, b6, b7, b8, b9, b10, h2]
  · simp (disch := omega) only [a1, a2, a3, a4, a5, a6, a7, a8, a9, a10, b1, b2, b3, b4, b5, b6, b7, b8, b9, b10, h3]
  · simp (disch := omega) only [a1, a2, a3, a4, a5, a6, a7, a8, a9, a10, b1, b2, b3, b4, b5, b6, b7, b8, b9, b10, h4]
  · simp (disch := omega) only [a1, a2, a3, a4, a5, a6, a7, a8, a9, a10, b1, b2, b3, b4, b5, b6, b7, b8, b9, b10, h5]
  · simp (disch := omega) only [a1, a2, a3, a4, a5, a6, a7, a8, a9, a10, b1, b2, b3, b4, b5, b6, b7, b8, b9, b10, h6]
  · simp (disch := omega) only [a1, a2, a3, a4, a5, a6, a7, a8, a9, a10, b1, b2, b3, b4, b5, b6, b7, b8, b9, b10, h7]
  · simp (disch := omega) only [a1, a2, a3, a4, a5, a6, a7, a8, a9, a10, b1, b2, b3, b4, b5, b6, b7, b8, b9, b10, h8]
  · simp (disch := omega) only [a1, a2, a3, a4, a5, a6, a7, a8, a9, a10, b1, b2, b3, b4, b5, b6, b7, b8, b9, b10, h9]
  · simp (disch := omega) only [a1, a2, a3, a4, a5, a6, a7, a8, a9, a10, b1, b2, b3, b4, b5, b6, b7, b8, b9, b10, h10]
  · exact ((((((((f1.tr f2).tr f3).tr f4).tr f5).tr f6).tr f7).tr f8).tr f9).tr f10
/-- nothing is looked at -/
def NL (t : Nat) (m : gM) : Prop := ∀ i, i < 6 → gi m 10 t i = nI 0
theorem NL.ec {t : Nat} {A : Nat → Nat} {m : gM} (h : NL t m) : ECq t A m := fun i hi => Or.inl (h i hi)
def P10 (t1 : Nat) : Nat → Nat → Bool := fun c t => c == 10 && t == t1
theorem fforget (t : Nat) (m : gM) : ∃ m1, fX1_forget t m = some m1 ∧ NL t m1 ∧ Frq (P10 t) m m1 := by
  refine loop_ex (fun n x m2 => lX1_forget_2 t n (nI x) m2) (fun x m2 => Frq (P10 t) m m2 ∧ ∀ j, j < x → gi m2 10 t j = nI 0) (fun o => ∃ m1, o = some m1 ∧ NL t m1 ∧ Frq (P10 t) m m1) 6 (fun n x m2 hx hI => ?_) (fun n m2 hI => ?_) FU 0 m (by decide) (by decide) ⟨Frq.rf, fun j hj => absurd hj (Nat.not_lt_zero j)⟩
  · obtain ⟨f1, g1⟩ := hI
    refine ⟨si m2 10 t x (nI 0), ⟨f1.tr (Frq.si (by simp [P10])), fun j hj => ?_⟩, ?_⟩
    · by_cases c : j = x
      · subst c
        simp (disch := omega) only [gi_si, z_if, and_self, if_true]
      · simp (disch := omega) only [gi_si, z_ifn, g1]
    · rw [lX1_forget_2_s]
      simp (disch := omega) only [z_nn2, z0, z1, z2, z3, z4, z5, z6, z7, z8, z9, z10, z11, z12, z13, z14, z15, z16, z17, z18, z19, z20, z23, z24, z28, z31, z32, z33, z45, z46, z47, z48, z52, z57, z60, z63, z65, z70, z80, z95, z100, z126, z127, z128, z200, z240, z255, z400, z480, z500, z840, z1023, z2000, z99999, z1073741824, z_nn, z_add, z_sub, z_mul, z_div, z_rem, z_cl, z_in, z_chk, z_chkp, z_bnd, z_bn2, z_wth, z_bxr, z_bxl, z_bx2r, z_bx2l, z_bz0, z_bz1, z_mx, z_mn, z_tb1, z_tb0, z_eq, z_le, z_lt, z_nn_lt, z_nn_le, z_nn_ge, z_nn_gt, z_nn_eq, z_nn_eq2, z_bit, z_wow, z_wo, z_or, z_shl, z_if, z_ifn, fbit, if_true, if_false, Nat.zero_add, Nat.add_zero, not_false_iff, not_true, z_nar0]
  · obtain ⟨f1, g1⟩ := hI
    rw [lX1_forget_2_s]
    simp (disch := omega) only [z_nn2, z0, z1, z2, z3, z4, z5, z6, z7, z8, z9, z10, z11, z12, z13, z14, z15, z16, z17, z18, z19, z20, z23, z24, z28, z31, z32, z33, z45, z46, z47, z48, z52, z57, z60, z63, z65, z70, z80, z95, z100, z126, z127, z128, z200, z240, z255, z400, z480, z500, z840, z1023, z2000, z99999, z1073741824, z_nn, z_add, z_sub, z_mul, z_div, z_rem, z_cl, z_in, z_chk, z_chkp, z_bnd, z_bn2, z_wth, z_bxr, z_bxl, z_bx2r, z_bx2l, z_bz0, z_bz1, z_mx, z_mn, z_tb1, z_tb0, z_eq, z_le, z_lt, z_nn_lt, z_nn_le, z_nn_ge, z_nn_gt, z_nn_eq, z_nn_eq2, z_bit, z_wow, z_wo, z_or, z_shl, z_if, z_ifn, fbit, if_true, if_false, Nat.zero_add, Nat.add_zero, not_false_iff, not_true]
    exact ⟨m2, rfl, g1, f1⟩
/-- the saved states of the object: n of them, the next goes to p; Sv 0 is the latest -/
def IC2 (n p : Nat) (Sv : Nat → Nat → Nat) (m : gM) : Prop := gi m 12 0 9 = nI n ∧ gi m 12 0 10 = nI p ∧ ∀ j, j < n → CS (4 + (p + 5 - j) % 6) (Sv j) m
def psh (A : Nat → Nat) (Sv : Nat → Nat → Nat) : Nat → Nat → Nat := fun j => if j = 0 then A else Sv (j - 1)
def PSv : Nat → Nat → Bool := fun c t => (decide (c < 6) && decide (4 ≤ t)) || (c == 12 && t == 0) || (c == 10 && t == 0)
theorem fsaveState {A : Nat → Nat} {n p : Nat} {Sv : Nat → Nat → Nat} {m : gM} (h : CS 0 A m) (h2 : IC2 n p Sv m) (hn : n ≤ 6) (hp : p < 6) : ∃ m1, fX5_saveState m = some m1 ∧ CS 0 A m1 ∧ NL 0 m1 ∧ IC2 (min (n + 1) 6) (if p < 5 then p + 1 else 0) (psh A Sv) m1 ∧ Frq PSv m m1 := by
  obtain ⟨g1, g2, g3⟩ := h2
  obtain ⟨m2, e2, c2, f2⟩ := fcopy (t0 := 4 + p) h (by omega)
  have k9 : gi m2 12 0 9 = nI n := by rw [f2.1 12 0 9 (by simp [PC2])]; exact g1
  have k10 : gi m2 12 0 10 = nI p := by rw [f2.1 12 0 10 (by simp [PC2])]; exact g2
  have c0 : CS 0 A m2 := h.fr f2 (fun c hc => by simp [PC2]; omega)
  have f2' : Frq PSv m m2 := f2.mono (fun c t hc => by
    unfold PSv at hc
    unfold PC2
    simp at hc ⊢
    omega)
  unfold fX5_saveState
  simp (disch := omega) only [z_nn2, z0, z1, z2, z3, z4, z5, z6, z7, z8, z9, z10, z11, z12, z13, z14, z15, z16, z17, z18, z19, z20, z23, z24, z28, z31, z32, z33, z45, z46, z47, z48, z52, z57, z60, z63, z65, z70, z80, z95, z100, z126, z127, z128, z200, z240, z255, z400, z480, z500, z840, z1023, z2000, z99999, z1073741824, z_nn, z_add, z_sub, z_mul, z_div, z_rem, z_cl, z_in, z_chk, z_chkp, z_bnd, z_bn2, z_wth, z_bxr, z_bxl, z_bx2r, z_bx2l, z_bz0, z_bz1, z_mx, z_mn, z_tb1, z_tb0, z_eq, z_le, z_lt, z_nn_lt, z_nn_le, z_nn_ge, z_nn_gt, z_nn_eq, z_nn_eq2, z_bit, z_wow, z_wo, z_or, z_shl, z_if, z_ifn, fbit, if_true, if_false, Nat.zero_add, Nat.add_zero, not_false_iff, not_true, g2, e2, k10]
  have main : ∀ p2, p2 = (if p < 5 then p + 1 else 0) → ∃ m1, jX5_saveState_35 (nI p2) m2 = some m1 ∧ CS 0 A m1 ∧ NL 0 m1 ∧ IC2 (min (n + 1) 6) (if p < 5 then p + 1 else 0) (psh A Sv) m1 ∧ Frq PSv m m1 := by
    intro p2 hp2
    rw [← hp2]
    have k9' : gi (si m2 12 0 10 (nI p2)) 12 0 9 = nI n := by rw [gi_si, if_neg (fun z => by omega)]; exact k9
    unfold jX5_saveState_35
    simp (disch := omega) only [z_nn2, z0, z1, z2, z3, z4, z5, z6, z7, z8, z9, z10, z11, z12, z13, z14, z15, z16, z17, z18, z19, z20, z23, z24, z28, z31, z32, z33, z45, z46, z47, z48, z52, z57, z60, z63, z65, z70, z80, z95, z100, z126, z127, z128, z200, z240, z255, z400, z480, z500, z840, z1023, z2000, z99999, z1073741824, z_nn, z_add, z_sub, z_mul, z_div, z_rem, z_cl, z_in, z_chk, z_chkp, z_bnd, z_bn2, z_wth, z_bxr, z_bxl, z_bx2r, z_bx2l, z_bz0, z_bz1, z_mx, z_mn, z_tb1, z_tb0, z_eq, z_le, z_lt, z_nn_lt, z_nn_le, z_nn_ge, z_nn_gt, z_nn_eq, z_nn_eq2, z_bit, z_wow, z_wo, z_or, z_shl, z_if, z_ifn, fbit, if_true, if_false, Nat.zero_add, Nat.add_zero, not_false_iff, not_true, k9']
    obtain ⟨m4, e4, n4, f4⟩ := fforget 0 (si (si m2 12 0 10 (nI p2)) 12 0 9 (nI (min (n + 1) 6)))
    rw [e4]
    simp only [z_bnd]
    have fr3 : Frq PSv m2 m4 := ((Frq.si rfl).tr (Frq.si rfl)).tr (f4.mono (fun c t hc => by
      unfold PSv at hc
      unfold P10
      simp at hc ⊢
      omega))
    have fr4 : Frq (fun c t => c == 12 || c == 10) m2 m4 := ((Frq.si rfl).tr (Frq.si rfl)).tr (f4.mono (fun c t hc => by
      unfold P10
      simp at hc ⊢
      omega))
    refine ⟨m4, rfl, c0.fr fr4 (fun c hc => by simp; omega), n4, ⟨?_, ?_, fun j hj => ?_⟩, f2'.tr fr3⟩
    · rw [f4.1 12 0 9 rfl, gi_si, if_pos ⟨rfl, rfl, rfl⟩]
    · rw [f4.1 12 0 10 rfl, gi_si, if_neg (fun z => by omega), gi_si, if_pos ⟨rfl, rfl, rfl⟩]
    · unfold psh
      by_cases cj : j = 0
      · rw [if_pos cj]
        have e : (p2 + 5 - j) % 6 = p := by rw [hp2]; split <;> omega
        rw [e]
        exact c2.fr fr4 (fun c hc => by simp; omega)
      · rw [if_neg cj]
        have hj2 : j < n + 1 := Nat.lt_of_lt_of_le hj (Nat.min_le_left _ _)
        have hj3 : j < 6 := Nat.lt_of_lt_of_le hj (Nat.min_le_right _ _)
        have e : (p2 + 5 - j) % 6 = (p + 5 - (j - 1)) % 6 := by rw [hp2]; split <;> omega
        rw [e]
        have hne : 4 + (p + 5 - (j - 1)) % 6 ≠ 4 + p := by omega
        have c3 := g3 (j - 1) (by omega)
        exact (c3.fr f2 (fun c hc => by unfold PC2; simp; omega)).fr fr4 (fun c hc => by simp; omega)
  by_cases c5 : 5 ≤ p
  · rw [if_pos c5]
    exact main 0 (by rw [if_neg (by omega)])
  · rw [if_neg c5]
    exact main (p + 1) (by rw [if_pos (by omega)])
/-- the reference's saved states -/
def IR2 (n : Nat) (Sv : Nat → Nat → Nat) (m : gM) : Prop := gi m 21 0 3 = nI n ∧ ∀ j k, j < n → k < 80 → gi m 23 0 (80 * (n - 1 - j) + k) = nI (Sv j k)
def FS (m m1 : gM) : Prop := (∀ c t i, c ≠ 23 → (c = 21 → i ≠ 3) → gi m1 c t i = gi m c t i) ∧ ∀ c t, gl m1 c t = gl m c t
theorem FS.tr {m m1 m2 : gM} (h : FS m m1) (h2 : FS m1 m2) : FS m m2 := ⟨fun c t i a b => (h2.1 c t i a b).trans (h.1 c t i a b), fun c t => (h2.2 c t).trans (h.2 c t)⟩
theorem FS.s23 {m : gM} {i : Nat} {v : Int32} : FS m (si m 23 0 i v) := ⟨fun c t i a b => by rw [gi_si, if_neg (fun z => a z.1)], fun _ _ => rfl⟩
theorem FS.s21 {m : gM} {v : Int32} : FS m (si m 21 0 3 v) := ⟨fun c t i a b => by rw [gi_si, if_neg (fun z => b z.1 z.2.2)], fun _ _ => rfl⟩
theorem RMq.fs {A : Nat → Nat} {m m1 : gM} (h : RMq A m) (hf : FS m m1) : RMq A m1 := fun i hi => by rw [hf.1 22 0 i (by decide) (by omega)]; exact h i hi
theorem fsaves_j {A : Nat → Nat} {n : Nat} {m : gM} {Sv : Nat → Nat → Nat} (h : RMq A m) (hn : n < 6) (g1 : gi m 21 0 3 = nI n) (g2 : ∀ j k, j < n → k < 80 → gi m 23 0 (80 * (n - 1 - j) + k) = nI (Sv j k)) : ∃ m1, jX6_saves_49 m = some m1 ∧ IR2 (n + 1) (psh A Sv) m1 ∧ FS m m1 := by
  unfold jX6_saves_49
  simp only [z0]
  refine loop_ex (fun fu x m2 => lX6_saves_51 fu (nI x) m2) (fun x m2 => FS m m2 ∧ gi m2 21 0 3 = nI n ∧ (∀ k, k < x → gi m2 23 0 (80 * n + k) = nI (A k)) ∧ ∀ q, q < 80 * n → gi m2 23 0 q = gi m 23 0 q) (fun o => ∃ m1, o = some m1 ∧ IR2 (n + 1) (psh A Sv) m1 ∧ FS m m1) 80 (fun fu x m2 hx hI => ?_) (fun fu m2 hI => ?_) FU 0 m (by decide) (by decide) ⟨⟨fun _ _ _ _ _ => rfl, fun _ _ => rfl⟩, g1, fun k hk => absurd hk (Nat.not_lt_zero k), fun _ _ => rfl⟩
  · obtain ⟨a1, a2, a3, a4⟩ := hI
    have hr : RMq A m2 := h.fs a1
    refine ⟨si m2 23 0 (80 * n + x) (nI (A x)), ⟨a1.tr FS.s23, ?_, fun k hk => ?_, fun q hq => ?_⟩, ?_⟩
    · simp (disch := omega) only [gi_si, z_ifn, a2]
    · by_cases c : k = x
      · subst c
        simp (disch := omega) only [gi_si, z_if, and_self, if_true]
      · simp (disch := omega) only [gi_si, z_ifn, a3]
    · simp (disch := omega) only [gi_si, z_ifn, a4]
    · rw [lX6_saves_51_s]
      simp (disch := omega) only [z_nn2, z0, z1, z2, z3, z4, z5, z6, z7, z8, z9, z10, z11, z12, z13, z14, z15, z16, z17, z18, z19, z20, z23, z24, z28, z31, z32, z33, z45, z46, z47, z48, z52, z57, z60, z63, z65, z70, z80, z95, z100, z126, z127, z128, z200, z240, z255, z400, z480, z500, z840, z1023, z2000, z99999, z1073741824, z_nn, z_add, z_sub, z_mul, z_div, z_rem, z_cl, z_in, z_chk, z_chkp, z_bnd, z_bn2, z_wth, z_bxr, z_bxl, z_bx2r, z_bx2l, z_bz0, z_bz1, z_mx, z_mn, z_tb1, z_tb0, z_eq, z_le, z_lt, z_nn_lt, z_nn_le, z_nn_ge, z_nn_gt, z_nn_eq, z_nn_eq2, z_bit, z_wow, z_wo, z_or, z_shl, z_if, z_ifn, fbit, if_true, if_false, Nat.zero_add, Nat.add_zero, not_false_iff, not_true, a2, hr _]
  · obtain ⟨a1, a2, a3, a4⟩ := hI
    rw [lX6_saves_51_s]
    simp (disch := omega) only [z_nn2, z0, z1, z2, z3, z4, z5, z6, z7, z8, z9, z10, z11, z12, z13, z14, z15, z16, z17, z18, z19, z20, z23, z24, z28, z31, z32, z33, z45, z46, z47, z48, z52, z57, z60, z63, z65, z70, z80, z95, z100, z126, z127, z128, z200, z240, z255, z400, z480, z500, z840, z1023, z2000, z99999, z1073741824, z_nn, z_add, z_sub, z_mul, z_div, z_rem, z_cl, z_in, z_chk, z_chkp, z_bnd, z_bn2, z_wth, z_bxr, z_bxl, z_bx2r, z_bx2l, z_bz0, z_bz1, z_mx, z_mn, z_tb1, z_tb0, z_eq, z_le, z_lt, z_nn_lt, z_nn_le, z_nn_ge, z_nn_gt, z_nn_eq, z_nn_eq2, z_bit, z_wow, z_wo, z_or, z_shl, z_if, z_ifn, fbit, if_true, if_false, Nat.zero_add, Nat.add_zero, not_false_iff, not_true, jX6_saves_83, a2]
    refine ⟨_, rfl, ⟨?_, fun j k hj hk => ?_⟩, a1.tr FS.s21⟩
    · simp (disch := omega) only [gi_si, z_if, and_self, if_true]
    · rw [gi_si, if_neg (fun z => by omega)]
      unfold psh
      by_cases c : j = 0
      · rw [if_pos c, show 80 * (n + 1 - 1 - j) + k = 80 * n + k by omega]
        exact a3 k hk
      · rw [if_neg c, a4 _ (by omega), show 80 * (n + 1 - 1 - j) + k = 80 * (n - 1 - (j - 1)) + k by omega]
        exact g2 (j - 1) k (by omega) hk
theorem fsaves {A : Nat → Nat} {n : Nat} {m : gM} {Sv : Nat → Nat → Nat} (h : RMq A m) (h2 : IR2 n Sv m) (hn : n ≤ 6) : ∃ m1, fX6_saves m = some m1 ∧ IR2 (min (n + 1) 6) (psh A Sv) m1 ∧ FS m m1 := by
  obtain ⟨g1, g2⟩ := h2
  unfold fX6_saves
  simp (disch := omega) only [z_nn2, z0, z1, z2, z3, z4, z5, z6, z7, z8, z9, z10, z11, z12, z13, z14, z15, z16, z17, z18, z19, z20, z23, z24, z28, z31, z32, z33, z45, z46, z47, z48, z52, z57, z60, z63, z65, z70, z80, z95, z100, z126, z127, z128, z200, z240, z255, z400, z480, z500, z840, z1023, z2000, z99999, z1073741824, z_nn, z_add, z_sub, z_mul, z_div, z_rem, z_cl, z_in, z_chk, z_chkp, z_bnd, z_bn2, z_wth, z_bxr, z_bxl, z_bx2r, z_bx2l, z_bz0, z_bz1, z_mx, z_mn, z_tb1, z_tb0, z_eq, z_le, z_lt, z_nn_lt, z_nn_le, z_nn_ge, z_nn_gt, z_nn_eq, z_nn_eq2, z_bit, z_wow, z_wo, z_or, z_shl, z_if, z_ifn, fbit, if_true, if_false, Nat.zero_add, Nat.add_zero, not_false_iff, not_true, g1]
  by_cases c6 : n = 6
  · subst c6
    rw [if_pos rfl, show min (6 + 1) 6 = 5 + 1 from rfl]
    refine loop_ex (fun fu x m2 => lX6_saves_11 fu (nI x) m2) (fun x m2 => FS m m2 ∧ gi m2 21 0 3 = nI 6 ∧ ∀ q, q < 480 → gi m2 23 0 q = gi m 23 0 (if q < x then q + 80 else q)) (fun o => ∃ m1, o = some m1 ∧ IR2 (5 + 1) (psh A Sv) m1 ∧ FS m m1) 400 (fun fu x m2 hx hI => ?_) (fun fu m2 hI => ?_) FU 0 m (by decide) (by decide) ⟨⟨fun _ _ _ _ _ => rfl, fun _ _ => rfl⟩, g1, fun q hq => by rw [if_neg (Nat.not_lt_zero q)]⟩
    · obtain ⟨a1, a2, a3⟩ := hI
      refine ⟨si m2 23 0 x (gi m 23 0 (x + 80)), ⟨a1.tr FS.s23, ?_, fun q hq => ?_⟩, ?_⟩
      · simp (disch := omega) only [gi_si, z_ifn, a2]
      · by_cases c : q = x
        · subst c
          rw [gi_si, if_pos ⟨rfl, rfl, rfl⟩, if_pos (Nat.lt_succ_self _)]
        · rw [gi_si, if_neg (fun z => c z.2.2), a3 q hq]
          by_cases c2 : q < x
          · rw [if_pos c2, if_pos (by omega)]
          · rw [if_neg c2, if_neg (by omega)]
      · have e := a3 (x + 80) (by omega)
        rw [if_neg (by omega)] at e
        rw [lX6_saves_11_s]
        simp (disch := omega) only [z_nn2, z0, z1, z2, z3, z4, z5, z6, z7, z8, z9, z10, z11, z12, z13, z14, z15, z16, z17, z18, z19, z20, z23, z24, z28, z31, z32, z33, z45, z46, z47, z48, z52, z57, z60, z63, z65, z70, z80, z95, z100, z126, z127, z128, z200, z240, z255, z400, z480, z500, z840, z1023, z2000, z99999, z1073741824, z_nn, z_add, z_sub, z_mul, z_div, z_rem, z_cl, z_in, z_chk, z_chkp, z_bnd, z_bn2, z_wth, z_bxr, z_bxl, z_bx2r, z_bx2l, z_bz0, z_bz1, z_mx, z_mn, z_tb1, z_tb0, z_eq, z_le, z_lt, z_nn_lt, z_nn_le, z_nn_ge, z_nn_gt, z_nn_eq, z_nn_eq2, z_bit, z_wow, z_wo, z_or, z_shl, z_if, z_ifn, fbit, if_true, if_false, Nat.zero_add, Nat.add_zero, not_false_iff, not_true, e]
    · obtain ⟨a1, a2, a3⟩ := hI
      rw [lX6_saves_11_s]
      simp (disch := omega) only [z_nn2, z0, z1, z2, z3, z4, z5, z6, z7, z8, z9, z10, z11, z12, z13, z14, z15, z16, z17, z18, z19, z20, z23, z24, z28, z31, z32, z33, z45, z46, z47, z48, z52, z57, z60, z63, z65, z70, z80, z95, z100, z126, z127, z128, z200, z240, z255, z400, z480, z500, z840, z1023, z2000, z99999, z1073741824, z_nn, z_add, z_sub, z_mul, z_div, z_rem, z_cl, z_in, z_chk, z_chkp, z_bnd, z_bn2, z_wth, z_bxr, z_bxl, z_bx2r, z_bx2l, z_bz0, z_bz1, z_mx, z_mn, z_tb1, z_tb0, z_eq, z_le, z_lt, z_nn_lt, z_nn_le, z_nn_ge, z_nn_gt, z_nn_eq, z_nn_eq2, z_bit, z_wow, z_wo, z_or, z_shl, z_if, z_ifn, fbit, if_true, if_false, Nat.zero_add, Nat.add_zero, not_false_iff, not_true, jX6_saves_39, a2]
      obtain ⟨m1, e1, i1, f1⟩ := fsaves_j (n := 5) (Sv := Sv) (m := si m2 21 0 3 (nI (6 - 1))) ((h.fs a1).fs FS.s21) (by decide) (by rw [gi_si, if_pos ⟨rfl, rfl, rfl⟩]) (fun j k hj hk => by
        rw [gi_si, if_neg (fun z => by omega), a3 _ (by omega), if_pos (by omega), show 80 * (5 - 1 - j) + k + 80 = 80 * (6 - 1 - j) + k by omega]
        exact g2 j k (by omega) hk)
      exact ⟨m1, e1, i1, (a1.tr FS.s21).tr f1⟩
  · rw [if_neg c6, Nat.min_eq_left (by omega)]
    exact fsaves_j h (by omega) g1 g2
/-! another time -/
theorem WF_time {A : Nat → Nat} (w : WF A) {i v : Nat} (hi : i < 6) (hv : v ≤ 20) : WF (upq A (10 + 4 * i) v) := by
  obtain ⟨h0, h1, h2, h3, h4, h5, h6, h7, h8, h9, h10, g1, g2, g3, g4, g5⟩ := w
  refine ⟨?_, ?_, ?_, ?_, ?_, ?_, ?_, ?_, ?_, ?_, ?_, fun j hj => ?_, fun j hj => ?_, fun j hj => ?_, fun j hj => ?_, fun k hk => ?_⟩
  iterate 11 (rw [up_ne (by omega)]; assumption)
  · rw [up_ne (by omega)]; exact g1 j hj
  · rw [up_ne (by omega)]; exact g2 j hj
  · by_cases c : j = i
    · rw [up_eq (by omega)]; exact hv
    · rw [up_ne (by omega)]; exact g3 j hj
  · rw [up_ne (by omega)]; exact g4 j hj
  · rw [up_ne (by omega)]; exact g5 k hk
def P1t : Nat → Nat → Bool := fun c t => decide (c < 12) && t == 1
theorem ftimed {A : Nat → Nat} {m : gM} (h : CS 0 A m) (w : WF A) {i v : Nat} (hi : i < 6) (hv : v ≤ 20) : ∃ m1, fX5_meanIfTimed (nI i) (nI v) m = some (nI (mn2 (upq A (10 + 4 * i) v) i), m1) ∧ Frq P1t m m1 := by
  have w1 := WF_time w hi hv
  obtain ⟨m2, e2, c2, f2⟩ := fcopy (t0 := 1) h (by decide)
  obtain ⟨m3, e3, n3, f3⟩ := fforget 1 (si m2 3 1 i (nI v))
  have c3 : CS 1 (upq A (10 + 4 * i) v) m3 := (CS_time c2 hi).fr f3 (fun c hc => by unfold P10; simp; omega)
  obtain ⟨m4, e4, f4, ec4, ck4⟩ := flook c3 w1 n3.ec hi
  have c4 : CS 1 (upq A (10 + 4 * i) v) m4 := c3.fr f4 (fun c hc => PE_cs c 1 hc)
  unfold fX5_meanIfTimed
  simp (disch := omega) only [z_nn2, z0, z1, z2, z3, z4, z5, z6, z7, z8, z9, z10, z11, z12, z13, z14, z15, z16, z17, z18, z19, z20, z23, z24, z28, z31, z32, z33, z45, z46, z47, z48, z52, z57, z60, z63, z65, z70, z80, z95, z100, z126, z127, z128, z200, z240, z255, z400, z480, z500, z840, z1023, z2000, z99999, z1073741824, z_nn, z_add, z_sub, z_mul, z_div, z_rem, z_cl, z_in, z_chk, z_chkp, z_bnd, z_bn2, z_wth, z_bxr, z_bxl, z_bx2r, z_bx2l, z_bz0, z_bz1, z_mx, z_mn, z_tb1, z_tb0, z_eq, z_le, z_lt, z_nn_lt, z_nn_le, z_nn_ge, z_nn_gt, z_nn_eq, z_nn_eq2, z_bit, z_wow, z_wo, z_or, z_shl, z_if, z_ifn, fbit, if_true, if_false, Nat.zero_add, Nat.add_zero, not_false_iff, not_true, e2, e3, e4, fmean c4 w1 hi ck4]
  refine ⟨m4, rfl, ((f2.mono (fun c t hc => ?_)).tr (Frq.si rfl)).tr ((f3.mono (fun c t hc => ?_)).tr (f4.mono (fun c t hc => ?_)))⟩
  · unfold P1t at hc; unfold PC2; simp at hc ⊢; omega
  · unfold P1t at hc; unfold P10; simp at hc ⊢; omega
  · unfold P1t at hc; unfold PEq; simp at hc ⊢; omega
theorem ftimed6 {A : Nat → Nat} {m : gM} (h : RMq A m) (w : WF A) {i v : Nat} (hi : i < 6) (hv : v ≤ 20) : ∃ m1, fX6_timed (nI i) (nI v) m = some (nI (mn2 (upq A (10 + 4 * i) v) i), m1) ∧ RMq A m1 ∧ Frq (fun c _ => PVq c 0 || c == 22) m m1 := by
  have w1 := WF_time w hi hv
  have h1 : RMq (upq A (10 + 4 * i) v) (si m 22 0 (10 + 4 * i) (nI v)) := RM_up h
  obtain ⟨m2, e2, f2, v2⟩ := fviews h1 w1
  have r2 : RMq (upq A (10 + 4 * i) v) m2 := h1.fr f2 rfl
  have r3 : RMq (upq (upq A (10 + 4 * i) v) (10 + 4 * i) (A (10 + 4 * i))) (si m2 22 0 (10 + 4 * i) (nI (A (10 + 4 * i)))) := RM_up r2
  have e9 : upq (upq A (10 + 4 * i) v) (10 + 4 * i) (A (10 + 4 * i)) = A := by
    funext j
    unfold upq
    by_cases c : j = 10 + 4 * i
    · rw [if_pos c, c]
    · rw [if_neg c, if_neg c]
  rw [e9] at r3
  unfold fX6_timed fX6_lay
  simp (disch := omega) only [z_nn2, z0, z1, z2, z3, z4, z5, z6, z7, z8, z9, z10, z11, z12, z13, z14, z15, z16, z17, z18, z19, z20, z23, z24, z28, z31, z32, z33, z45, z46, z47, z48, z52, z57, z60, z63, z65, z70, z80, z95, z100, z126, z127, z128, z200, z240, z255, z400, z480, z500, z840, z1023, z2000, z99999, z1073741824, z_nn, z_add, z_sub, z_mul, z_div, z_rem, z_cl, z_in, z_chk, z_chkp, z_bnd, z_bn2, z_wth, z_bxr, z_bxl, z_bx2r, z_bx2l, z_bz0, z_bz1, z_mx, z_mn, z_tb1, z_tb0, z_eq, z_le, z_lt, z_nn_lt, z_nn_le, z_nn_ge, z_nn_gt, z_nn_eq, z_nn_eq2, z_bit, z_wow, z_wo, z_or, z_shl, z_if, z_ifn, fbit, if_true, if_false, Nat.zero_add, Nat.add_zero, not_false_iff, not_true, fof h, show 8 + 4 * i + 2 = 10 + 4 * i by omega, e2, fmean6 r2 w1 v2]
  refine ⟨_, rfl, r3, ((Frq.si rfl).tr (f2.mono (fun c t hc => ?_))).tr (Frq.si rfl)⟩
  unfold PVq at hc ⊢
  simp at hc ⊢
  omega
