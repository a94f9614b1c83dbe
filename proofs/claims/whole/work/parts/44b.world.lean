set_option maxRecDepth 100000 in
set_option maxHeartbeats 16000000 in
theorem ld_world {g : gG} {h0 sz : Nat} {H : Heap} (h : B5 g h0 sz H) : ∃ ad : Nat → Nat → Nat, ad 12 0 = h0 ∧ va_P g.1 vwCl (WL g LDc ad) H ∧ va_D (va_A [(h0, .inr (5, [.null, .null, .null, .null, .null, .null, .null, .null, .null, .int 0, .int 0]))] sz) (WL g LDc ad) := by
  obtain ⟨q1, q2, q3, q4, q5, q6, q7, q8, q9, q10, q11, q12, q13, q14, q15, q16, q17, q18, q19, q20, q21, q22, q23, q24, q25, q26, q27, q28, q29, q30, q31, q33, q34, q35, q36, q37, q38, q40, q41, q42, q43, q44, q45, q47, q48, q50, q51, q52, q53, q54, q55, q57, q58, q59, q60, q61, q62, q64, q65, q66, q67, q68, q69, q71, q72, q73, q74, q75, q76, q78, q79, q80, q81, q82, q83, q85, q86, q87, q88, q89, q90, hP, hD⟩ := h
  refine ⟨fun c t => (([[q2, q14, q33, q40, q50, q57, q64, q71, q78, q85], [q3, q15, q34, q41, q51, q58, q65, q72, q79, q86], [q4, q16, q35, q42, q52, q59, q66, q73, q80, q87], [q5, q17, q36, q43, q53, q60, q67, q74, q81, q88], [q6, q18, q37, q44, q54, q61, q68, q75, q82, q89], [q7, q19, q38, q45, q55, q62, q69, q76, q83, q90], [q1, q13], [q8, q20], [q9, q21], [q10, q22], [q11, q23], [q12, q24, q28], [h0], [q25], [q26], [q27], [q29], [q30], [q31], [q47], [q48]] : List (List Nat)).getD c []).getD t 0, rfl, ?_⟩
  refine wl_of (I := IX5) ix5_inj hD ?_
  refine List.forall_mem_cons.mpr ⟨⟨_, rfl, hP 2 _ rfl⟩, ?_⟩
  refine List.forall_mem_cons.mpr ⟨⟨_, rfl, hP 14 _ rfl⟩, ?_⟩
  refine List.forall_mem_cons.mpr ⟨⟨_, rfl, hP 32 _ rfl⟩, ?_⟩
  refine List.forall_mem_cons.mpr ⟨⟨_, rfl, hP 38 _ rfl⟩, ?_⟩
  refine List.forall_mem_cons.mpr ⟨⟨_, rfl, hP 46 _ rfl⟩, ?_⟩
  refine List.forall_mem_cons.mpr ⟨⟨_, rfl, hP 52 _ rfl⟩, ?_⟩
  refine List.forall_mem_cons.mpr ⟨⟨_, rfl, hP 58 _ rfl⟩, ?_⟩
  refine List.forall_mem_cons.mpr ⟨⟨_, rfl, hP 64 _ rfl⟩, ?_⟩
  refine List.forall_mem_cons.mpr ⟨⟨_, rfl, hP 70 _ rfl⟩, ?_⟩
  refine List.forall_mem_cons.mpr ⟨⟨_, rfl, hP 76 _ rfl⟩, ?_⟩
  refine List.forall_mem_cons.mpr ⟨⟨_, rfl, hP 3 _ rfl⟩, ?_⟩
  refine List.forall_mem_cons.mpr ⟨⟨_, rfl, hP 15 _ rfl⟩, ?_⟩
  refine List.forall_mem_cons.mpr ⟨⟨_, rfl, hP 33 _ rfl⟩, ?_⟩
  refine List.forall_mem_cons.mpr ⟨⟨_, rfl, hP 39 _ rfl⟩, ?_⟩
  refine List.forall_mem_cons.mpr ⟨⟨_, rfl, hP 47 _ rfl⟩, ?_⟩
  refine List.forall_mem_cons.mpr ⟨⟨_, rfl, hP 53 _ rfl⟩, ?_⟩
  refine List.forall_mem_cons.mpr ⟨⟨_, rfl, hP 59 _ rfl⟩, ?_⟩
  refine List.forall_mem_cons.mpr ⟨⟨_, rfl, hP 65 _ rfl⟩, ?_⟩
  refine List.forall_mem_cons.mpr ⟨⟨_, rfl, hP 71 _ rfl⟩, ?_⟩
  refine List.forall_mem_cons.mpr ⟨⟨_, rfl, hP 77 _ rfl⟩, ?_⟩
  refine List.forall_mem_cons.mpr ⟨⟨_, rfl, hP 4 _ rfl⟩, ?_⟩
  refine List.forall_mem_cons.mpr ⟨⟨_, rfl, hP 16 _ rfl⟩, ?_⟩
  refine List.forall_mem_cons.mpr ⟨⟨_, rfl, hP 34 _ rfl⟩, ?_⟩
  refine List.forall_mem_cons.mpr ⟨⟨_, rfl, hP 40 _ rfl⟩, ?_⟩
  refine List.forall_mem_cons.mpr ⟨⟨_, rfl, hP 48 _ rfl⟩, ?_⟩
  refine List.forall_mem_cons.mpr ⟨⟨_, rfl, hP 54 _ rfl⟩, ?_⟩
  refine List.forall_mem_cons.mpr ⟨⟨_, rfl, hP 60 _ rfl⟩, ?_⟩
  refine List.forall_mem_cons.mpr ⟨⟨_, rfl, hP 66 _ rfl⟩, ?_⟩
  refine List.forall_mem_cons.mpr ⟨⟨_, rfl, hP 72 _ rfl⟩, ?_⟩
  refine List.forall_mem_cons.mpr ⟨⟨_, rfl, hP 78 _ rfl⟩, ?_⟩
  refine List.forall_mem_cons.mpr ⟨⟨_, rfl, hP 5 _ rfl⟩, ?_⟩
  refine List.forall_mem_cons.mpr ⟨⟨_, rfl, hP 17 _ rfl⟩, ?_⟩
  refine List.forall_mem_cons.mpr ⟨⟨_, rfl, hP 35 _ rfl⟩, ?_⟩
  refine List.forall_mem_cons.mpr ⟨⟨_, rfl, hP 41 _ rfl⟩, ?_⟩
  refine List.forall_mem_cons.mpr ⟨⟨_, rfl, hP 49 _ rfl⟩, ?_⟩
  refine List.forall_mem_cons.mpr ⟨⟨_, rfl, hP 55 _ rfl⟩, ?_⟩
  refine List.forall_mem_cons.mpr ⟨⟨_, rfl, hP 61 _ rfl⟩, ?_⟩
  refine List.forall_mem_cons.mpr ⟨⟨_, rfl, hP 67 _ rfl⟩, ?_⟩
  refine List.forall_mem_cons.mpr ⟨⟨_, rfl, hP 73 _ rfl⟩, ?_⟩
  refine List.forall_mem_cons.mpr ⟨⟨_, rfl, hP 79 _ rfl⟩, ?_⟩
  refine List.forall_mem_cons.mpr ⟨⟨_, rfl, hP 6 _ rfl⟩, ?_⟩
  refine List.forall_mem_cons.mpr ⟨⟨_, rfl, hP 18 _ rfl⟩, ?_⟩
  refine List.forall_mem_cons.mpr ⟨⟨_, rfl, hP 36 _ rfl⟩, ?_⟩
  refine List.forall_mem_cons.mpr ⟨⟨_, rfl, hP 42 _ rfl⟩, ?_⟩
  refine List.forall_mem_cons.mpr ⟨⟨_, rfl, hP 50 _ rfl⟩, ?_⟩
  refine List.forall_mem_cons.mpr ⟨⟨_, rfl, hP 56 _ rfl⟩, ?_⟩
  refine List.forall_mem_cons.mpr ⟨⟨_, rfl, hP 62 _ rfl⟩, ?_⟩
  refine List.forall_mem_cons.mpr ⟨⟨_, rfl, hP 68 _ rfl⟩, ?_⟩
  refine List.forall_mem_cons.mpr ⟨⟨_, rfl, hP 74 _ rfl⟩, ?_⟩
  refine List.forall_mem_cons.mpr ⟨⟨_, rfl, hP 80 _ rfl⟩, ?_⟩
  refine List.forall_mem_cons.mpr ⟨⟨_, rfl, hP 7 _ rfl⟩, ?_⟩
  refine List.forall_mem_cons.mpr ⟨⟨_, rfl, hP 19 _ rfl⟩, ?_⟩
  refine List.forall_mem_cons.mpr ⟨⟨_, rfl, hP 37 _ rfl⟩, ?_⟩
  refine List.forall_mem_cons.mpr ⟨⟨_, rfl, hP 43 _ rfl⟩, ?_⟩
  refine List.forall_mem_cons.mpr ⟨⟨_, rfl, hP 51 _ rfl⟩, ?_⟩
  refine List.forall_mem_cons.mpr ⟨⟨_, rfl, hP 57 _ rfl⟩, ?_⟩
  refine List.forall_mem_cons.mpr ⟨⟨_, rfl, hP 63 _ rfl⟩, ?_⟩
  refine List.forall_mem_cons.mpr ⟨⟨_, rfl, hP 69 _ rfl⟩, ?_⟩
  refine List.forall_mem_cons.mpr ⟨⟨_, rfl, hP 75 _ rfl⟩, ?_⟩
  refine List.forall_mem_cons.mpr ⟨⟨_, rfl, hP 81 _ rfl⟩, ?_⟩
  refine List.forall_mem_cons.mpr ⟨⟨_, rfl, hP 1 _ rfl⟩, ?_⟩
  refine List.forall_mem_cons.mpr ⟨⟨_, rfl, hP 13 _ rfl⟩, ?_⟩
  refine List.forall_mem_cons.mpr ⟨⟨_, rfl, hP 8 _ rfl⟩, ?_⟩
  refine List.forall_mem_cons.mpr ⟨⟨_, rfl, hP 20 _ rfl⟩, ?_⟩
  refine List.forall_mem_cons.mpr ⟨⟨_, rfl, hP 9 _ rfl⟩, ?_⟩
  refine List.forall_mem_cons.mpr ⟨⟨_, rfl, hP 21 _ rfl⟩, ?_⟩
  refine List.forall_mem_cons.mpr ⟨⟨_, rfl, hP 10 _ rfl⟩, ?_⟩
  refine List.forall_mem_cons.mpr ⟨⟨_, rfl, hP 22 _ rfl⟩, ?_⟩
  refine List.forall_mem_cons.mpr ⟨⟨_, rfl, hP 11 _ rfl⟩, ?_⟩
  refine List.forall_mem_cons.mpr ⟨⟨_, rfl, hP 23 _ rfl⟩, ?_⟩
  refine List.forall_mem_cons.mpr ⟨⟨_, rfl, hP 12 _ rfl⟩, ?_⟩
  refine List.forall_mem_cons.mpr ⟨⟨_, rfl, hP 24 _ rfl⟩, ?_⟩
  refine List.forall_mem_cons.mpr ⟨⟨_, rfl, hP 28 _ rfl⟩, ?_⟩
  refine List.forall_mem_cons.mpr ⟨⟨_, rfl, hP 0 _ rfl⟩, ?_⟩
  refine List.forall_mem_cons.mpr ⟨⟨_, rfl, hP 25 _ rfl⟩, ?_⟩
  refine List.forall_mem_cons.mpr ⟨⟨_, rfl, hP 26 _ rfl⟩, ?_⟩
  refine List.forall_mem_cons.mpr ⟨⟨_, rfl, hP 27 _ rfl⟩, ?_⟩
  refine List.forall_mem_cons.mpr ⟨⟨_, rfl, hP 29 _ rfl⟩, ?_⟩
  refine List.forall_mem_cons.mpr ⟨⟨_, rfl, hP 30 _ rfl⟩, ?_⟩
  refine List.forall_mem_cons.mpr ⟨⟨_, rfl, at_arr (hP 31 _ rfl) (fun i hi => by rcases (show i = 0 ∨ i = 1 by omega) with rfl | rfl <;> rfl)⟩, ?_⟩
  refine List.forall_mem_cons.mpr ⟨⟨_, rfl, hP 44 _ rfl⟩, ?_⟩
  refine List.forall_mem_cons.mpr ⟨⟨_, rfl, at_arr (hP 45 _ rfl) (fun i hi => by rcases (show i = 0 ∨ i = 1 ∨ i = 2 ∨ i = 3 ∨ i = 4 ∨ i = 5 by omega) with rfl | rfl | rfl | rfl | rfl | rfl <;> rfl)⟩, ?_⟩
  exact fun x hx => absurd hx List.not_mem_nil
