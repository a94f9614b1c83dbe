/-! THE START: what the Statement gives, as Fx -/
abbrev FLs : List Cond := flatC (Jvm.Cond.and given_1 narrow_1)
theorem st_flags {l : Launch} (h : l.flags = flags0) : l.stackTraces = false := by
  unfold Launch.stackTraces
  rw [h]
  decide +kernel
theorem eq_int {args : Array Value} {s : State} {t : Term} {z : Int32} (h : (Cond.eq t (.int z)).before args s = true) : t.eval args s none [] s = some (.int z) := by
  cases hv : t.eval args s none [] s with
  | none => simp [Cond.before, Cond.holds, Cond.value, hv] at h
  | some w =>
    have hz : (Term.int z).eval args s none [] s = some (.int z) := rfl
    simp only [Cond.before, Cond.holds, Cond.value, hv, hz] at h
    cases w <;> simp_all
theorem arr_known {args : Array Value} {s : State} {ty : FieldType} (hn : ∀ C, ty ≠ .object C) (h : (Cond.arrayClass ty).before args s = true) : ∃ cA : ClassId, ArrOfT s cA ty ∧ va_RA s cA ty := by
  obtain ⟨c, k, comp, h1, h2, h3⟩ := Cond.arrayClass_spec (args := args) (first := s) (o := none) (s := s) (idx := []) h
  refine ⟨c, fun n z => ⟨fun k h => (by cases h), k, h2, comp, h3⟩, ?_⟩
  cases ty with
  | object C => exact absurd rfl (hn C)
  | _ => exact h1
theorem arr_knownq {args : Array Value} {s : State} {C : String} (h : (Cond.arrayOver (.object C)).before args s = true) : ∃ cA : ClassId, ArrOfT s cA (.object C) ∧ va_RA s cA (.object C) := by
  obtain ⟨comp, c, k, h1, h2, h3, h4, h5⟩ := Cond.arrayOver_spec (args := args) (first := s) (o := none) (s := s) (idx := []) h
  exact ⟨c, fun n z => ⟨fun k h => (by cases h), k, h3, comp, h4⟩, k, comp, h3, h4, h1, h5⟩
theorem str_known {args : Array Value} {s : State} {own : String} {k : Nat} (h : (Cond.exactly (.string own k) "java/lang/String").before args s = true) : ∃ a : Nat, (Term.string own k).eval args s none [] s = some (.ref a) := by
  obtain ⟨a, c, cell, kk, q1, -⟩ := Cond.exactly_spec (args := args) (first := s) (o := none) (s := s) (idx := []) h
  exact ⟨a, q1⟩
theorem st_len : ∀ i : Nat, i < 1 → ([18] : List Nat).getD i 0 < 2 ^ 31 := by
  intro i hi
  have h0 : i = 0 := by omega
  subst h0
  decide
theorem vk_S.one {adK adV : Nat → Nat} {A : Nat → Prop} {s : State} {H : Heap} (h : vk_S 1 [18] [tCodes] adK adV A s H) : vk_S 1 [18] [tCodes] (fun _ => adK 0) (fun _ => adV 0) A s H :=
  ⟨fun i hi => by
    have h0 : i = 0 := by omega
    subst h0
    exact h.1 0 hi, fun i j hi hj _ => by omega⟩
set_option maxRecDepth 20000 in
theorem st_el0 : ∀ j, j < 18 → Cond.eq (.elem (.static "LitDigits" "SIGN_MASKS" "[I") (.int (Int32.ofNat j))) (.int (tS0 j)) ∈ FLs := by decide +kernel
set_option maxRecDepth 20000 in
theorem st_el1 : ∀ j, j < 4 → Cond.eq (.elem (.static "LitDigits" "FIRST_SETTINGS" "[I") (.int (Int32.ofNat j))) (.int (tS1 j)) ∈ FLs := by decide +kernel
set_option maxRecDepth 20000 in
theorem st_el2 : ∀ j, j < 4 → Cond.eq (.elem (.static "LitDigits" "LEAST_SETTINGS" "[I") (.int (Int32.ofNat j))) (.int (tS2 j)) ∈ FLs := by decide +kernel
set_option maxRecDepth 20000 in
theorem st_el3 : ∀ j, j < 4 → Cond.eq (.elem (.static "LitDigits" "MOST_SETTINGS" "[I") (.int (Int32.ofNat j))) (.int (tS3 j)) ∈ FLs := by decide +kernel
set_option maxRecDepth 20000 in
theorem st_byT : ∀ j, j < 18 → Cond.eq (.elem (.field (.string "LitDigits$Text" 19) "java/lang/String" "value" "[B") (.int (Int32.ofNat j))) (.int (tCodes.getD j 0)) ∈ FLs := by decide +kernel
set_option maxRecDepth 20000 in
theorem st_byL : ∀ j, j < 18 → Cond.eq (.elem (.field (.string "LitDigits" 361) "java/lang/String" "value" "[B") (.int (Int32.ofNat j))) (.int (tCodes.getD j 0)) ∈ FLs := by decide +kernel
set_option maxHeartbeats 4000000 in
set_option maxRecDepth 100000 in
theorem fx_start {s : State} {b : Nat} (hts : ∀ w ∈ lw_tbl, w.before #[Value.ref b] s = true) (hgv : (Jvm.Cond.and given_1 narrow_1).before #[Value.ref b] s = true) : ∃ g : gG, lo g = s.heap.size ∧ Fx g s s.heap ∧ va_AO "LitDigits$State" s := by
  have hfl : ∀ w : Cond, w ∈ FLs → w.before #[Value.ref b] s = true := fun w h => flat_of_before _ hgv w h
  obtain ⟨c0, iS0, hKn0⟩ := u_known (C := RX0) (T := TX0) (N := 2) (n := 2) hts (fun w h => (List.mem_filter.mp (inA_0 w h)).1) (hts _ (List.mem_of_getElem? (i := 217) (by decide +kernel)))
  obtain ⟨c1, iS1, hKn1⟩ := u_known (C := RX1) (T := TX1) (N := 6) (n := 6) hts (fun w h => (List.mem_filter.mp (inA_1 w h)).1) (hts _ (List.mem_of_getElem? (i := 99) (by decide +kernel)))
  obtain ⟨c2, iS2, hKn2⟩ := u_known (C := RX2) (T := TX2) (N := 10) (n := 10) hts (fun w h => (List.mem_filter.mp (inA_2 w h)).1) (hts _ (List.mem_of_getElem? (i := 105) (by decide +kernel)))
  obtain ⟨c3, iS3, hKn3⟩ := u_known (C := RX3) (T := TX3) (N := 2) (n := 2) hts (fun w h => (List.mem_filter.mp (inA_3 w h)).1) (hts _ (List.mem_of_getElem? (i := 233) (by decide +kernel)))
  obtain ⟨c4, iS4, hKn4⟩ := u_known (C := RX4) (T := TX4) (N := 8) (n := 8) hts (fun w h => (List.mem_filter.mp (inA_4 w h)).1) (hts _ (List.mem_of_getElem? (i := 162) (by decide +kernel)))
  obtain ⟨c5, iS5, hKn5⟩ := u_known (C := RX5) (T := TX5) (N := 11) (n := 11) hts (fun w h => (List.mem_filter.mp (inA_5 w h)).1) (hts _ (List.mem_of_getElem? (i := 91) (by decide +kernel)))
  obtain ⟨c6, iS6, hKn6⟩ := u_known (C := RX6) (T := TX6) (N := 19) (n := 19) hts (fun w h => (List.mem_filter.mp (inA_6 w h)).1) (hts _ (List.mem_of_getElem? (i := 938) (by decide +kernel)))
  obtain ⟨a0, hA0, hR0⟩ := arr_known (ty := .int) (fun C => by simp) (hts _ (List.mem_of_getElem? (i := 160) (by decide +kernel)))
  obtain ⟨a1, hA1, hR1⟩ := arr_known (ty := .boolean) (fun C => by simp) (hts _ (List.mem_of_getElem? (i := 192) (by decide +kernel)))
  obtain ⟨a2, hA2, hR2⟩ := arr_known (ty := .char) (fun C => by simp) (hts _ (List.mem_of_getElem? (i := 247) (by decide +kernel)))
  obtain ⟨a3, hA3, hR3⟩ := arr_known (ty := .long) (fun C => by simp) (hts _ (List.mem_of_getElem? (i := 1329) (by decide +kernel)))
  have hO : va_AO "LitDigits$State" s := va_AO.of (hts _ (List.mem_of_getElem? (i := 249) (by decide +kernel)))
  obtain ⟨a4, hA4, hR4⟩ := arr_knownq (args := #[Value.ref b]) (C := "LitDigits$State") (va_AO.use hO)
  have hno : ∀ a : Nat, a < s.heap.size → ¬ s.heap.size ≤ a := fun a h => by omega
  obtain ⟨t0, et0, hT0⟩ := va_Tof (tm := .static "LitDigits" "SIGN_MASKS" "[I") (ty := .int) (N := 18) (f := fun j => .int (tS0 j)) (A := fun q => s.heap.size ≤ q) (by decide) (hfl (.arrayOf (.static "LitDigits" "SIGN_MASKS" "[I") .int) (by decide +kernel)) (eq_int (hfl (.eq (.length (.static "LitDigits" "SIGN_MASKS" "[I")) (.int (Int32.ofNat 18))) (by decide +kernel))) (fun j hj => eq_int (hfl _ (st_el0 j hj))) hno
  have hZ0 := va_Zref (A := fun q => s.heap.size ≤ q) (hts _ (List.mem_of_getElem? (i := 414) (by decide +kernel))) (hts _ (List.mem_of_getElem? (i := 67) (by decide +kernel))) et0 hno
  obtain ⟨t1, et1, hT1⟩ := va_Tof (tm := .static "LitDigits" "FIRST_SETTINGS" "[I") (ty := .int) (N := 4) (f := fun j => .int (tS1 j)) (A := fun q => s.heap.size ≤ q) (by decide) (hfl (.arrayOf (.static "LitDigits" "FIRST_SETTINGS" "[I") .int) (by decide +kernel)) (eq_int (hfl (.eq (.length (.static "LitDigits" "FIRST_SETTINGS" "[I")) (.int (Int32.ofNat 4))) (by decide +kernel))) (fun j hj => eq_int (hfl _ (st_el1 j hj))) hno
  have hZ1 := va_Zref (A := fun q => s.heap.size ≤ q) (hts _ (List.mem_of_getElem? (i := 111) (by decide +kernel))) (hts _ (List.mem_of_getElem? (i := 67) (by decide +kernel))) et1 hno
  obtain ⟨t2, et2, hT2⟩ := va_Tof (tm := .static "LitDigits" "LEAST_SETTINGS" "[I") (ty := .int) (N := 4) (f := fun j => .int (tS2 j)) (A := fun q => s.heap.size ≤ q) (by decide) (hfl (.arrayOf (.static "LitDigits" "LEAST_SETTINGS" "[I") .int) (by decide +kernel)) (eq_int (hfl (.eq (.length (.static "LitDigits" "LEAST_SETTINGS" "[I")) (.int (Int32.ofNat 4))) (by decide +kernel))) (fun j hj => eq_int (hfl _ (st_el2 j hj))) hno
  have hZ2 := va_Zref (A := fun q => s.heap.size ≤ q) (hts _ (List.mem_of_getElem? (i := 804) (by decide +kernel))) (hts _ (List.mem_of_getElem? (i := 67) (by decide +kernel))) et2 hno
  obtain ⟨t3, et3, hT3⟩ := va_Tof (tm := .static "LitDigits" "MOST_SETTINGS" "[I") (ty := .int) (N := 4) (f := fun j => .int (tS3 j)) (A := fun q => s.heap.size ≤ q) (by decide) (hfl (.arrayOf (.static "LitDigits" "MOST_SETTINGS" "[I") .int) (by decide +kernel)) (eq_int (hfl (.eq (.length (.static "LitDigits" "MOST_SETTINGS" "[I")) (.int (Int32.ofNat 4))) (by decide +kernel))) (fun j hj => eq_int (hfl _ (st_el3 j hj))) hno
  have hZ3 := va_Zref (A := fun q => s.heap.size ≤ q) (hts _ (List.mem_of_getElem? (i := 806) (by decide +kernel))) (hts _ (List.mem_of_getElem? (i := 67) (by decide +kernel))) et3 hno
  have hZc := va_Zof (A := fun q => s.heap.size ≤ q) (hts _ (List.mem_of_getElem? (i := 311) (by decide +kernel))) (hts _ (List.mem_of_getElem? (i := 83) (by decide +kernel))) (va_eqi (z := 1) (hfl (.eq (.static "java/lang/String" "COMPACT_STRINGS" "Z") (.int 1)) (by decide +kernel))) hno
  obtain ⟨adKT, adVT, hST, hET⟩ := vk_Sof (N := 1) (tm := fun _ => .string "LitDigits$Text" 19) (len := [18]) (byt := [tCodes]) (A := fun q => s.heap.size ≤ q) (args := #[Value.ref b]) (s := s) st_len (fun i hi => hfl (.exactly (.string "LitDigits$Text" 19) "java/lang/String") (by decide +kernel)) (fun i hi => hfl (.eq (.field (.string "LitDigits$Text" 19) "java/lang/String" "coder" "B") (.int 0)) (by decide +kernel)) (fun i hi => hfl (.arrayOf (.field (.string "LitDigits$Text" 19) "java/lang/String" "value" "[B") .byte) (by decide +kernel)) (fun i hi => by
    have h0 : i = 0 := by omega
    subst h0
    exact hfl (.eq (.length (.field (.string "LitDigits$Text" 19) "java/lang/String" "value" "[B")) (.int 18)) (by decide +kernel)) (fun i hi j hj => by
    have h0 : i = 0 := by omega
    subst h0
    exact hfl _ (st_byT j hj)) (fun i j hi hj hne => absurd (show i = j by omega) hne) hno
  obtain ⟨adKL, adVL, hSL, hEL⟩ := vk_Sof (N := 1) (tm := fun _ => .string "LitDigits" 361) (len := [18]) (byt := [tCodes]) (A := fun q => s.heap.size ≤ q) (args := #[Value.ref b]) (s := s) st_len (fun i hi => hfl (.exactly (.string "LitDigits" 361) "java/lang/String") (by decide +kernel)) (fun i hi => hfl (.eq (.field (.string "LitDigits" 361) "java/lang/String" "coder" "B") (.int 0)) (by decide +kernel)) (fun i hi => hfl (.arrayOf (.field (.string "LitDigits" 361) "java/lang/String" "value" "[B") .byte) (by decide +kernel)) (fun i hi => by
    have h0 : i = 0 := by omega
    subst h0
    exact hfl (.eq (.length (.field (.string "LitDigits" 361) "java/lang/String" "value" "[B")) (.int 18)) (by decide +kernel)) (fun i hi j hj => by
    have h0 : i = 0 := by omega
    subst h0
    exact hfl _ (st_byL j hj)) (fun i j hi hj hne => absurd (show i = j by omega) hne) hno
  obtain ⟨r0, hr0⟩ := str_known (hfl (.exactly (.string "LitDigits" 270) "java/lang/String") (by decide +kernel))
  obtain ⟨r1, hr1⟩ := str_known (hfl (.exactly (.string "LitDigits" 67) "java/lang/String") (by decide +kernel))
  obtain ⟨r2, hr2⟩ := str_known (hfl (.exactly (.string "LitDigits" 273) "java/lang/String") (by decide +kernel))
  obtain ⟨r3, hr3⟩ := str_known (hfl (.exactly (.string "LitDigits" 277) "java/lang/String") (by decide +kernel))
  obtain ⟨r4, hr4⟩ := str_known (hfl (.exactly (.string "LitDigits" 279) "java/lang/String") (by decide +kernel))
  obtain ⟨r5, hr5⟩ := str_known (hfl (.exactly (.string "LitDigits" 114) "java/lang/String") (by decide +kernel))
  obtain ⟨r6, hr6⟩ := str_known (hfl (.exactly (.string "LitDigits" 275) "java/lang/String") (by decide +kernel))
  obtain ⟨r7, hr7⟩ := str_known (hfl (.exactly (.string "LitDigits" 127) "java/lang/String") (by decide +kernel))
  obtain ⟨r8, hr8⟩ := str_known (hfl (.exactly (.string "LitDigits" 132) "java/lang/String") (by decide +kernel))
  obtain ⟨r9, hr9⟩ := str_known (hfl (.exactly (.string "LitDigits" 138) "java/lang/String") (by decide +kernel))
  obtain ⟨r10, hr10⟩ := str_known (hfl (.exactly (.string "LitDigits" 144) "java/lang/String") (by decide +kernel))
  obtain ⟨r11, hr11⟩ := str_known (hfl (.exactly (.string "LitDigits" 152) "java/lang/String") (by decide +kernel))
  obtain ⟨r12, hr12⟩ := str_known (hfl (.exactly (.string "LitDigits" 157) "java/lang/String") (by decide +kernel))
  obtain ⟨r13, hr13⟩ := str_known (hfl (.exactly (.string "LitDigits" 166) "java/lang/String") (by decide +kernel))
  obtain ⟨r14, hr14⟩ := str_known (hfl (.exactly (.string "LitDigits" 281) "java/lang/String") (by decide +kernel))
  obtain ⟨r15, hr15⟩ := str_known (hfl (.exactly (.string "LitDigits" 193) "java/lang/String") (by decide +kernel))
  obtain ⟨r16, hr16⟩ := str_known (hfl (.exactly (.string "LitDigits" 198) "java/lang/String") (by decide +kernel))
  obtain ⟨r17, hr17⟩ := str_known (hfl (.exactly (.string "LitDigits" 283) "java/lang/String") (by decide +kernel))
  obtain ⟨sxf, hsx⟩ : ∃ f : Nat → Nat, f = fun k => ([t0, t1, t2, t3, adKT 0, adVT 0, adKL 0, adVL 0, 0, 0, r0, r1, r2, r3, r4, r5, r6, r7, r8, r9, r10, r11, r12, r13, r14, r15, r16, r17] : List Nat).getD k 0 := ⟨_, rfl⟩
  have x0 : sxf 0 = t0 := by rw [hsx]; rfl
  have x1 : sxf 1 = t1 := by rw [hsx]; rfl
  have x2 : sxf 2 = t2 := by rw [hsx]; rfl
  have x3 : sxf 3 = t3 := by rw [hsx]; rfl
  have x4 : sxf 4 = adKT 0 := by rw [hsx]; rfl
  have x5 : sxf 5 = adVT 0 := by rw [hsx]; rfl
  have x6 : sxf 6 = adKL 0 := by rw [hsx]; rfl
  have x7 : sxf 7 = adVL 0 := by rw [hsx]; rfl
  have x8 : sxf 8 = 0 := by rw [hsx]; rfl
  have x9 : sxf 9 = 0 := by rw [hsx]; rfl
  have x10 : sxf 10 = r0 := by rw [hsx]; rfl
  have x11 : sxf 11 = r1 := by rw [hsx]; rfl
  have x12 : sxf 12 = r2 := by rw [hsx]; rfl
  have x13 : sxf 13 = r3 := by rw [hsx]; rfl
  have x14 : sxf 14 = r4 := by rw [hsx]; rfl
  have x15 : sxf 15 = r5 := by rw [hsx]; rfl
  have x16 : sxf 16 = r6 := by rw [hsx]; rfl
  have x17 : sxf 17 = r7 := by rw [hsx]; rfl
  have x18 : sxf 18 = r8 := by rw [hsx]; rfl
  have x19 : sxf 19 = r9 := by rw [hsx]; rfl
  have x20 : sxf 20 = r10 := by rw [hsx]; rfl
  have x21 : sxf 21 = r11 := by rw [hsx]; rfl
  have x22 : sxf 22 = r12 := by rw [hsx]; rfl
  have x23 : sxf 23 = r13 := by rw [hsx]; rfl
  have x24 : sxf 24 = r14 := by rw [hsx]; rfl
  have x25 : sxf 25 = r15 := by rw [hsx]; rfl
  have x26 : sxf 26 = r16 := by rw [hsx]; rfl
  have x27 : sxf 27 = r17 := by rw [hsx]; rfl
  refine ⟨((fun k => ([c0, c1, c2, c3, c4, c5, c6] : List ClassId).getD k 0, fun k => ([iS0, iS1, iS2, iS3, iS4, iS5, iS6] : List (Nat → Nat)).getD k iS0), (fun _ _ => 0), (fun k => ([a0, a1, a2, a3, a4] : List ClassId).getD k 0), s.heap.size, sxf), rfl, ⟨?_, ?_, ?_, ?_, ?_, ?_, ?_⟩, hO⟩
  · refine ⟨fun c q hq => ?_, fun k q hq => ?_⟩
    · match c, hq with
      | 0, hq => cases hq; exact hKn0
      | 1, hq => cases hq; exact hKn1
      | 2, hq => cases hq; exact hKn2
      | 3, hq => cases hq; exact hKn3
      | 4, hq => cases hq; exact hKn4
      | 5, hq => cases hq; exact hKn5
      | 6, hq => cases hq; exact hKn6
      | c + 7, hq => simp [vwCl] at hq
    · match k, hq with
      | 0, hq => cases hq; exact ⟨hA0, hR0⟩
      | 1, hq => cases hq; exact ⟨hA1, hR1⟩
      | 2, hq => cases hq; exact ⟨hA2, hR2⟩
      | 3, hq => cases hq; exact ⟨hA3, hR3⟩
      | 4, hq => cases hq; exact ⟨hA4, hR4⟩
      | k + 5, hq => simp [tys] at hq
  · refine ⟨⟨?_, ?_⟩, ⟨?_, ?_⟩, ⟨?_, ?_⟩, ⟨?_, ?_⟩, hZc⟩
    · show va_Z _ _ _ (.ref (sxf 0)) _ _ _; rw [x0]; exact hZ0
    · show va_T _ (sxf 0) _ _ _ _ _; rw [x0]; exact hT0
    · show va_Z _ _ _ (.ref (sxf 1)) _ _ _; rw [x1]; exact hZ1
    · show va_T _ (sxf 1) _ _ _ _ _; rw [x1]; exact hT1
    · show va_Z _ _ _ (.ref (sxf 2)) _ _ _; rw [x2]; exact hZ2
    · show va_T _ (sxf 2) _ _ _ _ _; rw [x2]; exact hT2
    · show va_Z _ _ _ (.ref (sxf 3)) _ _ _; rw [x3]; exact hZ3
    · show va_T _ (sxf 3) _ _ _ _ _; rw [x3]; exact hT3
  · exact ⟨va_Nw.of rfl (hts _ (List.mem_of_getElem? (i := 100) (by decide +kernel))), va_Nw.of rfl (hts _ (List.mem_of_getElem? (i := 110) (by decide +kernel))), va_Nw.of rfl (hts _ (List.mem_of_getElem? (i := 163) (by decide +kernel))), va_Nw.of rfl (hts _ (List.mem_of_getElem? (i := 218) (by decide +kernel))), va_Nw.of rfl (hts _ (List.mem_of_getElem? (i := 231) (by decide +kernel))), va_Nw.of rfl (hts _ (List.mem_of_getElem? (i := 234) (by decide +kernel))), va_Nw.of rfl (hts _ (List.mem_of_getElem? (i := 410) (by decide +kernel))), va_Nw.of rfl (hts _ (List.mem_of_getElem? (i := 415) (by decide +kernel))), va_Nw.of rfl (hts _ (List.mem_of_getElem? (i := 450) (by decide +kernel))), va_Nw.of rfl (hts _ (List.mem_of_getElem? (i := 461) (by decide +kernel))), va_Nw.of rfl (hts _ (List.mem_of_getElem? (i := 512) (by decide +kernel)))⟩
  · refine ⟨?_, ?_, ?_, ?_, ?_, ?_, ?_, ?_, ?_, ?_, ?_, ?_, ?_, ?_, ?_, ?_, ?_, ?_, ?_, ?_⟩
    · show vk_R _ _ _ (sxf 4) _; rw [x4]; exact vk_R.of (hts _ (List.mem_of_getElem? (i := 297) (by decide +kernel))) (hET 0 (by decide))
    · show vk_R _ _ _ (sxf 6) _; rw [x6]; exact vk_R.of (hts _ (List.mem_of_getElem? (i := 465) (by decide +kernel))) (hEL 0 (by decide))
    · show vk_R _ _ _ (sxf 10) _; rw [x10]; exact vk_R.of (hts _ (List.mem_of_getElem? (i := 682) (by decide +kernel))) (hr0)
    · show vk_R _ _ _ (sxf 11) _; rw [x11]; exact vk_R.of (hts _ (List.mem_of_getElem? (i := 717) (by decide +kernel))) (hr1)
    · show vk_R _ _ _ (sxf 12) _; rw [x12]; exact vk_R.of (hts _ (List.mem_of_getElem? (i := 745) (by decide +kernel))) (hr2)
    · show vk_R _ _ _ (sxf 13) _; rw [x13]; exact vk_R.of (hts _ (List.mem_of_getElem? (i := 763) (by decide +kernel))) (hr3)
    · show vk_R _ _ _ (sxf 14) _; rw [x14]; exact vk_R.of (hts _ (List.mem_of_getElem? (i := 775) (by decide +kernel))) (hr4)
    · show vk_R _ _ _ (sxf 15) _; rw [x15]; exact vk_R.of (hts _ (List.mem_of_getElem? (i := 785) (by decide +kernel))) (hr5)
    · show vk_R _ _ _ (sxf 16) _; rw [x16]; exact vk_R.of (hts _ (List.mem_of_getElem? (i := 802) (by decide +kernel))) (hr6)
    · show vk_R _ _ _ (sxf 17) _; rw [x17]; exact vk_R.of (hts _ (List.mem_of_getElem? (i := 807) (by decide +kernel))) (hr7)
    · show vk_R _ _ _ (sxf 18) _; rw [x18]; exact vk_R.of (hts _ (List.mem_of_getElem? (i := 815) (by decide +kernel))) (hr8)
    · show vk_R _ _ _ (sxf 19) _; rw [x19]; exact vk_R.of (hts _ (List.mem_of_getElem? (i := 816) (by decide +kernel))) (hr9)
    · show vk_R _ _ _ (sxf 20) _; rw [x20]; exact vk_R.of (hts _ (List.mem_of_getElem? (i := 818) (by decide +kernel))) (hr10)
    · show vk_R _ _ _ (sxf 21) _; rw [x21]; exact vk_R.of (hts _ (List.mem_of_getElem? (i := 836) (by decide +kernel))) (hr11)
    · show vk_R _ _ _ (sxf 22) _; rw [x22]; exact vk_R.of (hts _ (List.mem_of_getElem? (i := 837) (by decide +kernel))) (hr12)
    · show vk_R _ _ _ (sxf 23) _; rw [x23]; exact vk_R.of (hts _ (List.mem_of_getElem? (i := 845) (by decide +kernel))) (hr13)
    · show vk_R _ _ _ (sxf 24) _; rw [x24]; exact vk_R.of (hts _ (List.mem_of_getElem? (i := 860) (by decide +kernel))) (hr14)
    · show vk_R _ _ _ (sxf 25) _; rw [x25]; exact vk_R.of (hts _ (List.mem_of_getElem? (i := 868) (by decide +kernel))) (hr15)
    · show vk_R _ _ _ (sxf 26) _; rw [x26]; exact vk_R.of (hts _ (List.mem_of_getElem? (i := 876) (by decide +kernel))) (hr16)
    · show vk_R _ _ _ (sxf 27) _; rw [x27]; exact vk_R.of (hts _ (List.mem_of_getElem? (i := 887) (by decide +kernel))) (hr17)
  · refine ⟨?_, ?_⟩
    · show vk_S _ _ _ (fun _ => sxf 4) (fun _ => sxf 5) _ _ _; rw [x4, x5]; exact hST.one
    · show vk_S _ _ _ (fun _ => sxf 6) (fun _ => sxf 7) _ _ _; rw [x6, x7]; exact hSL.one
  · exact ⟨vx_Zqof (hts _ (List.mem_of_getElem? (i := 668) (by decide +kernel))) (hts _ (List.mem_of_getElem? (i := 74) (by decide +kernel))) (hfl (.isRef (.static "java/lang/Throwable" "UNASSIGNED_STACK" "[Ljava/lang/StackTraceElement;")) (by decide +kernel)) hno, vx_Zqof (hts _ (List.mem_of_getElem? (i := 670) (by decide +kernel))) (hts _ (List.mem_of_getElem? (i := 74) (by decide +kernel))) (hfl (.isRef (.static "java/lang/Throwable" "SUPPRESSED_SENTINEL" "Ljava/util/List;")) (by decide +kernel)) hno, va_Zqof (hts _ (List.mem_of_getElem? (i := 354) (by decide +kernel))) (hts _ (List.mem_of_getElem? (i := 86) (by decide +kernel))) (hfl (.isRef (.static "jdk/internal/util/Preconditions" "SIOOBE_FORMATTER" "Ljava/util/function/BiFunction;")) (by decide +kernel)) hno⟩
  · exact ⟨va_Nw.of rfl (hts _ (List.mem_of_getElem? (i := 710) (by decide +kernel))), va_Nw.of rfl (hts _ (List.mem_of_getElem? (i := 778) (by decide +kernel))), va_Nw.of rfl (hts _ (List.mem_of_getElem? (i := 643) (by decide +kernel))), va_Nw.of rfl (hts _ (List.mem_of_getElem? (i := 645) (by decide +kernel))), va_Nw.of rfl (hts _ (List.mem_of_getElem? (i := 647) (by decide +kernel))), va_Nw.of rfl (hts _ (List.mem_of_getElem? (i := 649) (by decide +kernel))), va_Nc.of (hfl (.not (.castable "java/lang/IllegalArgumentException" "java/lang/IllegalStateException")) (by decide +kernel)), va_Nc.of (hfl (.not (.castable "java/lang/IllegalArgumentException" "java/lang/IndexOutOfBoundsException")) (by decide +kernel)), va_Nc.of (hfl (.not (.castable "java/lang/IllegalStateException" "java/lang/IllegalArgumentException")) (by decide +kernel)), va_Nc.of (hfl (.not (.castable "java/lang/IllegalStateException" "java/lang/IndexOutOfBoundsException")) (by decide +kernel)), va_Nc.of (hfl (.not (.castable "java/lang/IndexOutOfBoundsException" "java/lang/IllegalArgumentException")) (by decide +kernel)), va_Nc.of (hfl (.not (.castable "java/lang/IndexOutOfBoundsException" "java/lang/IllegalStateException")) (by decide +kernel))⟩
